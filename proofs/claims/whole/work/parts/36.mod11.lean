/-! THE MODEL READS, as a whole -/
def h0M (h : HP) : HP := hput h 253 13 0
theorem h0M_257 (h : HP) : h0M h 257 = h 257 := by funext j; simp [h0M, hput]
theorem h0M_10 (h : HP) : h0M h 253 10 = h 253 10 := by simp [h0M, hput]
theorem h0M_13 (h : HP) : h0M h 253 13 = nI 0 := by simp [h0M, hput]; rfl
/-- after the first part: contents, position, wrong, told; after the sign; after the second part -/
def r1H (h : HP) (len : Nat) : HP := mpH (h 257) len 0 (h0M h) 0 false
def r1P (h : HP) (len : Nat) : Nat := mpP (h 257) len 0 false
def r1S (h : HP) (len : Nat) : Bool := mpS (h 257) len 0 false
def r1K (h : HP) (len : Nat) : Nat := mtF (h 257) len 0 false 0
def r2P (h : HP) (len : Nat) : Nat := if r1S h len then r1P h len else mgP (h 257) len (r1P h len) (r1S h len) 43
def r2S (h : HP) (len : Nat) : Bool := r1S h len || !(mgB (h 257) len (r1P h len) (r1S h len) 43)
def r3H (h : HP) (len : Nat) : HP := mpH (h 257) len (r1K h len) (r1H h len) (r2P h len) (r2S h len)
def r3P (h : HP) (len : Nat) : Nat := mpP (h 257) len (r2P h len) (r2S h len)
def r3S (h : HP) (len : Nat) : Bool := mpS (h 257) len (r2P h len) (r2S h len)
def r3K (h : HP) (len : Nat) : Nat := mtF (h 257) len (r2P h len) (r2S h len) (r1K h len)
def rdR (h : HP) (len : Nat) : HP × (Nat × (Nat × Bool)) := mrF (h 257) len 5 (r3H h len) (r3P h len) (r3K h len) (r3S h len)
def rdH (h : HP) (len : Nat) : HP := mR (rdR h len).1 (rdR h len).2.1 ((rdR h len).2.2.2 || decide ((rdR h len).2.1 < len))
theorem r1P_le {h : HP} {len : Nat} (hl : len ≤ 40) : r1P h len ≤ 40 := mpP_le hl (by omega)
theorem r2P_le {h : HP} {len : Nat} (hl : len ≤ 40) : r2P h len ≤ 40 := by
  unfold r2P
  split
  · exact r1P_le hl
  · exact mgP_le hl (r1P_le hl)
theorem r1K_le (h : HP) (len : Nat) : r1K h len ≤ 1 := mtF_le (by omega)
theorem r3K_le (h : HP) (len : Nat) : r3K h len ≤ 2 := mtF_le (by have := r1K_le h len; omega)
theorem r1_257 (h : HP) (len : Nat) : r1H h len 257 = h 257 := by rw [r1H, mpH_257, h0M_257]
theorem r3_257 (h : HP) (len : Nat) : r3H h len 257 = h 257 := by rw [r3H, mpH_257, r1_257]
theorem r1_10 (h : HP) (len : Nat) : r1H h len 253 10 = h 253 10 := by rw [r1H, mpH_10, h0M_10]
theorem r3_10 (h : HP) (len : Nat) : r3H h len 253 10 = h 253 10 := by rw [r3H, mpH_10, r1_10]
theorem r1_13 (h : HP) (len : Nat) : r1H h len 253 13 = nI (r1K h len) := mpH_13 (h0M_13 h)
theorem r3_13 (h : HP) (len : Nat) : r3H h len 253 13 = nI (r3K h len) := mpH_13 (r1_13 h len)
set_option maxRecDepth 100000 in
set_option maxHeartbeats 4000000 in
theorem sp_X8_reads {l : Launch} {G : GC} {ad : Nat → Nat} {h : HP} {len : Nat} (hlen : h 253 10 = nI len) (hl40 : len ≤ 40) : PF l G yX8_reads (.code yX8_reads cX8_reads 1 ((Option.none : Option FieldType))) { frames := 4, cells := 0, slots := 0, locals := 86 } [.ref (ad 253)] SW ad (h) (none) (rdH h len) := by
  refine PF.mk (L0 := [some (.ref (ad 253))]) RX8 "reads" 0 0 (by decide +kernel) rfl rfl ⟨rfl, rfl⟩ (by simp [Value.category]) (Nat.le_of_ble_eq_true rfl) rfl ?_
  refine pw_aload_n dX8_reads_0 rfl ?_
  refine pw_iconst dX8_reads_1 (v := 0) (by decide) ?_
  refine pw_puti dX8_reads_2 lf_X8_74 lp_8_11 sh_253 rfl rfl rfl ?_
  refine pw_aload_n dX8_reads_5 rfl ?_
  refine pw_iconst dX8_reads_6 (v := 0) (by decide) ?_
  refine pw_puti dX8_reads_7 lf_X8_70 lp_8_12 sh_253 rfl rfl rfl ?_
  refine pw_aload_n dX8_reads_10 rfl ?_
  refine pw_iconst dX8_reads_11 (v := 0) (by decide) ?_
  refine pw_puti dX8_reads_12 lf_X8_92 lp_8_13 sh_253 rfl rfl rfl ?_
  refine pw_heq (show _ = mR (h0M h) 0 false from ?_) ?_
  · funext q j; simp only [mR, h0M, hput, b2i]; split <;> (try split) <;> (try split) <;> (try split) <;> (first | rfl | (simp_all; done) | (simp_all; rfl))
  refine pw_aload_n dX8_reads_15 rfl ?_
  refine pw_cVn dX8_reads_16 (sp_X8_readsPart (h := h0M h) (pos := 0) (wr := false) (by rw [h0M_10]; exact hlen) hl40 (by omega) (h0M_13 h) (by decide)) mi_X8_readsPart mv_X8_readsPart ml_X8_95 sh_253 rfl rfl rfl rfl ⟨rfl, rfl⟩ rfl rfl ?_
  rw [h0M_257]
  refine pw_heq (show _ = mR (r1H h len) (r1P h len) (r1S h len) from rfl) ?_
  refine pw_aload_n dX8_reads_19 rfl ?_
  refine pw_aload_n dX8_reads_20 rfl ?_
  refine pw_geti dX8_reads_21 lf_X8_70 sh_253 rfl ?_
  refine pw_if_ne dX8_reads_24 (tgt := 36) (by decide) (fun c24 => ?_) (fun c24 => ?_)
  · skip
    refine pw_iconst dX8_reads_36 (v := 1) (by decide) ?_
    refine pw_goto dX8_reads_37 (tgt := 41) (by decide) ?_
    refine pw_puti dX8_reads_41 lf_X8_70 lp_8_12 sh_253 rfl rfl rfl ?_
    have ew : r1S h len = true := b2i_ne (by rw [mR_12] at c24; exact c24)
    refine pw_heq (show _ = mR (r1H h len) (r2P h len) (r2S h len) from ?_) ?_
    · rw [r2P, if_pos ew, r2S, ew, Bool.true_or]; exact mR_wr _ _ _ true
    refine pw_aload_n dX8_reads_44 rfl ?_
    refine pw_cVn dX8_reads_45 (sp_X8_readsPart (h := r1H h len) (by rw [r1_10]; exact hlen) hl40 (r2P_le hl40) (r1_13 h len) (by have := r1K_le h len; omega)) mi_X8_readsPart mv_X8_readsPart ml_X8_95 sh_253 rfl rfl rfl rfl ⟨rfl, rfl⟩ rfl rfl ?_
    rw [r1_257]
    refine pw_heq (show _ = mR (r3H h len) (r3P h len) (r3S h len) from rfl) ?_
    exact lp_X8_reads (h := h) (n0 := 5) (b0 := r3H h len) (p0 := r3P h len) (k0 := r3K h len) (w0 := r3S h len) hl40 6 5 _ _ _ _ (mpP_le hl40 (r2P_le hl40)) (r3_257 h len) (by rw [r3_10]; exact hlen) (r3_13 h len) (by have := r3K_le h len; omega) (Or.inr (by omega)) rfl (by decide)
  · skip
    refine pw_aload_n dX8_reads_27 rfl ?_
    refine pw_bipush dX8_reads_28 (v := 43) (by decide) ?_
    refine pw_cV dX8_reads_30 (sp_X8_goesOn (h := r1H h len) (by rw [r1_10]; exact hlen) hl40 (r1P_le hl40)) mi_X8_goesOn mv_X8_goesOn ml_X8_88 sh_253 rfl rfl rfl rfl ⟨rfl, rfl⟩ rfl rfl ?_
    rw [r1_257]
    refine pw_if_ne dX8_reads_33 (tgt := 40) (by decide) (fun c33 => ?_) (fun c33 => ?_)
    · skip
      refine pw_iconst dX8_reads_40 (v := 0) (by decide) ?_
      refine pw_puti dX8_reads_41 lf_X8_70 lp_8_12 sh_253 rfl rfl rfl ?_
      have ew : r1S h len = false := b2i_eq (by rw [mR_12] at c24; exact c24)
      have eg : mgB (h 257) len (r1P h len) (r1S h len) 43 = true := b2i_ne c33
      refine pw_heq (show _ = mR (r1H h len) (r2P h len) (r2S h len) from ?_) ?_
      · rw [r2P, if_neg (by rw [ew]; decide), r2S, eg, ew]; exact mR_wr _ _ _ false
      refine pw_aload_n dX8_reads_44 rfl ?_
      refine pw_cVn dX8_reads_45 (sp_X8_readsPart (h := r1H h len) (by rw [r1_10]; exact hlen) hl40 (r2P_le hl40) (r1_13 h len) (by have := r1K_le h len; omega)) mi_X8_readsPart mv_X8_readsPart ml_X8_95 sh_253 rfl rfl rfl rfl ⟨rfl, rfl⟩ rfl rfl ?_
      rw [r1_257]
      refine pw_heq (show _ = mR (r3H h len) (r3P h len) (r3S h len) from rfl) ?_
      exact lp_X8_reads (h := h) (n0 := 5) (b0 := r3H h len) (p0 := r3P h len) (k0 := r3K h len) (w0 := r3S h len) hl40 6 5 _ _ _ _ (mpP_le hl40 (r2P_le hl40)) (r3_257 h len) (by rw [r3_10]; exact hlen) (r3_13 h len) (by have := r3K_le h len; omega) (Or.inr (by omega)) rfl (by decide)
    · skip
      refine pw_iconst dX8_reads_36 (v := 1) (by decide) ?_
      refine pw_goto dX8_reads_37 (tgt := 41) (by decide) ?_
      refine pw_puti dX8_reads_41 lf_X8_70 lp_8_12 sh_253 rfl rfl rfl ?_
      have ew : r1S h len = false := b2i_eq (by rw [mR_12] at c24; exact c24)
      have eg : mgB (h 257) len (r1P h len) (r1S h len) 43 = false := b2i_eq c33
      refine pw_heq (show _ = mR (r1H h len) (r2P h len) (r2S h len) from ?_) ?_
      · rw [r2P, if_neg (by rw [ew]; decide), r2S, eg, ew]; exact mR_wr _ _ _ true
      refine pw_aload_n dX8_reads_44 rfl ?_
      refine pw_cVn dX8_reads_45 (sp_X8_readsPart (h := r1H h len) (by rw [r1_10]; exact hlen) hl40 (r2P_le hl40) (r1_13 h len) (by have := r1K_le h len; omega)) mi_X8_readsPart mv_X8_readsPart ml_X8_95 sh_253 rfl rfl rfl rfl ⟨rfl, rfl⟩ rfl rfl ?_
      rw [r1_257]
      refine pw_heq (show _ = mR (r3H h len) (r3P h len) (r3S h len) from rfl) ?_
      exact lp_X8_reads (h := h) (n0 := 5) (b0 := r3H h len) (p0 := r3P h len) (k0 := r3K h len) (w0 := r3S h len) hl40 6 5 _ _ _ _ (mpP_le hl40 (r2P_le hl40)) (r3_257 h len) (by rw [r3_10]; exact hlen) (r3_13 h len) (by have := r3K_le h len; omega) (Or.inr (by omega)) rfl (by decide)

