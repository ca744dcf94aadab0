/-! THE MODEL READS -/
def mtF (t : Nat → Int32) (len pos : Nat) (wr : Bool) (told : Nat) : Nat := if mpS t len pos wr then told else told + 1
theorem mpH_13 {t : Nat → Int32} {len told : Nat} {h : HP} {pos : Nat} {wr : Bool} (e : h 253 13 = nI told) : mpH t len told h pos wr 253 13 = nI (mtF t len pos wr told) := by
  unfold mpH mtF
  split
  · exact e
  · simp [hput]
theorem mpH_257 (t : Nat → Int32) (len told : Nat) (h : HP) (pos : Nat) (wr : Bool) : mpH t len told h pos wr 257 = h 257 := by
  unfold mpH
  split
  · rfl
  · funext j; simp [hput]
theorem mpH_10 (t : Nat → Int32) (len told : Nat) (h : HP) (pos : Nat) (wr : Bool) : mpH t len told h pos wr 253 10 = h 253 10 := by
  unfold mpH
  split
  · rfl
  · simp [hput]
theorem mtF_le {t : Nat → Int32} {len pos : Nat} {wr : Bool} {told n : Nat} (h : told < n) : mtF t len pos wr told ≤ n := by
  unfold mtF
  split <;> omega
def mrF (t : Nat → Int32) (len : Nat) : Nat → HP → Nat → Nat → Bool → HP × (Nat × (Nat × Bool))
  | 0, h, p, k, w => (h, p, k, w)
  | n + 1, h, p, k, w => if (!w && (decide (k < 4) && mgB t len p w 43)) = true then mrF t len n (mpH t len k h (mgP t len p w 43) w) (mpP t len (mgP t len p w 43) w) (mtF t len (mgP t len p w 43) w k) (mpS t len (mgP t len p w 43) w) else (h, p, k, w)
set_option maxRecDepth 100000 in
set_option maxHeartbeats 4000000 in
theorem lp_X8_reads {l : Launch} {G : GC} {ad : Nat → Nat} {h : HP} {len : Nat} (hl40 : len ≤ 40) {n0 : Nat} {b0 : HP} {p0 k0 : Nat} {w0 : Bool}  : ∀ (mu9 : Nat) (n : Nat) (b : HP) (pos : Nat) (told : Nat) (wr : Bool) (hp : pos ≤ 40) (hb : b 257 = h 257) (hb10 : b 253 10 = nI len) (hb13 : b 253 13 = nI told) (ht4 : told ≤ 4) (hn : wr = true ∨ 4 - told < n) (hF : mrF (h 257) len n0 b0 p0 k0 w0 = mrF (h 257) len n b pos told wr) (hmu9 : n < mu9), PW l G cX8_reads RX8 1 ((Option.none : Option FieldType)) [] { frames := 4, cells := 0, slots := 0, locals := 86 } (gNm "reads") (gME G SW ad (gR SW ad (none) (mR (mrF (h 257) len n0 b0 p0 k0 w0).1 (mrF (h 257) len n0 b0 p0 k0 w0).2.1 ((mrF (h 257) len n0 b0 p0 k0 w0).2.2.2 || decide ((mrF (h 257) len n0 b0 p0 k0 w0).2.1 < len)))) gNo 0 0) 48 [some (.ref (ad 253))] [] SW ad (mR b pos wr) 0 0 := by
  intro mu9
  induction mu9 with
  | zero => intro n b pos told wr hp hb hb10 hb13 ht4 hn hF hmu9; exact absurd hmu9 (Nat.not_lt_zero _)
  | succ mu9 ih =>
    intro n b pos told wr hp hb hb10 hb13 ht4 hn hF hmu9
    refine pw_aload_n dX8_reads_48 rfl ?_
    refine pw_geti dX8_reads_49 lf_X8_70 sh_253 rfl ?_
    refine pw_if_ne dX8_reads_52 (tgt := 79) (by decide) (fun c52 => ?_) (fun c52 => ?_)
    · skip
      have ew : wr = true := b2i_ne (by rw [mR_12] at c52; exact c52)
      have hR : mrF (h 257) len n0 b0 p0 k0 w0 = (b, pos, told, wr) := by
        rw [hF]
        cases n with
        | zero => rfl
        | succ n => rw [mrF, if_neg (by rw [ew]; simp)]
      refine pw_aload_n dX8_reads_79 rfl ?_
      refine pw_aload_n dX8_reads_80 rfl ?_
      refine pw_geti dX8_reads_81 lf_X8_70 sh_253 rfl ?_
      refine pw_if_ne dX8_reads_84 (tgt := 98) (by decide) (fun c84 => ?_) (fun c84 => ?_)
      · skip
        refine pw_iconst dX8_reads_98 (v := 1) (by decide) ?_
        refine pw_goto dX8_reads_99 (tgt := 103) (by decide) ?_
        refine pw_puti dX8_reads_103 lf_X8_70 lp_8_12 sh_253 rfl rfl rfl ?_
        have ez : (wr || decide (pos < len)) = true := by rw [b2i_ne (b := wr) (by rw [mR_12] at c84; exact c84)]; rfl
        refine pw_heq (show _ = mR b pos (wr || decide (pos < len)) from by rw [ez]; exact mR_wr b pos wr true) ?_
        exact pw_retF dX8_reads_106 rfl rfl (by rw [hR])
      · skip
        refine pw_aload_n dX8_reads_87 rfl ?_
        refine pw_geti dX8_reads_88 lf_X8_74 sh_253 rfl ?_
        refine pw_aload_n dX8_reads_91 rfl ?_
        refine pw_geti dX8_reads_92 lf_X8_77 sh_253 rfl ?_
        refine pw_icmp_ge dX8_reads_95 (tgt := 102) (by decide) (fun c95 => ?_) (fun c95 => ?_)
        · skip
          refine pw_iconst dX8_reads_102 (v := 0) (by decide) ?_
          refine pw_puti dX8_reads_103 lf_X8_70 lp_8_12 sh_253 rfl rfl rfl ?_
          have ez : (wr || decide (pos < len)) = false := by
            rw [b2i_eq (b := wr) (by rw [mR_12] at c84; exact c84), decide_eq_false (fun q => nI_ge q (by omega) (by rw [mR_11, mR_10, hb10] at c95; exact c95))]; rfl
          refine pw_heq (show _ = mR b pos (wr || decide (pos < len)) from by rw [ez]; exact mR_wr b pos wr false) ?_
          exact pw_retF dX8_reads_106 rfl rfl (by rw [hR])
        · skip
          refine pw_iconst dX8_reads_98 (v := 1) (by decide) ?_
          refine pw_goto dX8_reads_99 (tgt := 103) (by decide) ?_
          refine pw_puti dX8_reads_103 lf_X8_70 lp_8_12 sh_253 rfl rfl rfl ?_
          have ez : (wr || decide (pos < len)) = true := by
            have q9 : pos < len := by
              rcases Nat.lt_or_ge pos len with q | q
              · exact q
              · exact absurd (by rw [mR_11, mR_10, hb10]; exact nI_le q (by omega)) c95
            rw [decide_eq_true q9, Bool.or_true]
          refine pw_heq (show _ = mR b pos (wr || decide (pos < len)) from by rw [ez]; exact mR_wr b pos wr true) ?_
          exact pw_retF dX8_reads_106 rfl rfl (by rw [hR])
    · skip
      refine pw_aload_n dX8_reads_55 rfl ?_
      refine pw_geti dX8_reads_56 lf_X8_92 sh_253 rfl ?_
      rw [mR_13, hb13]
      refine pw_iconst dX8_reads_59 (v := 4) (by decide) ?_
      refine pw_icmp_ge dX8_reads_60 (tgt := 79) (by decide) (fun c60 => ?_) (fun c60 => ?_)
      · skip
        have ek : ¬ told < 4 := fun q => nI_ge (b := 4) q (by decide) c60
        have hR : mrF (h 257) len n0 b0 p0 k0 w0 = (b, pos, told, wr) := by
          rw [hF]
          cases n with
          | zero => rfl
          | succ n => rw [mrF, if_neg (by rw [decide_eq_false ek]; simp)]
        refine pw_aload_n dX8_reads_79 rfl ?_
        refine pw_aload_n dX8_reads_80 rfl ?_
        refine pw_geti dX8_reads_81 lf_X8_70 sh_253 rfl ?_
        refine pw_if_ne dX8_reads_84 (tgt := 98) (by decide) (fun c84 => ?_) (fun c84 => ?_)
        · skip
          refine pw_iconst dX8_reads_98 (v := 1) (by decide) ?_
          refine pw_goto dX8_reads_99 (tgt := 103) (by decide) ?_
          refine pw_puti dX8_reads_103 lf_X8_70 lp_8_12 sh_253 rfl rfl rfl ?_
          have ez : (wr || decide (pos < len)) = true := by rw [b2i_ne (b := wr) (by rw [mR_12] at c84; exact c84)]; rfl
          refine pw_heq (show _ = mR b pos (wr || decide (pos < len)) from by rw [ez]; exact mR_wr b pos wr true) ?_
          exact pw_retF dX8_reads_106 rfl rfl (by rw [hR])
        · skip
          refine pw_aload_n dX8_reads_87 rfl ?_
          refine pw_geti dX8_reads_88 lf_X8_74 sh_253 rfl ?_
          refine pw_aload_n dX8_reads_91 rfl ?_
          refine pw_geti dX8_reads_92 lf_X8_77 sh_253 rfl ?_
          refine pw_icmp_ge dX8_reads_95 (tgt := 102) (by decide) (fun c95 => ?_) (fun c95 => ?_)
          · skip
            refine pw_iconst dX8_reads_102 (v := 0) (by decide) ?_
            refine pw_puti dX8_reads_103 lf_X8_70 lp_8_12 sh_253 rfl rfl rfl ?_
            have ez : (wr || decide (pos < len)) = false := by
              rw [b2i_eq (b := wr) (by rw [mR_12] at c84; exact c84), decide_eq_false (fun q => nI_ge q (by omega) (by rw [mR_11, mR_10, hb10] at c95; exact c95))]; rfl
            refine pw_heq (show _ = mR b pos (wr || decide (pos < len)) from by rw [ez]; exact mR_wr b pos wr false) ?_
            exact pw_retF dX8_reads_106 rfl rfl (by rw [hR])
          · skip
            refine pw_iconst dX8_reads_98 (v := 1) (by decide) ?_
            refine pw_goto dX8_reads_99 (tgt := 103) (by decide) ?_
            refine pw_puti dX8_reads_103 lf_X8_70 lp_8_12 sh_253 rfl rfl rfl ?_
            have ez : (wr || decide (pos < len)) = true := by
              have q9 : pos < len := by
                rcases Nat.lt_or_ge pos len with q | q
                · exact q
                · exact absurd (by rw [mR_11, mR_10, hb10]; exact nI_le q (by omega)) c95
              rw [decide_eq_true q9, Bool.or_true]
            refine pw_heq (show _ = mR b pos (wr || decide (pos < len)) from by rw [ez]; exact mR_wr b pos wr true) ?_
            exact pw_retF dX8_reads_106 rfl rfl (by rw [hR])
      · skip
        have ht9 : told < 4 := ltN (N := 4) rfl ht4 (by decide) c60
        refine pw_aload_n dX8_reads_63 rfl ?_
        refine pw_bipush dX8_reads_64 (v := 43) (by decide) ?_
        refine pw_cV dX8_reads_66 (sp_X8_goesOn hb10 hl40 hp) mi_X8_goesOn mv_X8_goesOn ml_X8_88 sh_253 rfl rfl rfl rfl ⟨rfl, rfl⟩ rfl rfl ?_
        rw [hb]
        refine pw_if_eq dX8_reads_69 (tgt := 79) (by decide) (fun c69 => ?_) (fun c69 => ?_)
        · skip
          have eg : mgB (h 257) len pos wr 43 = false := b2i_eq c69
          rw [show mgP (h 257) len pos wr 43 = pos from by rw [mgP, eg]; rfl]
          have hR : mrF (h 257) len n0 b0 p0 k0 w0 = (b, pos, told, wr) := by
            rw [hF]
            cases n with
            | zero => rfl
            | succ n => rw [mrF, if_neg (by rw [eg]; simp)]
          refine pw_aload_n dX8_reads_79 rfl ?_
          refine pw_aload_n dX8_reads_80 rfl ?_
          refine pw_geti dX8_reads_81 lf_X8_70 sh_253 rfl ?_
          refine pw_if_ne dX8_reads_84 (tgt := 98) (by decide) (fun c84 => ?_) (fun c84 => ?_)
          · skip
            refine pw_iconst dX8_reads_98 (v := 1) (by decide) ?_
            refine pw_goto dX8_reads_99 (tgt := 103) (by decide) ?_
            refine pw_puti dX8_reads_103 lf_X8_70 lp_8_12 sh_253 rfl rfl rfl ?_
            have ez : (wr || decide (pos < len)) = true := by rw [b2i_ne (b := wr) (by rw [mR_12] at c84; exact c84)]; rfl
            refine pw_heq (show _ = mR b pos (wr || decide (pos < len)) from by rw [ez]; exact mR_wr b pos wr true) ?_
            exact pw_retF dX8_reads_106 rfl rfl (by rw [hR])
          · skip
            refine pw_aload_n dX8_reads_87 rfl ?_
            refine pw_geti dX8_reads_88 lf_X8_74 sh_253 rfl ?_
            refine pw_aload_n dX8_reads_91 rfl ?_
            refine pw_geti dX8_reads_92 lf_X8_77 sh_253 rfl ?_
            refine pw_icmp_ge dX8_reads_95 (tgt := 102) (by decide) (fun c95 => ?_) (fun c95 => ?_)
            · skip
              refine pw_iconst dX8_reads_102 (v := 0) (by decide) ?_
              refine pw_puti dX8_reads_103 lf_X8_70 lp_8_12 sh_253 rfl rfl rfl ?_
              have ez : (wr || decide (pos < len)) = false := by
                rw [b2i_eq (b := wr) (by rw [mR_12] at c84; exact c84), decide_eq_false (fun q => nI_ge q (by omega) (by rw [mR_11, mR_10, hb10] at c95; exact c95))]; rfl
              refine pw_heq (show _ = mR b pos (wr || decide (pos < len)) from by rw [ez]; exact mR_wr b pos wr false) ?_
              exact pw_retF dX8_reads_106 rfl rfl (by rw [hR])
            · skip
              refine pw_iconst dX8_reads_98 (v := 1) (by decide) ?_
              refine pw_goto dX8_reads_99 (tgt := 103) (by decide) ?_
              refine pw_puti dX8_reads_103 lf_X8_70 lp_8_12 sh_253 rfl rfl rfl ?_
              have ez : (wr || decide (pos < len)) = true := by
                have q9 : pos < len := by
                  rcases Nat.lt_or_ge pos len with q | q
                  · exact q
                  · exact absurd (by rw [mR_11, mR_10, hb10]; exact nI_le q (by omega)) c95
                rw [decide_eq_true q9, Bool.or_true]
              refine pw_heq (show _ = mR b pos (wr || decide (pos < len)) from by rw [ez]; exact mR_wr b pos wr true) ?_
              exact pw_retF dX8_reads_106 rfl rfl (by rw [hR])
        · skip
          refine pw_aload_n dX8_reads_72 rfl ?_
          refine pw_cVn dX8_reads_73 (sp_X8_readsPart (h := b) (pos := mgP (h 257) len pos wr 43) (wr := wr) hb10 hl40 (mgP_le hl40 hp) hb13 ht9) mi_X8_readsPart mv_X8_readsPart ml_X8_95 sh_253 rfl rfl rfl rfl ⟨rfl, rfl⟩ rfl rfl ?_
          rw [hb]
          refine pw_goto dX8_reads_76 (tgt := 48) (by decide) ?_
          have eg : mgB (h 257) len pos wr 43 = true := b2i_ne c69
          have ew : wr = false := b2i_eq (by rw [mR_12] at c52; exact c52)
          have hn2 : 4 - told < n := hn.elim (fun q => by rw [ew] at q; cases q) id
          obtain ⟨n, rfl⟩ : ∃ z, n = z + 1 := ⟨n - 1, by omega⟩
          rw [mrF, if_pos (by rw [ew, decide_eq_true ht9, ← ew, eg, ew]; rfl)] at hF
          exact ih n _ _ _ _ (mpP_le hl40 (mgP_le hl40 hp)) (by rw [mpH_257]; exact hb) (by rw [mpH_10]; exact hb10) (mpH_13 hb13) (mtF_le ht9) (by
            rcases Bool.eq_false_or_eq_true (mpS (h 257) len (mgP (h 257) len pos wr 43) wr) with q | q
            · exact Or.inl q
            · right; rw [mtF, q]; simp; omega) hF (by omega)

