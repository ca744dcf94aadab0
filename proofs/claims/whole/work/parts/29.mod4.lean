/-! HOW THE MODEL READS -/
def mR (h : HP) (pos : Nat) (wr : Bool) : HP := hput (hput h 253 12 (b2i wr)) 253 11 (nI pos)
theorem mR_wr (h : HP) (pos : Nat) (s s' : Bool) : hput (mR h pos s) 253 12 (b2i s') = mR h pos s' := by
  funext q j; simp only [mR, hput]; split <;> (try split) <;> (try split) <;> simp_all
theorem mR_at (h : HP) (pos p' : Nat) (s : Bool) : hput (mR h pos s) 253 11 (nI p') = mR h p' s := by
  funext q j; simp only [mR, hput]; split <;> (try split) <;> (try split) <;> simp_all
theorem mR_put (h : HP) (pos : Nat) (s : Bool) {p : Nat} (k : Nat) (v : Int32) (hp : p ≠ 253) : hput (mR h pos s) p k v = mR (hput h p k v) pos s := by
  funext q j; simp only [mR, hput]; split <;> (try split) <;> (try split) <;> (try split) <;> simp_all
theorem mR_put13 (h : HP) (pos : Nat) (s : Bool) (v : Int32) : hput (mR h pos s) 253 13 v = mR (hput h 253 13 v) pos s := by
  funext q j; simp only [mR, hput]; split <;> (try split) <;> (try split) <;> (try split) <;> simp_all
theorem mR_11 (h : HP) (pos : Nat) (s : Bool) : mR h pos s 253 11 = nI pos := by simp [mR, hput]
theorem mR_12 (h : HP) (pos : Nat) (s : Bool) : mR h pos s 253 12 = b2i s := by simp [mR, hput]
theorem mR_10 (h : HP) (pos : Nat) (s : Bool) : mR h pos s 253 10 = h 253 10 := by simp [mR, hput]
theorem mR_13 (h : HP) (pos : Nat) (s : Bool) : mR h pos s 253 13 = h 253 13 := by simp [mR, hput]
theorem mR_o (h : HP) (pos : Nat) (s : Bool) {q : Nat} (hq : q ≠ 253) : mR h pos s q = h q := by funext j; simp [mR, hput, hq]
/-- a digit stands there; a sign stands there -/
def mdD (t : Nat → Int32) (len pos : Nat) (wr : Bool) : Bool := !wr && (decide (pos < len) && wiB (t pos) 48 57)
def mgB (t : Nat → Int32) (len pos : Nat) (wr : Bool) (c : Int32) : Bool := !wr && (decide (pos < len) && decide (t pos = c))
def mgP (t : Nat → Int32) (len pos : Nat) (wr : Bool) (c : Int32) : Nat := if mgB t len pos wr c then pos + 1 else pos
theorem mdD_lt {t : Nat → Int32} {len pos : Nat} {wr : Bool} (h : mdD t len pos wr = true) : wr = false ∧ pos < len := by
  simp only [mdD, Bool.and_eq_true, Bool.not_eq_true', decide_eq_true_eq] at h
  exact ⟨h.1, h.2.1⟩
theorem mgP_le {t : Nat → Int32} {len pos : Nat} {wr : Bool} {c : Int32} (hl : len ≤ 40) (h : pos ≤ 40) : mgP t len pos wr c ≤ 40 := by
  unfold mgP
  split
  · rename_i q
    simp only [mgB, Bool.and_eq_true, decide_eq_true_eq] at q
    omega
  · exact h
def mnF (t : Nat → Int32) (len : Nat) : Nat → Int32 → Nat → Int32 × Nat
  | 0, n, p => (n, p)
  | m + 1, n, p => if decide (0 < n) && mdD t len p false then mnF t len m (10 * n + t p - 48) (p + 1) else (n, p)
theorem mnF_le (t : Nat → Int32) (len : Nat) (hl : len ≤ 40) : ∀ (m : Nat) (n : Int32) (p : Nat), p ≤ 40 → (mnF t len m n p).2 ≤ 40
  | 0, _, _, h => h
  | m + 1, n, p, h => by
    unfold mnF
    split
    · rename_i q
      rw [Bool.and_eq_true] at q
      have := (mdD_lt q.2).2
      exact mnF_le t len hl m _ _ (by omega)
    · exact h
def mn (t : Nat → Int32) (len pos : Nat) (wr : Bool) : Int32 × Nat := if mdD t len pos wr then mnF t len 3 (t pos - 48) (pos + 1) else (0, pos)
def mnS (t : Nat → Int32) (len pos : Nat) (wr : Bool) : Bool := !mdD t len pos wr
theorem mn_le {t : Nat → Int32} {len pos : Nat} {wr : Bool} (hl : len ≤ 40) (h : pos ≤ 40) : (mn t len pos wr).2 ≤ 40 := by
  unfold mn
  split
  · rename_i q
    have := (mdD_lt q).2
    exact mnF_le t len hl _ _ _ (by omega)
  · exact h
theorem md_t {t : Nat → Int32} {len pos : Nat} {wr : Bool} (h1 : wr = false) (h2 : pos < len) (h3 : wiB (t pos) 48 57 = true) : mdD t len pos wr = true := by simp [mdD, h1, h2, h3]
theorem md_f {t : Nat → Int32} {len pos : Nat} {wr : Bool} (h : wr = true ∨ ¬ pos < len ∨ wiB (t pos) 48 57 = false) : mdD t len pos wr = false := by
  rcases h with q | q | q <;> simp [mdD, q]
theorem mg_t {t : Nat → Int32} {len pos : Nat} {wr : Bool} {c : Int32} (h1 : wr = false) (h2 : pos < len) (h3 : t pos = c) : mgB t len pos wr c = true := by simp [mgB, h1, h2, h3]
theorem mg_f {t : Nat → Int32} {len pos : Nat} {wr : Bool} {c : Int32} (h : wr = true ∨ ¬ pos < len ∨ ¬ t pos = c) : mgB t len pos wr c = false := by
  rcases h with q | q | q <;> simp [mgB, q]
set_option maxRecDepth 100000 in
set_option maxHeartbeats 4000000 in
theorem sp_X8_isDigit {l : Launch} {G : GC} {ad : Nat → Nat} {h : HP} {len : Nat} (hlen : h 253 10 = nI len) (hl40 : len ≤ 40) {pos : Nat} (hp : pos ≤ 40) {wr : Bool} : PF l G yX8_isDigit (.code yX8_isDigit cX8_isDigit 1 ((Option.some FieldType.boolean))) { frames := 1, cells := 0, slots := 0, locals := 22 } [.ref (ad 253)] SW ad (mR h pos wr) (some (.int (b2i (mdD (h 257) len pos wr)))) (mR h pos wr) := by
  refine PF.mk (L0 := [some (.ref (ad 253))]) RX8 "isDigit" 0 0 (by decide +kernel) rfl rfl ⟨rfl, rfl⟩ (by simp [Value.category]) (Nat.le_of_ble_eq_true rfl) rfl ?_
  refine pw_aload_n dX8_isDigit_0 rfl ?_
  refine pw_geti dX8_isDigit_1 lf_X8_70 sh_253 rfl ?_
  refine pw_if_ne dX8_isDigit_4 (tgt := 41) (by decide) (fun c4 => ?_) (fun c4 => ?_)
  · skip
    refine pw_iconst dX8_isDigit_41 (v := 0) (by decide) ?_
    exact pw_iretF dX8_isDigit_42 rfl rfl rfl (by rw [md_f (Or.inl (b2i_ne (by rw [mR_12] at c4; exact c4)))]; rfl) rfl
  · skip
    refine pw_aload_n dX8_isDigit_7 rfl ?_
    refine pw_geti dX8_isDigit_8 lf_X8_74 sh_253 rfl ?_
    refine pw_aload_n dX8_isDigit_11 rfl ?_
    refine pw_geti dX8_isDigit_12 lf_X8_77 sh_253 rfl ?_
    refine pw_icmp_ge dX8_isDigit_15 (tgt := 41) (by decide) (fun c15 => ?_) (fun c15 => ?_)
    · skip
      refine pw_iconst dX8_isDigit_41 (v := 0) (by decide) ?_
      exact pw_iretF dX8_isDigit_42 rfl rfl rfl (by rw [md_f (Or.inr (Or.inl (fun q => nI_ge q (by omega) (by rw [mR_11, mR_10, hlen] at c15; exact c15))))]; rfl) rfl
    · skip
      have hi9 : pos < len := by
        rcases Nat.lt_or_ge pos len with q | q
        · exact q
        · exact absurd (by rw [mR_11, mR_10, hlen]; exact nI_le q (by omega)) c15
      refine pw_aload_n dX8_isDigit_18 rfl ?_
      refine pw_getr dX8_isDigit_19 lf_X8_23 sh_253 rfl ?_
      refine pw_aload_n dX8_isDigit_22 rfl ?_
      refine pw_geti dX8_isDigit_23 lf_X8_74 sh_253 rfl ?_
      refine pw_caload dX8_isDigit_26 sh_257 (by rw [mR_11]; exact vpin (N := 40) (by omega) (by decide)) ?_
      rw [mR_11, nI_cl (by omega), mR_o h pos wr (by decide)]
      refine pw_bipush dX8_isDigit_27 (v := 48) (by decide) ?_
      refine pw_bipush dX8_isDigit_29 (v := 57) (by decide) ?_
      refine pw_cS dX8_isDigit_31 (sp_X8_isIn) mi_X8_isIn ms_X8_isIn ml_X8_55 rfl rfl ⟨rfl, rfl⟩ rfl rfl ?_
      refine pw_if_eq dX8_isDigit_34 (tgt := 41) (by decide) (fun c34 => ?_) (fun c34 => ?_)
      · skip
        refine pw_iconst dX8_isDigit_41 (v := 0) (by decide) ?_
        exact pw_iretF dX8_isDigit_42 rfl rfl rfl (by rw [md_f (Or.inr (Or.inr (b2i_eq c34)))]; rfl) rfl
      · skip
        refine pw_iconst dX8_isDigit_37 (v := 1) (by decide) ?_
        refine pw_goto dX8_isDigit_38 (tgt := 42) (by decide) ?_
        exact pw_iretF dX8_isDigit_42 rfl rfl rfl (by rw [md_t (b2i_eq (by rw [mR_12] at c4; exact c4)) hi9 (b2i_ne c34)]; rfl) rfl

set_option maxRecDepth 100000 in
set_option maxHeartbeats 4000000 in
theorem sp_X8_goesOn {l : Launch} {G : GC} {ad : Nat → Nat} {h : HP} {len : Nat} (hlen : h 253 10 = nI len) (hl40 : len ≤ 40) {pos : Nat} (hp : pos ≤ 40) {wr : Bool} {c : Int32} : PF l G yX8_goesOn (.code yX8_goesOn cX8_goesOn 3 ((Option.some FieldType.boolean))) { frames := 0, cells := 0, slots := 0, locals := 0 } [.ref (ad 253), .int (c)] SW ad (mR h pos wr) (some (.int (b2i (mgB (h 257) len pos wr c)))) (mR h (mgP (h 257) len pos wr c) wr) := by
  refine PF.mk (L0 := [some (.ref (ad 253)), some (.int (c)), none]) RX8 "goesOn" 0 0 (by decide +kernel) rfl rfl ⟨rfl, rfl⟩ (by simp [Value.category]) (Nat.le_of_ble_eq_true rfl) rfl ?_
  refine pw_aload_n dX8_goesOn_0 rfl ?_
  refine pw_geti dX8_goesOn_1 lf_X8_70 sh_253 rfl ?_
  refine pw_if_ne dX8_goesOn_4 (tgt := 35) (by decide) (fun c4 => ?_) (fun c4 => ?_)
  · skip
    have e9 : mgB (h 257) len pos wr c = false := mg_f (Or.inl (b2i_ne (by rw [mR_12] at c4; exact c4)))
    refine pw_iconst dX8_goesOn_35 (v := 0) (by decide) ?_
    refine pw_istore_n dX8_goesOn_36 (by decide) rfl ?_
    refine pw_aload_n dX8_goesOn_37 rfl ?_
    refine pw_dup dX8_goesOn_38 rfl ?_
    refine pw_geti dX8_goesOn_39 lf_X8_74 sh_253 rfl ?_
    refine pw_iload_n dX8_goesOn_42 rfl ?_
    refine pw_if_eq dX8_goesOn_43 (tgt := 50) (by decide) (fun c43 => ?_) (fun c43 => absurd c43 (by decide))
    refine pw_iconst dX8_goesOn_50 (v := 0) (by decide) ?_
    refine pw_iadd dX8_goesOn_51 ?_
    rw [mR_11, Int32.add_zero]
    refine pw_puti dX8_goesOn_52 lf_X8_74 lp_8_11 sh_253 rfl rfl rfl ?_
    rw [mR_at]
    refine pw_iload_n dX8_goesOn_55 rfl ?_
    exact pw_iretF dX8_goesOn_56 rfl rfl rfl (by rw [e9]; rfl) (by rw [mgP, e9]; rfl)
  · skip
    refine pw_aload_n dX8_goesOn_7 rfl ?_
    refine pw_geti dX8_goesOn_8 lf_X8_74 sh_253 rfl ?_
    refine pw_aload_n dX8_goesOn_11 rfl ?_
    refine pw_geti dX8_goesOn_12 lf_X8_77 sh_253 rfl ?_
    refine pw_icmp_ge dX8_goesOn_15 (tgt := 35) (by decide) (fun c15 => ?_) (fun c15 => ?_)
    · skip
      have e9 : mgB (h 257) len pos wr c = false := mg_f (Or.inr (Or.inl (fun q => nI_ge q (by omega) (by rw [mR_11, mR_10, hlen] at c15; exact c15))))
      refine pw_iconst dX8_goesOn_35 (v := 0) (by decide) ?_
      refine pw_istore_n dX8_goesOn_36 (by decide) rfl ?_
      refine pw_aload_n dX8_goesOn_37 rfl ?_
      refine pw_dup dX8_goesOn_38 rfl ?_
      refine pw_geti dX8_goesOn_39 lf_X8_74 sh_253 rfl ?_
      refine pw_iload_n dX8_goesOn_42 rfl ?_
      refine pw_if_eq dX8_goesOn_43 (tgt := 50) (by decide) (fun c43 => ?_) (fun c43 => absurd c43 (by decide))
      refine pw_iconst dX8_goesOn_50 (v := 0) (by decide) ?_
      refine pw_iadd dX8_goesOn_51 ?_
      rw [mR_11, Int32.add_zero]
      refine pw_puti dX8_goesOn_52 lf_X8_74 lp_8_11 sh_253 rfl rfl rfl ?_
      rw [mR_at]
      refine pw_iload_n dX8_goesOn_55 rfl ?_
      exact pw_iretF dX8_goesOn_56 rfl rfl rfl (by rw [e9]; rfl) (by rw [mgP, e9]; rfl)
    · skip
      have hi9 : pos < len := by
        rcases Nat.lt_or_ge pos len with q | q
        · exact q
        · exact absurd (by rw [mR_11, mR_10, hlen]; exact nI_le q (by omega)) c15
      refine pw_aload_n dX8_goesOn_18 rfl ?_
      refine pw_getr dX8_goesOn_19 lf_X8_23 sh_253 rfl ?_
      refine pw_aload_n dX8_goesOn_22 rfl ?_
      refine pw_geti dX8_goesOn_23 lf_X8_74 sh_253 rfl ?_
      refine pw_caload dX8_goesOn_26 sh_257 (by rw [mR_11]; exact vpin (N := 40) (by omega) (by decide)) ?_
      rw [mR_11, nI_cl (by omega), mR_o h pos wr (by decide)]
      refine pw_iload_n dX8_goesOn_27 rfl ?_
      refine pw_icmp_ne dX8_goesOn_28 (tgt := 35) (by decide) (fun c28 => ?_) (fun c28 => ?_)
      · skip
        have e9 : mgB (h 257) len pos wr c = false := mg_f (Or.inr (Or.inr c28))
        refine pw_iconst dX8_goesOn_35 (v := 0) (by decide) ?_
        refine pw_istore_n dX8_goesOn_36 (by decide) rfl ?_
        refine pw_aload_n dX8_goesOn_37 rfl ?_
        refine pw_dup dX8_goesOn_38 rfl ?_
        refine pw_geti dX8_goesOn_39 lf_X8_74 sh_253 rfl ?_
        refine pw_iload_n dX8_goesOn_42 rfl ?_
        refine pw_if_eq dX8_goesOn_43 (tgt := 50) (by decide) (fun c43 => ?_) (fun c43 => absurd c43 (by decide))
        refine pw_iconst dX8_goesOn_50 (v := 0) (by decide) ?_
        refine pw_iadd dX8_goesOn_51 ?_
        rw [mR_11, Int32.add_zero]
        refine pw_puti dX8_goesOn_52 lf_X8_74 lp_8_11 sh_253 rfl rfl rfl ?_
        rw [mR_at]
        refine pw_iload_n dX8_goesOn_55 rfl ?_
        exact pw_iretF dX8_goesOn_56 rfl rfl rfl (by rw [e9]; rfl) (by rw [mgP, e9]; rfl)
      · skip
        have e9 : mgB (h 257) len pos wr c = true := mg_t (b2i_eq (by rw [mR_12] at c4; exact c4)) hi9 c28
        refine pw_iconst dX8_goesOn_31 (v := 1) (by decide) ?_
        refine pw_goto dX8_goesOn_32 (tgt := 36) (by decide) ?_
        refine pw_istore_n dX8_goesOn_36 (by decide) rfl ?_
        refine pw_aload_n dX8_goesOn_37 rfl ?_
        refine pw_dup dX8_goesOn_38 rfl ?_
        refine pw_geti dX8_goesOn_39 lf_X8_74 sh_253 rfl ?_
        refine pw_iload_n dX8_goesOn_42 rfl ?_
        refine pw_if_eq dX8_goesOn_43 (tgt := 50) (by decide) (fun c43 => absurd c43 (by decide)) (fun c43 => ?_)
        refine pw_iconst dX8_goesOn_46 (v := 1) (by decide) ?_
        refine pw_goto dX8_goesOn_47 (tgt := 51) (by decide) ?_
        refine pw_iadd dX8_goesOn_51 ?_
        rw [mR_11, nI_1]
        refine pw_puti dX8_goesOn_52 lf_X8_74 lp_8_11 sh_253 rfl rfl rfl ?_
        rw [mR_at]
        refine pw_iload_n dX8_goesOn_55 rfl ?_
        exact pw_iretF dX8_goesOn_56 rfl rfl rfl (by rw [e9]; rfl) (by rw [mgP, e9]; rfl)

set_option maxRecDepth 100000 in
set_option maxHeartbeats 4000000 in
theorem lp_X8_number {l : Launch} {G : GC} {ad : Nat → Nat} {h : HP} {len : Nat} (hlen : h 253 10 = nI len) (hl40 : len ≤ 40) {pos : Nat} (hp : pos ≤ 40) {wr : Bool}  : ∀ (mu9 : Nat) (i : Nat) (x1 : Int32) (p9 : Nat) (hi : i ≤ 3) (hp9 : p9 ≤ 40) (hF : mn (h 257) len pos wr = mnF (h 257) len (3 - i) x1 p9) (hs9 : mnS (h 257) len pos wr = false) (hmu9 : 3 - i < mu9), PW l G cX8_number RX8 3 ((Option.some FieldType.int)) [] { frames := 2, cells := 0, slots := 0, locals := 42 } (gNm "number") (gME G SW ad (gR SW ad (some (.int (mn (h 257) len pos wr).1)) (mR h (mn (h 257) len pos wr).2 (mnS (h 257) len pos wr))) gNo 0 0) 39 [some (.ref (ad 253)), some (.int x1), some (.int (nI (i + 1)))] [] SW ad (mR h p9 false) 0 0 := by
  intro mu9
  induction mu9 with
  | zero => intro i x1 p9 hi hp9 hF hs9 hmu9; exact absurd hmu9 (Nat.not_lt_zero _)
  | succ mu9 ih =>
    intro i x1 p9 hi hp9 hF hs9 hmu9
    refine pw_iload_n dX8_number_39 rfl ?_
    refine pw_iconst dX8_number_40 (v := 4) (by decide) ?_
    refine pw_icmp_ge dX8_number_41 (tgt := 89) (by decide) (fun c41 => ?_) (fun c41 => ?_)
    · skip
      refine pw_iload_n dX8_number_89 rfl ?_
      have hE : mn (h 257) len pos wr = (x1, p9) := by
        rw [hF]
        rw [show 3 - i = 0 from by have := eqN (N := 4) (i := i + 1) rfl (by omega) (by decide) c41; omega]; rfl
      exact pw_iretF dX8_number_90 rfl rfl rfl (by rw [hE]) (by rw [hE, hs9])
    · skip
      have hi9 : i + 1 < 4 := ltN (N := 4) rfl (by omega) (by decide) c41
      refine pw_iload_n dX8_number_44 rfl ?_
      refine pw_if_le dX8_number_45 (tgt := 89) (by decide) (fun c45 => ?_) (fun c45 => ?_)
      · skip
        refine pw_iload_n dX8_number_89 rfl ?_
        have hE : mn (h 257) len pos wr = (x1, p9) := by
          rw [hF]
          rw [show 3 - i = (3 - (i + 1)) + 1 by omega, mnF, if_neg (by rw [decide_eq_false (Int32.not_lt.mpr c45)]; simp)]
        exact pw_iretF dX8_number_90 rfl rfl rfl (by rw [hE]) (by rw [hE, hs9])
      · skip
        refine pw_aload_n dX8_number_48 rfl ?_
        refine pw_cV dX8_number_49 (sp_X8_isDigit hlen hl40 hp9) mi_X8_isDigit mv_X8_isDigit ml_X8_80 sh_253 rfl rfl rfl rfl ⟨rfl, rfl⟩ rfl rfl ?_
        refine pw_if_eq dX8_number_52 (tgt := 89) (by decide) (fun c52 => ?_) (fun c52 => ?_)
        · skip
          refine pw_iload_n dX8_number_89 rfl ?_
          have hE : mn (h 257) len pos wr = (x1, p9) := by
            rw [hF]
            rw [show 3 - i = (3 - (i + 1)) + 1 by omega, mnF, if_neg (by rw [show mdD (h 257) len p9 false = false from b2i_eq c52]; simp)]
          exact pw_iretF dX8_number_90 rfl rfl rfl (by rw [hE]) (by rw [hE, hs9])
        · skip
          have hdg : mdD (h 257) len p9 false = true := b2i_ne c52
          have hlt9 := (mdD_lt hdg).2
          refine pw_bipush dX8_number_55 (v := 10) (by decide) ?_
          refine pw_iload_n dX8_number_57 rfl ?_
          refine pw_imul dX8_number_58 ?_
          refine pw_aload_n dX8_number_59 rfl ?_
          refine pw_getr dX8_number_60 lf_X8_23 sh_253 rfl ?_
          refine pw_aload_n dX8_number_63 rfl ?_
          refine pw_geti dX8_number_64 lf_X8_74 sh_253 rfl ?_
          refine pw_caload dX8_number_67 sh_257 (by rw [mR_11]; exact vpin (N := 40) (by omega) (by decide)) ?_
          rw [mR_11, nI_cl (by omega), mR_o h p9 false (by decide)]
          refine pw_iadd dX8_number_68 ?_
          refine pw_bipush dX8_number_69 (v := 48) (by decide) ?_
          refine pw_isub dX8_number_71 ?_
          refine pw_istore_n dX8_number_72 (by decide) rfl ?_
          refine pw_aload_n dX8_number_73 rfl ?_
          refine pw_dup dX8_number_74 rfl ?_
          refine pw_geti dX8_number_75 lf_X8_74 sh_253 rfl ?_
          refine pw_iconst dX8_number_78 (v := 1) (by decide) ?_
          refine pw_iadd dX8_number_79 ?_
          rw [mR_11, nI_1]
          refine pw_puti dX8_number_80 lf_X8_74 lp_8_11 sh_253 rfl rfl rfl ?_
          rw [mR_at]
          refine pw_iinc dX8_number_83 rfl (d := 1) (by decide) (by decide) rfl ?_
          rw [nI_1]
          refine pw_goto dX8_number_86 (tgt := 39) (by decide) ?_
          refine ih (i + 1) _ (p9 + 1) (by omega) (by omega) ?_ hs9 (by omega)
          rw [hF, show 3 - i = (3 - (i + 1)) + 1 by omega, mnF, if_pos (by rw [decide_eq_true (Int32.not_le.mp c45), hdg]; rfl)]

set_option maxRecDepth 100000 in
set_option maxHeartbeats 4000000 in
theorem sp_X8_number {l : Launch} {G : GC} {ad : Nat → Nat} {h : HP} {len : Nat} (hlen : h 253 10 = nI len) (hl40 : len ≤ 40) {pos : Nat} (hp : pos ≤ 40) {wr : Bool} : PF l G yX8_number (.code yX8_number cX8_number 3 ((Option.some FieldType.int))) { frames := 2, cells := 0, slots := 0, locals := 42 } [.ref (ad 253)] SW ad (mR h pos wr) (some (.int (mn (h 257) len pos wr).1)) (mR h (mn (h 257) len pos wr).2 (mnS (h 257) len pos wr)) := by
  refine PF.mk (L0 := [some (.ref (ad 253)), none, none]) RX8 "number" 0 0 (by decide +kernel) rfl rfl ⟨rfl, rfl⟩ (by simp [Value.category]) (Nat.le_of_ble_eq_true rfl) rfl ?_
  refine pw_aload_n dX8_number_0 rfl ?_
  refine pw_cV dX8_number_1 (sp_X8_isDigit hlen hl40 hp) mi_X8_isDigit mv_X8_isDigit ml_X8_80 sh_253 rfl rfl rfl rfl ⟨rfl, rfl⟩ rfl rfl ?_
  refine pw_if_ne dX8_number_4 (tgt := 14) (by decide) (fun c4 => ?_) (fun c4 => ?_)
  · skip
    have hdg : mdD (h 257) len pos wr = true := b2i_ne c4
    obtain ⟨hw9, hlt9⟩ := mdD_lt hdg
    subst hw9
    refine pw_aload_n dX8_number_14 rfl ?_
    refine pw_getr dX8_number_15 lf_X8_23 sh_253 rfl ?_
    refine pw_aload_n dX8_number_18 rfl ?_
    refine pw_geti dX8_number_19 lf_X8_74 sh_253 rfl ?_
    refine pw_caload dX8_number_22 sh_257 (by rw [mR_11]; exact vpin (N := 40) (by omega) (by decide)) ?_
    rw [mR_11, nI_cl (by omega), mR_o h pos _ (by decide)]
    refine pw_bipush dX8_number_23 (v := 48) (by decide) ?_
    refine pw_isub dX8_number_25 ?_
    refine pw_istore_n dX8_number_26 (by decide) rfl ?_
    refine pw_aload_n dX8_number_27 rfl ?_
    refine pw_dup dX8_number_28 rfl ?_
    refine pw_geti dX8_number_29 lf_X8_74 sh_253 rfl ?_
    refine pw_iconst dX8_number_32 (v := 1) (by decide) ?_
    refine pw_iadd dX8_number_33 ?_
    rw [mR_11, nI_1]
    refine pw_puti dX8_number_34 lf_X8_74 lp_8_11 sh_253 rfl rfl rfl ?_
    rw [mR_at]
    refine pw_iconst dX8_number_37 (v := 1) (by decide) ?_
    refine pw_istore_n dX8_number_38 (by decide) rfl ?_
    exact lp_X8_number (wr := false) hlen hl40 hp 4 0 _ (pos + 1) (by decide) (by omega) (by rw [mn, if_pos hdg]) (by rw [mnS, hdg]; rfl) (by decide)
  · skip
    refine pw_aload_n dX8_number_7 rfl ?_
    refine pw_iconst dX8_number_8 (v := 1) (by decide) ?_
    refine pw_puti dX8_number_9 lf_X8_70 lp_8_12 sh_253 rfl rfl rfl ?_
    refine pw_iconst dX8_number_12 (v := 0) (by decide) ?_
    have hdg : mdD (h 257) len pos wr = false := b2i_eq c4
    exact pw_iretF dX8_number_13 rfl rfl rfl (by rw [mn, if_neg (by rw [hdg]; decide)]) (by rw [mn, if_neg (by rw [hdg]; decide), mnS, hdg]; exact mR_wr h pos wr true)

