/-! THE TABLES -/
def isTab (S : List Sh) (t c R C : Nat) : Prop := S[t]? = some (.inr (.inl (6, [.inl (nI R), .inl (nI C), .inr (some (some c))]))) ∧ S[c]? = some (.inl (0, R * C)) ∧ R < 1000 ∧ C < 1000
theorem tab_lt {r k R C : Nat} (hr : r < R) (hk : k < C) : r * C + k < R * C := by
  calc r * C + k < r * C + C := by omega
    _ = (r + 1) * C := by rw [Nat.succ_mul]
    _ ≤ R * C := Nat.mul_le_mul_right C hr
theorem tab_sz {R C : Nat} (hR : R < 1000) (hC : C < 1000) : R * C < 1000000 := by
  calc R * C ≤ 999 * C := Nat.mul_le_mul_right C (by omega)
    _ ≤ 999 * 999 := Nat.mul_le_mul_left 999 (by omega)
    _ < 1000000 := by decide
def sumC (f : Nat → Int32) : Nat → Int32
  | 0 => 0
  | n + 1 => sumC f n + f n
def cntB (p : Nat → Bool) : Nat → Nat
  | 0 => 0
  | n + 1 => cntB p n + (if p n then 1 else 0)
theorem cntB_le (p : Nat → Bool) : ∀ n, cntB p n ≤ n
  | 0 => Nat.le_refl 0
  | n + 1 => by
    have h := cntB_le p n
    show cntB p n + (if p n then 1 else 0) ≤ n + 1
    split <;> omega
/-- how many of n are ahead of k: greater, or equal and earlier -/
def rkB (f : Nat → Int32) (k : Nat) : Nat → Bool := fun o => decide (f k < f o) || (decide (f o = f k) && decide (o < k))
def rk (f : Nat → Int32) (n k : Nat) : Nat := cntB (rkB f k) n
/-- the first from i on, of m, that p holds of, or -1 -/
def firstF (p : Nat → Bool) : Nat → Nat → Int32
  | _, 0 => -1
  | i, m + 1 => if p i then nI i else firstF p (i + 1) m
set_option maxRecDepth 100000 in
set_option maxHeartbeats 4000000 in
theorem sp_X6_placeOf {l : Launch} {G : GC} {ad : Nat → Nat} {S : List Sh} {h : HP} {t c R C : Nat} (hT : isTab S t c R C) {row col : Int32} {r k : Nat} (er : row = nI r) (ek : col = nI k) (hr : r < R) (hk : k < C) : PF l G yX6_placeOf (.code yX6_placeOf cX6_placeOf 3 ((Option.some FieldType.int))) { frames := 0, cells := 0, slots := 0, locals := 0 } [.ref (ad t), .int row, .int col] S ad (h) (some (.int (nI (r * C + k)))) (h) := by
  refine PF.mk (L0 := [some (.ref (ad t)), some (.int row), some (.int col)]) RX6 "placeOf" 0 0 (by decide +kernel) rfl rfl ⟨rfl, rfl⟩ (by simp [Value.category]) (Nat.le_of_ble_eq_true rfl) rfl ?_
  refine pw_iload_n dX6_placeOf_0 rfl ?_
  refine pw_if_lt dX6_placeOf_1 (tgt := 35) (by decide) (fun c1 => absurd c1 (by rw [er]; exact nI_pos (by have := hT.2.2; omega))) (fun c1 => ?_)
  refine pw_iload_n dX6_placeOf_4 rfl ?_
  refine pw_aload_n dX6_placeOf_5 rfl ?_
  refine pw_getc dX6_placeOf_6 lf_X6_9 hT.1 rfl ?_
  refine pw_icmp_ge dX6_placeOf_9 (tgt := 35) (by decide) (fun c9 => absurd c9 (by rw [er]; exact nI_ge hr (by have := hT.2.2; omega))) (fun c9 => ?_)
  refine pw_iload_n dX6_placeOf_12 rfl ?_
  refine pw_if_lt dX6_placeOf_13 (tgt := 35) (by decide) (fun c13 => absurd c13 (by rw [ek]; exact nI_pos (by have := hT.2.2; omega))) (fun c13 => ?_)
  refine pw_iload_n dX6_placeOf_16 rfl ?_
  refine pw_aload_n dX6_placeOf_17 rfl ?_
  refine pw_getc dX6_placeOf_18 lf_X6_15 hT.1 rfl ?_
  refine pw_icmp_ge dX6_placeOf_21 (tgt := 35) (by decide) (fun c21 => absurd c21 (by rw [ek]; exact nI_ge hk (by have := hT.2.2; omega))) (fun c21 => ?_)
  refine pw_iload_n dX6_placeOf_24 rfl ?_
  refine pw_aload_n dX6_placeOf_25 rfl ?_
  refine pw_getc dX6_placeOf_26 lf_X6_15 hT.1 rfl ?_
  refine pw_imul dX6_placeOf_29 ?_
  refine pw_iload_n dX6_placeOf_30 rfl ?_
  refine pw_iadd dX6_placeOf_31 ?_
  refine pw_goto dX6_placeOf_32 (tgt := 36) (by decide) ?_
  exact pw_iretF dX6_placeOf_36 rfl rfl rfl (by rw [er, ek, pk_mul, nI_add]) rfl

set_option maxRecDepth 100000 in
set_option maxHeartbeats 4000000 in
theorem sp_X6_at {l : Launch} {G : GC} {ad : Nat → Nat} {S : List Sh} {h : HP} {t c R C : Nat} (hT : isTab S t c R C) {row col : Int32} {r k : Nat} (er : row = nI r) (ek : col = nI k) (hr : r < R) (hk : k < C) : PF l G yX6_at (.code yX6_at cX6_at 4 ((Option.some FieldType.int))) { frames := 1, cells := 0, slots := 0, locals := 22 } [.ref (ad t), .int row, .int col] S ad (h) (some (.int (h c (r * C + k)))) (h) := by
  refine PF.mk (L0 := [some (.ref (ad t)), some (.int row), some (.int col), none]) RX6 "at" 0 0 (by decide +kernel) rfl rfl ⟨rfl, rfl⟩ (by simp [Value.category]) (Nat.le_of_ble_eq_true rfl) rfl ?_
  have hlt : r * C + k < R * C := tab_lt hr hk
  have hsz := tab_sz hT.2.2.1 hT.2.2.2
  refine pw_aload_n dX6_at_0 rfl ?_
  refine pw_iload_n dX6_at_1 rfl ?_
  refine pw_iload_n dX6_at_2 rfl ?_
  refine pw_cV dX6_at_3 (sp_X6_placeOf hT er ek hr hk) mi_X6_placeOf mv_X6_placeOf ml_X6_28 hT.1 rfl rfl rfl rfl ⟨rfl, rfl⟩ rfl rfl ?_
  refine pw_istore_n dX6_at_6 (by decide) rfl ?_
  refine pw_iload_n dX6_at_7 rfl ?_
  refine pw_if_lt dX6_at_8 (tgt := 29) (by decide) (fun c8 => absurd c8 (nI_pos (by omega))) (fun c8 => ?_)
  refine pw_iload_n dX6_at_11 rfl ?_
  refine pw_aload_n dX6_at_12 rfl ?_
  refine pw_getr dX6_at_13 lf_X6_24 hT.1 rfl ?_
  refine pw_alen dX6_at_16 hT.2.1 (Or.inl rfl) ?_
  refine pw_icmp_ge dX6_at_17 (tgt := 29) (by decide) (fun c17 => absurd c17 (nI_ge hlt (by omega))) (fun c17 => ?_)
  refine pw_aload_n dX6_at_20 rfl ?_
  refine pw_getr dX6_at_21 lf_X6_24 hT.1 rfl ?_
  refine pw_iload_n dX6_at_24 rfl ?_
  refine pw_iaload dX6_at_25 hT.2.1 (vpin hlt (by omega)) ?_
  refine pw_goto dX6_at_26 (tgt := 30) (by decide) ?_
  exact pw_iretF dX6_at_30 rfl rfl rfl (by rw [nI_cl (by omega)]) rfl

set_option maxRecDepth 100000 in
set_option maxHeartbeats 4000000 in
theorem sp_X6_put {l : Launch} {G : GC} {ad : Nat → Nat} {S : List Sh} {h : HP} {t c R C : Nat} (hT : isTab S t c R C) {row col v : Int32} {r k : Nat} (er : row = nI r) (ek : col = nI k) (hr : r < R) (hk : k < C) : PF l G yX6_put (.code yX6_put cX6_put 5 ((Option.none : Option FieldType))) { frames := 1, cells := 0, slots := 0, locals := 22 } [.ref (ad t), .int row, .int col, .int v] S ad (h) (none) (hput h c (r * C + k) v) := by
  refine PF.mk (L0 := [some (.ref (ad t)), some (.int row), some (.int col), some (.int v), none]) RX6 "put" 0 0 (by decide +kernel) rfl rfl ⟨rfl, rfl⟩ (by simp [Value.category]) (Nat.le_of_ble_eq_true rfl) rfl ?_
  have hlt : r * C + k < R * C := tab_lt hr hk
  have hsz := tab_sz hT.2.2.1 hT.2.2.2
  refine pw_aload_n dX6_put_0 rfl ?_
  refine pw_iload_n dX6_put_1 rfl ?_
  refine pw_iload_n dX6_put_2 rfl ?_
  refine pw_cV dX6_put_3 (sp_X6_placeOf hT er ek hr hk) mi_X6_placeOf mv_X6_placeOf ml_X6_28 hT.1 rfl rfl rfl rfl ⟨rfl, rfl⟩ rfl rfl ?_
  refine pw_istore dX6_put_6 (by decide) rfl ?_
  refine pw_iload dX6_put_8 rfl ?_
  refine pw_if_lt dX6_put_10 (tgt := 31) (by decide) (fun c10 => absurd c10 (nI_pos (by omega))) (fun c10 => ?_)
  refine pw_iload dX6_put_13 rfl ?_
  refine pw_aload_n dX6_put_15 rfl ?_
  refine pw_getr dX6_put_16 lf_X6_24 hT.1 rfl ?_
  refine pw_alen dX6_put_19 hT.2.1 (Or.inl rfl) ?_
  refine pw_icmp_ge dX6_put_20 (tgt := 31) (by decide) (fun c20 => absurd c20 (nI_ge hlt (by omega))) (fun c20 => ?_)
  refine pw_aload_n dX6_put_23 rfl ?_
  refine pw_getr dX6_put_24 lf_X6_24 hT.1 rfl ?_
  refine pw_iload dX6_put_27 rfl ?_
  refine pw_iload_n dX6_put_29 rfl ?_
  refine pw_iastore dX6_put_30 hT.2.1 (vpin hlt (by omega)) ?_
  exact pw_retF dX6_put_31 rfl rfl (by rw [nI_cl (by omega)])

set_option maxRecDepth 100000 in
set_option maxHeartbeats 4000000 in
theorem sp_X6_add {l : Launch} {G : GC} {ad : Nat → Nat} {S : List Sh} {h : HP} {t c R C : Nat} (hT : isTab S t c R C) {row col v : Int32} {r k : Nat} (er : row = nI r) (ek : col = nI k) (hr : r < R) (hk : k < C) : PF l G yX6_add (.code yX6_add cX6_add 4 ((Option.none : Option FieldType))) { frames := 2, cells := 0, slots := 0, locals := 46 } [.ref (ad t), .int row, .int col, .int v] S ad (h) (none) (hput h c (r * C + k) (h c (r * C + k) + v)) := by
  refine PF.mk (L0 := [some (.ref (ad t)), some (.int row), some (.int col), some (.int v)]) RX6 "add" 0 0 (by decide +kernel) rfl rfl ⟨rfl, rfl⟩ (by simp [Value.category]) (Nat.le_of_ble_eq_true rfl) rfl ?_
  refine pw_aload_n dX6_add_0 rfl ?_
  refine pw_iload_n dX6_add_1 rfl ?_
  refine pw_iload_n dX6_add_2 rfl ?_
  refine pw_aload_n dX6_add_3 rfl ?_
  refine pw_iload_n dX6_add_4 rfl ?_
  refine pw_iload_n dX6_add_5 rfl ?_
  refine pw_cV dX6_add_6 (sp_X6_at hT er ek hr hk) mi_X6_at mv_X6_at ml_X6_31 hT.1 rfl rfl rfl rfl ⟨rfl, rfl⟩ rfl rfl ?_
  refine pw_iload_n dX6_add_9 rfl ?_
  refine pw_iadd dX6_add_10 ?_
  refine pw_cVn dX6_add_11 (sp_X6_put hT er ek hr hk) mi_X6_put mv_X6_put ml_X6_34 hT.1 rfl rfl rfl rfl ⟨rfl, rfl⟩ rfl rfl ?_
  exact pw_retF dX6_add_14 rfl rfl rfl

set_option maxRecDepth 100000 in
set_option maxHeartbeats 4000000 in
theorem lp_X6_sumOfColumn {l : Launch} {G : GC} {ad : Nat → Nat} {S : List Sh} {h : HP} {t c R C : Nat} (hT : isTab S t c R C) {col : Int32} {k : Nat} (ek : col = nI k) (hk : k < C)  : ∀ (mu9 : Nat) (i : Nat) (hi : i ≤ R) (hmu9 : R - i < mu9), PW l G cX6_sumOfColumn RX6 4 ((Option.some FieldType.int)) [] { frames := 2, cells := 0, slots := 0, locals := 45 } (gNm "sumOfColumn") (gME G S ad (gR S ad (some (.int (sumC (fun r => h c (r * C + k)) R))) (h)) gNo 0 0) 4 [some (.ref (ad t)), some (.int col), some (.int (sumC (fun r => h c (r * C + k)) i)), some (.int (nI i))] [] S ad (h) 0 0 := by
  intro mu9
  induction mu9 with
  | zero => intro i hi hmu9; exact absurd hmu9 (Nat.not_lt_zero _)
  | succ mu9 ih =>
    intro i hi hmu9
    refine pw_iload_n dX6_sumOfColumn_4 rfl ?_
    refine pw_aload_n dX6_sumOfColumn_5 rfl ?_
    refine pw_getc dX6_sumOfColumn_6 lf_X6_9 hT.1 rfl ?_
    refine pw_icmp_ge dX6_sumOfColumn_9 (tgt := 27) (by decide) (fun c9 => ?_) (fun c9 => ?_)
    · skip
      have hi8 : i = R := by
        rcases Nat.lt_or_ge i R with q | q
        · exact absurd c9 (nI_ge q (by have := hT.2.2; omega))
        · omega
      refine pw_iload_n dX6_sumOfColumn_27 rfl ?_
      exact pw_iretF dX6_sumOfColumn_28 rfl rfl rfl (by rw [hi8]) rfl
    · skip
      have hi9 : i < R := by
        rcases Nat.lt_or_ge i R with q | q
        · exact q
        · exact absurd (nI_le q (by have := hT.2.2; omega)) c9
      refine pw_iload_n dX6_sumOfColumn_12 rfl ?_
      refine pw_aload_n dX6_sumOfColumn_13 rfl ?_
      refine pw_iload_n dX6_sumOfColumn_14 rfl ?_
      refine pw_iload_n dX6_sumOfColumn_15 rfl ?_
      refine pw_cV dX6_sumOfColumn_16 (sp_X6_at hT (r := i) rfl ek hi9 hk) mi_X6_at mv_X6_at ml_X6_31 hT.1 rfl rfl rfl rfl ⟨rfl, rfl⟩ rfl rfl ?_
      refine pw_iadd dX6_sumOfColumn_19 ?_
      refine pw_istore_n dX6_sumOfColumn_20 (by decide) rfl ?_
      refine pw_iinc dX6_sumOfColumn_21 rfl (d := 1) (by decide) (by decide) rfl ?_
      rw [nI_1]
      refine pw_goto dX6_sumOfColumn_24 (tgt := 4) (by decide) ?_
      exact ih (i + 1) (by omega) (by omega)

set_option maxRecDepth 100000 in
set_option maxHeartbeats 4000000 in
theorem sp_X6_sumOfColumn {l : Launch} {G : GC} {ad : Nat → Nat} {S : List Sh} {h : HP} {t c R C : Nat} (hT : isTab S t c R C) {col : Int32} {k : Nat} (ek : col = nI k) (hk : k < C) : PF l G yX6_sumOfColumn (.code yX6_sumOfColumn cX6_sumOfColumn 4 ((Option.some FieldType.int))) { frames := 2, cells := 0, slots := 0, locals := 45 } [.ref (ad t), .int col] S ad (h) (some (.int (sumC (fun r => h c (r * C + k)) R))) (h) := by
  refine PF.mk (L0 := [some (.ref (ad t)), some (.int col), none, none]) RX6 "sumOfColumn" 0 0 (by decide +kernel) rfl rfl ⟨rfl, rfl⟩ (by simp [Value.category]) (Nat.le_of_ble_eq_true rfl) rfl ?_
  refine pw_iconst dX6_sumOfColumn_0 (v := 0) (by decide) ?_
  refine pw_istore_n dX6_sumOfColumn_1 (by decide) rfl ?_
  refine pw_iconst dX6_sumOfColumn_2 (v := 0) (by decide) ?_
  refine pw_istore_n dX6_sumOfColumn_3 (by decide) rfl ?_
  exact lp_X6_sumOfColumn hT ek hk (R + 1) 0 (Nat.zero_le _) (by omega)

set_option maxRecDepth 100000 in
set_option maxHeartbeats 4000000 in
theorem lp_X6_rankOf {l : Launch} {G : GC} {ad : Nat → Nat} {S : List Sh} {h : HP} {t c R C : Nat} (hT : isTab S t c R C) {row col : Int32} {r k : Nat} (er : row = nI r) (ek : col = nI k) (hr : r < R) (hk : k < C)  : ∀ (mu9 : Nat) (i : Nat) (x4 : Int32) (ls6 : Option Value) (hi : i ≤ C) (hx4 : x4 = nI (cntB (rkB (fun o => h c (r * C + o)) k) i)) (hmu9 : C - i < mu9), PW l G cX6_rankOf RX6 7 ((Option.some FieldType.int)) [] { frames := 2, cells := 0, slots := 0, locals := 45 } (gNm "rankOf") (gME G S ad (gR S ad (some (.int (nI (rk (fun o => h c (r * C + o)) C k)))) (h)) gNo 0 0) 13 [some (.ref (ad t)), some (.int row), some (.int col), some (.int (h c (r * C + k))), some (.int x4), some (.int (nI i)), ls6] [] S ad (h) 0 0 := by
  intro mu9
  induction mu9 with
  | zero => intro i x4 ls6 hi hx4 hmu9; exact absurd hmu9 (Nat.not_lt_zero _)
  | succ mu9 ih =>
    intro i x4 ls6 hi hx4 hmu9
    refine pw_iload dX6_rankOf_13 rfl ?_
    refine pw_aload_n dX6_rankOf_15 rfl ?_
    refine pw_getc dX6_rankOf_16 lf_X6_15 hT.1 rfl ?_
    refine pw_icmp_ge dX6_rankOf_19 (tgt := 58) (by decide) (fun c19 => ?_) (fun c19 => ?_)
    · skip
      have hi8 : i = C := by
        rcases Nat.lt_or_ge i C with q | q
        · exact absurd c19 (nI_ge q (by have := hT.2.2; omega))
        · omega
      refine pw_iload dX6_rankOf_58 rfl ?_
      exact pw_iretF dX6_rankOf_60 rfl rfl rfl (by rw [hx4, hi8]; rfl) rfl
    · skip
      have hi9 : i < C := by
        rcases Nat.lt_or_ge i C with q | q
        · exact q
        · exact absurd (nI_le q (by have := hT.2.2; omega)) c19
      refine pw_aload_n dX6_rankOf_22 rfl ?_
      refine pw_iload_n dX6_rankOf_23 rfl ?_
      refine pw_iload dX6_rankOf_24 rfl ?_
      refine pw_cV dX6_rankOf_26 (sp_X6_at hT (k := i) er rfl hr hi9) mi_X6_at mv_X6_at ml_X6_31 hT.1 rfl rfl rfl rfl ⟨rfl, rfl⟩ rfl rfl ?_
      refine pw_istore dX6_rankOf_29 (by decide) rfl ?_
      refine pw_iload dX6_rankOf_31 rfl ?_
      refine pw_iload_n dX6_rankOf_33 rfl ?_
      refine pw_icmp_gt dX6_rankOf_34 (tgt := 49) (by decide) (fun c34 => ?_) (fun c34 => ?_)
      · skip
        have hp9 : rkB (fun o => h c (r * C + o)) k i = true := by
          first
          | (have e1 := c34; simp only [rkB, Bool.or_eq_true, decide_eq_true_eq]; exact Or.inl e1)
          | (have e1 := c46; have e2 := c40; simp only [rkB, Bool.or_eq_true, Bool.and_eq_true, decide_eq_true_eq]; refine Or.inr ⟨e2, ?_⟩; rcases Nat.lt_or_ge i k with q | q; exact q; exact absurd (by rw [ek]; exact nI_le q (by have := hT.2.2; omega)) e1)
        refine pw_iinc dX6_rankOf_49 rfl (d := 1) (by decide) (by decide) rfl ?_
        refine pw_iinc dX6_rankOf_52 rfl (d := 1) (by decide) (by decide) rfl ?_
        rw [nI_1]
        refine pw_goto dX6_rankOf_55 (tgt := 13) (by decide) ?_
        refine ih (i + 1) _ _ (by omega) ?_ (by omega)
        simp only [hx4, nI_1, cntB, hp9, if_true, if_false, Bool.false_eq_true, Nat.add_zero]
      · skip
        refine pw_iload dX6_rankOf_37 rfl ?_
        refine pw_iload_n dX6_rankOf_39 rfl ?_
        refine pw_icmp_ne dX6_rankOf_40 (tgt := 52) (by decide) (fun c40 => ?_) (fun c40 => ?_)
        · skip
          have hp9 : rkB (fun o => h c (r * C + o)) k i = false := by
            have e1 := c34; have e2 := c40
            simp only [rkB, Bool.or_eq_false_iff, Bool.and_eq_false_iff, decide_eq_false_iff_not]
            exact ⟨e1, Or.inl e2⟩
          refine pw_iinc dX6_rankOf_52 rfl (d := 1) (by decide) (by decide) rfl ?_
          rw [nI_1]
          refine pw_goto dX6_rankOf_55 (tgt := 13) (by decide) ?_
          refine ih (i + 1) _ _ (by omega) ?_ (by omega)
          simp only [hx4, nI_1, cntB, hp9, if_true, if_false, Bool.false_eq_true, Nat.add_zero]
        · skip
          refine pw_iload dX6_rankOf_43 rfl ?_
          refine pw_iload_n dX6_rankOf_45 rfl ?_
          refine pw_icmp_ge dX6_rankOf_46 (tgt := 52) (by decide) (fun c46 => ?_) (fun c46 => ?_)
          · skip
            have hp9 : rkB (fun o => h c (r * C + o)) k i = false := by
              have e1 := c34; have e2 := c46
              simp only [rkB, Bool.or_eq_false_iff, Bool.and_eq_false_iff, decide_eq_false_iff_not]
              refine ⟨e1, Or.inr ?_⟩
              intro q
              exact nI_ge q (by have := hT.2.2; omega) (by rw [← ek]; exact e2)
            refine pw_iinc dX6_rankOf_52 rfl (d := 1) (by decide) (by decide) rfl ?_
            rw [nI_1]
            refine pw_goto dX6_rankOf_55 (tgt := 13) (by decide) ?_
            refine ih (i + 1) _ _ (by omega) ?_ (by omega)
            simp only [hx4, nI_1, cntB, hp9, if_true, if_false, Bool.false_eq_true, Nat.add_zero]
          · skip
            have hp9 : rkB (fun o => h c (r * C + o)) k i = true := by
              first
              | (have e1 := c34; simp only [rkB, Bool.or_eq_true, decide_eq_true_eq]; exact Or.inl e1)
              | (have e1 := c46; have e2 := c40; simp only [rkB, Bool.or_eq_true, Bool.and_eq_true, decide_eq_true_eq]; refine Or.inr ⟨e2, ?_⟩; rcases Nat.lt_or_ge i k with q | q; exact q; exact absurd (by rw [ek]; exact nI_le q (by have := hT.2.2; omega)) e1)
            refine pw_iinc dX6_rankOf_49 rfl (d := 1) (by decide) (by decide) rfl ?_
            refine pw_iinc dX6_rankOf_52 rfl (d := 1) (by decide) (by decide) rfl ?_
            rw [nI_1]
            refine pw_goto dX6_rankOf_55 (tgt := 13) (by decide) ?_
            refine ih (i + 1) _ _ (by omega) ?_ (by omega)
            simp only [hx4, nI_1, cntB, hp9, if_true, if_false, Bool.false_eq_true, Nat.add_zero]

set_option maxRecDepth 100000 in
set_option maxHeartbeats 4000000 in
theorem sp_X6_rankOf {l : Launch} {G : GC} {ad : Nat → Nat} {S : List Sh} {h : HP} {t c R C : Nat} (hT : isTab S t c R C) {row col : Int32} {r k : Nat} (er : row = nI r) (ek : col = nI k) (hr : r < R) (hk : k < C) : PF l G yX6_rankOf (.code yX6_rankOf cX6_rankOf 7 ((Option.some FieldType.int))) { frames := 2, cells := 0, slots := 0, locals := 45 } [.ref (ad t), .int row, .int col] S ad (h) (some (.int (nI (rk (fun o => h c (r * C + o)) C k)))) (h) := by
  refine PF.mk (L0 := [some (.ref (ad t)), some (.int row), some (.int col), none, none, none, none]) RX6 "rankOf" 0 0 (by decide +kernel) rfl rfl ⟨rfl, rfl⟩ (by simp [Value.category]) (Nat.le_of_ble_eq_true rfl) rfl ?_
  refine pw_aload_n dX6_rankOf_0 rfl ?_
  refine pw_iload_n dX6_rankOf_1 rfl ?_
  refine pw_iload_n dX6_rankOf_2 rfl ?_
  refine pw_cV dX6_rankOf_3 (sp_X6_at hT er ek hr hk) mi_X6_at mv_X6_at ml_X6_31 hT.1 rfl rfl rfl rfl ⟨rfl, rfl⟩ rfl rfl ?_
  refine pw_istore_n dX6_rankOf_6 (by decide) rfl ?_
  refine pw_iconst dX6_rankOf_7 (v := 0) (by decide) ?_
  refine pw_istore dX6_rankOf_8 (by decide) rfl ?_
  refine pw_iconst dX6_rankOf_10 (v := 0) (by decide) ?_
  refine pw_istore dX6_rankOf_11 (by decide) rfl ?_
  exact lp_X6_rankOf hT er ek hr hk (C + 1) 0 0 none (Nat.zero_le _) rfl (by omega)

set_option maxRecDepth 100000 in
set_option maxHeartbeats 4000000 in
theorem lp_X6_columnAtRank {l : Launch} {G : GC} {ad : Nat → Nat} {S : List Sh} {h : HP} {t c R C : Nat} (hT : isTab S t c R C) {row rank : Int32} {r : Nat} (er : row = nI r) (hr : r < R)  : ∀ (mu9 : Nat) (i : Nat) (hi : i ≤ C) (hF : firstF (fun j => decide (nI (rk (fun o => h c (r * C + o)) C j) = rank)) 0 C = firstF (fun j => decide (nI (rk (fun o => h c (r * C + o)) C j) = rank)) i (C - i)) (hmu9 : C - i < mu9), PW l G cX6_columnAtRank RX6 4 ((Option.some FieldType.int)) [] { frames := 3, cells := 0, slots := 0, locals := 71 } (gNm "columnAtRank") (gME G S ad (gR S ad (some (.int (firstF (fun j => decide (nI (rk (fun o => h c (r * C + o)) C j) = rank)) 0 C))) (h)) gNo 0 0) 2 [some (.ref (ad t)), some (.int row), some (.int rank), some (.int (nI i))] [] S ad (h) 0 0 := by
  intro mu9
  induction mu9 with
  | zero => intro i hi hF hmu9; exact absurd hmu9 (Nat.not_lt_zero _)
  | succ mu9 ih =>
    intro i hi hF hmu9
    refine pw_iload_n dX6_columnAtRank_2 rfl ?_
    refine pw_aload_n dX6_columnAtRank_3 rfl ?_
    refine pw_getc dX6_columnAtRank_4 lf_X6_15 hT.1 rfl ?_
    refine pw_icmp_ge dX6_columnAtRank_7 (tgt := 28) (by decide) (fun c7 => ?_) (fun c7 => ?_)
    · skip
      have hi8 : i = C := by
        rcases Nat.lt_or_ge i C with q | q
        · exact absurd c7 (nI_ge q (by have := hT.2.2; omega))
        · omega
      refine pw_iconst dX6_columnAtRank_28 (v := (-1)) (by decide) ?_
      exact pw_iretF dX6_columnAtRank_29 rfl rfl rfl (by rw [hF, hi8, Nat.sub_self]; rfl) rfl
    · skip
      have hi9 : i < C := by
        rcases Nat.lt_or_ge i C with q | q
        · exact q
        · exact absurd (nI_le q (by have := hT.2.2; omega)) c7
      refine pw_aload_n dX6_columnAtRank_10 rfl ?_
      refine pw_iload_n dX6_columnAtRank_11 rfl ?_
      refine pw_iload_n dX6_columnAtRank_12 rfl ?_
      refine pw_cV dX6_columnAtRank_13 (sp_X6_rankOf hT (k := i) er rfl hr hi9) mi_X6_rankOf mv_X6_rankOf ml_X6_47 hT.1 rfl rfl rfl rfl ⟨rfl, rfl⟩ rfl rfl ?_
      refine pw_iload_n dX6_columnAtRank_16 rfl ?_
      refine pw_icmp_ne dX6_columnAtRank_17 (tgt := 22) (by decide) (fun c17 => ?_) (fun c17 => ?_)
      · skip
        refine pw_iinc dX6_columnAtRank_22 rfl (d := 1) (by decide) (by decide) rfl ?_
        rw [nI_1]
        refine pw_goto dX6_columnAtRank_25 (tgt := 2) (by decide) ?_
        refine ih (i + 1) (by omega) ?_ (by omega)
        rw [hF, show C - i = (C - (i + 1)) + 1 by omega, firstF, if_neg (by simpa using c17)]
      · skip
        refine pw_iload_n dX6_columnAtRank_20 rfl ?_
        exact pw_iretF dX6_columnAtRank_21 rfl rfl rfl (by rw [hF, show C - i = (C - (i + 1)) + 1 by omega, firstF, if_pos (by simpa using c17)]) rfl

set_option maxRecDepth 100000 in
set_option maxHeartbeats 4000000 in
theorem sp_X6_columnAtRank {l : Launch} {G : GC} {ad : Nat → Nat} {S : List Sh} {h : HP} {t c R C : Nat} (hT : isTab S t c R C) {row rank : Int32} {r : Nat} (er : row = nI r) (hr : r < R) : PF l G yX6_columnAtRank (.code yX6_columnAtRank cX6_columnAtRank 4 ((Option.some FieldType.int))) { frames := 3, cells := 0, slots := 0, locals := 71 } [.ref (ad t), .int row, .int rank] S ad (h) (some (.int (firstF (fun j => decide (nI (rk (fun o => h c (r * C + o)) C j) = rank)) 0 C))) (h) := by
  refine PF.mk (L0 := [some (.ref (ad t)), some (.int row), some (.int rank), none]) RX6 "columnAtRank" 0 0 (by decide +kernel) rfl rfl ⟨rfl, rfl⟩ (by simp [Value.category]) (Nat.le_of_ble_eq_true rfl) rfl ?_
  refine pw_iconst dX6_columnAtRank_0 (v := 0) (by decide) ?_
  refine pw_istore_n dX6_columnAtRank_1 (by decide) rfl ?_
  exact lp_X6_columnAtRank hT er hr (C + 1) 0 (Nat.zero_le _) rfl (by omega)

set_option maxRecDepth 100000 in
set_option maxHeartbeats 4000000 in
theorem lp_X6_columnOf {l : Launch} {G : GC} {ad : Nat → Nat} {S : List Sh} {h : HP} {t c R C : Nat} (hT : isTab S t c R C) {number : Int32} {n : Nat} (hn : n ≤ C) (h0 : 0 < R)  : ∀ (mu9 : Nat) (i : Nat) (hi : i ≤ n) (hF : firstF (fun j => decide (h c j = number)) 0 n = firstF (fun j => decide (h c j = number)) i (n - i)) (hmu9 : n - i < mu9), PW l G cX6_columnOf RX6 4 ((Option.some FieldType.int)) [] { frames := 2, cells := 0, slots := 0, locals := 45 } (gNm "columnOf") (gME G S ad (gR S ad (some (.int (firstF (fun j => decide (h c j = number)) 0 n))) (h)) gNo 0 0) 2 [some (.ref (ad t)), some (.int number), some (.int (nI n)), some (.int (nI i))] [] S ad (h) 0 0 := by
  intro mu9
  induction mu9 with
  | zero => intro i hi hF hmu9; exact absurd hmu9 (Nat.not_lt_zero _)
  | succ mu9 ih =>
    intro i hi hF hmu9
    refine pw_iload_n dX6_columnOf_2 rfl ?_
    refine pw_iload_n dX6_columnOf_3 rfl ?_
    refine pw_icmp_ge dX6_columnOf_4 (tgt := 25) (by decide) (fun c4 => ?_) (fun c4 => ?_)
    · skip
      have hi8 : i = n := by
        rcases Nat.lt_or_ge i n with q | q
        · exact absurd c4 (nI_ge q (by have := hT.2.2; omega))
        · omega
      refine pw_iconst dX6_columnOf_25 (v := (-1)) (by decide) ?_
      exact pw_iretF dX6_columnOf_26 rfl rfl rfl (by rw [hF, hi8, Nat.sub_self]; rfl) rfl
    · skip
      have hi9 : i < n := by
        rcases Nat.lt_or_ge i n with q | q
        · exact q
        · exact absurd (nI_le q (by have := hT.2.2; omega)) c4
      refine pw_aload_n dX6_columnOf_7 rfl ?_
      refine pw_iconst dX6_columnOf_8 (v := 0) (by decide) ?_
      refine pw_iload_n dX6_columnOf_9 rfl ?_
      refine pw_cV dX6_columnOf_10 (sp_X6_at hT (r := 0) (k := i) rfl rfl h0 (by omega)) mi_X6_at mv_X6_at ml_X6_31 hT.1 rfl rfl rfl rfl ⟨rfl, rfl⟩ rfl rfl ?_
      rw [Nat.zero_mul, Nat.zero_add]
      refine pw_iload_n dX6_columnOf_13 rfl ?_
      refine pw_icmp_ne dX6_columnOf_14 (tgt := 19) (by decide) (fun c14 => ?_) (fun c14 => ?_)
      · skip
        refine pw_iinc dX6_columnOf_19 rfl (d := 1) (by decide) (by decide) rfl ?_
        rw [nI_1]
        refine pw_goto dX6_columnOf_22 (tgt := 2) (by decide) ?_
        refine ih (i + 1) (by omega) ?_ (by omega)
        rw [hF, show n - i = (n - (i + 1)) + 1 by omega, firstF, if_neg (by simpa using c14)]
      · skip
        refine pw_iload_n dX6_columnOf_17 rfl ?_
        exact pw_iretF dX6_columnOf_18 rfl rfl rfl (by rw [hF, show n - i = (n - (i + 1)) + 1 by omega, firstF, if_pos (by simpa using c14)]) rfl

set_option maxRecDepth 100000 in
set_option maxHeartbeats 4000000 in
theorem sp_X6_columnOf {l : Launch} {G : GC} {ad : Nat → Nat} {S : List Sh} {h : HP} {t c R C : Nat} (hT : isTab S t c R C) {number : Int32} {n : Nat} (hn : n ≤ C) (h0 : 0 < R) : PF l G yX6_columnOf (.code yX6_columnOf cX6_columnOf 4 ((Option.some FieldType.int))) { frames := 2, cells := 0, slots := 0, locals := 45 } [.ref (ad t), .int number, .int (nI n)] S ad (h) (some (.int (firstF (fun j => decide (h c j = number)) 0 n))) (h) := by
  refine PF.mk (L0 := [some (.ref (ad t)), some (.int number), some (.int (nI n)), none]) RX6 "columnOf" 0 0 (by decide +kernel) rfl rfl ⟨rfl, rfl⟩ (by simp [Value.category]) (Nat.le_of_ble_eq_true rfl) rfl ?_
  refine pw_iconst dX6_columnOf_0 (v := 0) (by decide) ?_
  refine pw_istore_n dX6_columnOf_1 (by decide) rfl ?_
  exact lp_X6_columnOf hT hn h0 (n + 1) 0 (Nat.zero_le _) rfl (by omega)

set_option maxRecDepth 100000 in
set_option maxHeartbeats 4000000 in
theorem sp_X6_copyFrom {l : Launch} {G : GC} {ad : Nat → Nat} {S : List Sh} {h : HP} {t c R C : Nat} (hT : isTab S t c R C) {t2 c2 : Nat} (hT2 : isTab S t2 c2 R C) : PF l G yX6_copyFrom (.code yX6_copyFrom cX6_copyFrom 2 ((Option.none : Option FieldType))) { frames := 1, cells := 0, slots := 0, locals := 40 } [.ref (ad t), .ref (ad t2)] S ad (h) (none) (hcpy h c2 c 0 0 (R * C)) := by
  refine PF.mk (L0 := [some (.ref (ad t)), some (.ref (ad t2))]) RX6 "copyFrom" 0 0 (by decide +kernel) rfl rfl ⟨rfl, rfl⟩ (by simp [Value.category]) (Nat.le_of_ble_eq_true rfl) rfl ?_
  have hsz := tab_sz hT.2.2.1 hT.2.2.2
  refine pw_aload_n dX6_copyFrom_0 rfl ?_
  refine pw_getr dX6_copyFrom_1 lf_X6_24 hT2.1 rfl ?_
  refine pw_iconst dX6_copyFrom_4 (v := 0) (by decide) ?_
  refine pw_aload_n dX6_copyFrom_5 rfl ?_
  refine pw_getr dX6_copyFrom_6 lf_X6_24 hT.1 rfl ?_
  refine pw_iconst dX6_copyFrom_9 (v := 0) (by decide) ?_
  refine pw_aload_n dX6_copyFrom_10 rfl ?_
  refine pw_getr dX6_copyFrom_11 lf_X6_24 hT.1 rfl ?_
  refine pw_alen dX6_copyFrom_14 hT.2.1 (Or.inl rfl) ?_
  refine pw_aload_n dX6_copyFrom_15 rfl ?_
  refine pw_getr dX6_copyFrom_16 lf_X6_24 hT2.1 rfl ?_
  refine pw_alen dX6_copyFrom_19 hT2.2.1 (Or.inl rfl) ?_
  refine pw_min dX6_copyFrom_20 mm_X6_38 mw_min ⟨Nat.le_of_ble_eq_true rfl, Nat.le_of_ble_eq_true rfl, Nat.le_of_ble_eq_true rfl, Nat.le_of_ble_eq_true rfl⟩ ?_
  rw [ite_self]
  refine pw_copy dX6_copyFrom_23 mm_X6_41 mw_copy hT2.2.1 hT.2.1 (by decide) (by decide) (nI_pos (by omega)) (by rw [nI_cl (by omega)]; exact Nat.le_of_eq (Nat.zero_add _)) (by rw [nI_cl (by omega)]; exact Nat.le_of_eq (Nat.zero_add _)) ⟨Nat.le_of_ble_eq_true rfl, Nat.le_of_ble_eq_true rfl⟩ ?_
  exact pw_retF dX6_copyFrom_26 rfl rfl (by rw [nI_cl (by omega)]; rfl)

