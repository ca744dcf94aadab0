/-! WHAT THE MODEL ASKS OF THE PARTS -/
def wmB (tl : Nat → Int32) (c : Int32) (k : Nat) : Bool := !(wiB (tl k) 0 (c - 1)) || anyB (fun o => decide (tl o = tl k)) k
def rmI (w g : Bool) (gen c : Int32) : Int32 := if w then 1 else if g then 2 else if 4 < gen then 3 else if c = 24 then 4 else 0
theorem al_s {p : Nat → Bool} {n : Nat} (h : (!anyB p n) = true) (hp : p n = false) : (1 : Int32) = b2i (!anyB p (n + 1)) := by
  show _ = b2i (!(anyB p n || p n))
  rw [hp, Bool.or_false, h]; rfl
theorem al_n {p : Nat → Bool} {n : Nat} (h : (!anyB p n) = false ∨ p n = true) : (0 : Int32) = b2i (!anyB p (n + 1)) := by
  show _ = b2i (!(anyB p n || p n))
  rcases h with q | q
  · rw [Bool.not_or, q]; rfl
  · rw [q, Bool.or_true]; rfl
theorem v_s {A B C D : Bool} (h : (!(A || (B || C))) = true) (hd : D = false) : (1 : Int32) = b2i (!(A || (B || (C || D)))) := by
  rw [hd, Bool.or_false, h]; rfl
theorem v_n {A B C D : Bool} (h : (!(A || (B || C))) = false ∨ D = true) : (0 : Int32) = b2i (!(A || (B || (C || D)))) := by
  rcases h with q | q
  · revert q; cases A <;> cases B <;> cases C <;> simp [b2i]
  · rw [q]; simp [b2i]
set_option maxRecDepth 100000 in
set_option maxHeartbeats 4000000 in
theorem lp_X8_isAnyNothing {l : Launch} {G : GC} {ad : Nat → Nat} {h : HP} {P : Nat} (hP : h 253 13 = nI P) (hP4 : P ≤ 4)  : ∀ (mu9 : Nat) (i : Nat) (x : Int32) (hi : i ≤ P) (hx : x = b2i (anyB (fun k => decide (h 259 k = 0)) i)) (hmu9 : P - i < mu9), PW l G cX8_isAnyNothing RX8 3 ((Option.some FieldType.boolean)) [] { frames := 0, cells := 0, slots := 0, locals := 0 } (gNm "isAnyNothing") (gME G SW ad (gR SW ad (some (.int (b2i (anyB (fun k => decide (h 259 k = 0)) P)))) (h)) gNo 0 0) 4 [some (.ref (ad 253)), some (.int x), some (.int (nI i))] [] SW ad (h) 0 0 := by
  intro mu9
  induction mu9 with
  | zero => intro i x hi hx hmu9; exact absurd hmu9 (Nat.not_lt_zero _)
  | succ mu9 ih =>
    intro i x hi hx hmu9
    refine pw_iload_n dX8_isAnyNothing_4 rfl ?_
    refine pw_aload_n dX8_isAnyNothing_5 rfl ?_
    refine pw_geti dX8_isAnyNothing_6 lf_X8_92 sh_253 rfl ?_
    refine pw_icmp_ge dX8_isAnyNothing_9 (tgt := 37) (by decide) (fun c9 => ?_) (fun c9 => ?_)
    · skip
      have hi8 : i = P := eqN hP hi (by omega) c9
      refine pw_iload_n dX8_isAnyNothing_37 rfl ?_
      exact pw_iretF dX8_isAnyNothing_38 rfl (by rw [hx]; exact nar_b _) rfl (by rw [hx, hi8]) rfl
    · skip
      have hi9 : i < P := ltN hP hi (by omega) c9
      refine pw_iload_n dX8_isAnyNothing_12 rfl ?_
      refine pw_if_ne dX8_isAnyNothing_13 (tgt := 25) (by decide) (fun c13 => ?_) (fun c13 => ?_)
      · skip
        refine pw_iconst dX8_isAnyNothing_25 (v := 1) (by decide) ?_
        refine pw_goto dX8_isAnyNothing_26 (tgt := 30) (by decide) ?_
        refine pw_istore_n dX8_isAnyNothing_30 (by decide) rfl ?_
        refine pw_iinc dX8_isAnyNothing_31 rfl (d := 1) (by decide) (by decide) rfl ?_
        rw [nI_1]
        refine pw_goto dX8_isAnyNothing_34 (tgt := 4) (by decide) ?_
        refine ih (i + 1) _ (by omega) ?_ (by omega)
        exact any_s hx (Or.inl (b2i_ne (fun q => c13 (hx.trans q))))
      · skip
        refine pw_aload_n dX8_isAnyNothing_16 rfl ?_
        refine pw_getr dX8_isAnyNothing_17 lf_X8_30 sh_253 rfl ?_
        refine pw_iload_n dX8_isAnyNothing_20 rfl ?_
        refine pw_iaload dX8_isAnyNothing_21 sh_259 (vpin (N := 4) (by omega) (by decide)) ?_
        rw [nI_cl (by omega)]
        refine pw_if_ne dX8_isAnyNothing_22 (tgt := 29) (by decide) (fun c22 => ?_) (fun c22 => ?_)
        · skip
          refine pw_iconst dX8_isAnyNothing_29 (v := 0) (by decide) ?_
          refine pw_istore_n dX8_isAnyNothing_30 (by decide) rfl ?_
          refine pw_iinc dX8_isAnyNothing_31 rfl (d := 1) (by decide) (by decide) rfl ?_
          rw [nI_1]
          refine pw_goto dX8_isAnyNothing_34 (tgt := 4) (by decide) ?_
          refine ih (i + 1) _ (by omega) ?_ (by omega)
          exact any_n hx (b2i_eq (hx.symm.trans c13)) (decide_eq_false c22)
        · skip
          refine pw_iconst dX8_isAnyNothing_25 (v := 1) (by decide) ?_
          refine pw_goto dX8_isAnyNothing_26 (tgt := 30) (by decide) ?_
          refine pw_istore_n dX8_isAnyNothing_30 (by decide) rfl ?_
          refine pw_iinc dX8_isAnyNothing_31 rfl (d := 1) (by decide) (by decide) rfl ?_
          rw [nI_1]
          refine pw_goto dX8_isAnyNothing_34 (tgt := 4) (by decide) ?_
          refine ih (i + 1) _ (by omega) ?_ (by omega)
          exact any_s hx (Or.inr (decide_eq_true c22))

set_option maxRecDepth 100000 in
set_option maxHeartbeats 4000000 in
theorem sp_X8_isAnyNothing {l : Launch} {G : GC} {ad : Nat → Nat} {h : HP} {P : Nat} (hP : h 253 13 = nI P) (hP4 : P ≤ 4) : PF l G yX8_isAnyNothing (.code yX8_isAnyNothing cX8_isAnyNothing 3 ((Option.some FieldType.boolean))) { frames := 0, cells := 0, slots := 0, locals := 0 } [.ref (ad 253)] SW ad (h) (some (.int (b2i (anyB (fun k => decide (h 259 k = 0)) P)))) (h) := by
  refine PF.mk (L0 := [some (.ref (ad 253)), none, none]) RX8 "isAnyNothing" 0 0 (by decide +kernel) rfl rfl ⟨rfl, rfl⟩ (by simp [Value.category]) (Nat.le_of_ble_eq_true rfl) rfl ?_
  refine pw_iconst dX8_isAnyNothing_0 (v := 0) (by decide) ?_
  refine pw_istore_n dX8_isAnyNothing_1 (by decide) rfl ?_
  refine pw_iconst dX8_isAnyNothing_2 (v := 0) (by decide) ?_
  refine pw_istore_n dX8_isAnyNothing_3 (by decide) rfl ?_
  exact lp_X8_isAnyNothing hP hP4 (P + 1) 0 0 (Nat.zero_le _) rfl (by omega)

set_option maxRecDepth 100000 in
set_option maxHeartbeats 4000000 in
theorem lq_X8_areLots {l : Launch} {G : GC} {ad : Nat → Nat} {h : HP} {P : Nat} (hP : h 253 13 = nI P) (hP4 : P ≤ 4) {i : Nat} (hi9 : i < P) (K : ∀ y : Int32, y = b2i (!anyB (wmB (fun k => h 258 k) (h 254 0)) (i + 1)) → PW l G cX8_areLots RX8 4 ((Option.some FieldType.boolean)) [] { frames := 2, cells := 0, slots := 0, locals := 43 } (gNm "areLots") (gME G SW ad (gR SW ad (some (.int (b2i (!anyB (wmB (fun k => h 258 k) (h 254 0)) P)))) (h)) gNo 0 0) 4 [some (.ref (ad 253)), some (.int y), some (.int (nI (i + 1))), some (.int (nI i))] [] SW ad (h) 0 0) : ∀ (mu9 : Nat) (j : Nat) (x : Int32) (hj : j ≤ i) (hx : x = b2i (!(anyB (wmB (fun k => h 258 k) (h 254 0)) i || ((!(wiB ((fun k => h 258 k) i) 0 (h 254 0 - 1))) || anyB (fun o => decide ((fun k => h 258 k) o = (fun k => h 258 k) i)) j)))) (hmu9 : i - j < mu9), PW l G cX8_areLots RX8 4 ((Option.some FieldType.boolean)) [] { frames := 2, cells := 0, slots := 0, locals := 43 } (gNm "areLots") (gME G SW ad (gR SW ad (some (.int (b2i (!anyB (wmB (fun k => h 258 k) (h 254 0)) P)))) (h)) gNo 0 0) 37 [some (.ref (ad 253)), some (.int x), some (.int (nI i)), some (.int (nI j))] [] SW ad (h) 0 0 := by
  intro mu9
  induction mu9 with
  | zero => intro j x hj hx hmu9; exact absurd hmu9 (Nat.not_lt_zero _)
  | succ mu9 ih =>
    intro j x hj hx hmu9
    refine pw_iload_n dX8_areLots_37 rfl ?_
    refine pw_iload_n dX8_areLots_38 rfl ?_
    refine pw_icmp_ge dX8_areLots_39 (tgt := 73) (by decide) (fun c39 => ?_) (fun c39 => ?_)
    · skip
      have hj8 : j = i := eqN rfl hj (by omega) c39
      subst hj8
      refine pw_iinc dX8_areLots_73 rfl (d := 1) (by decide) (by decide) rfl ?_
      rw [nI_1]
      refine pw_goto dX8_areLots_76 (tgt := 4) (by decide) ?_
      exact K _ hx
    · skip
      have hj9 : j < i := ltN rfl hj (by omega) c39
      refine pw_iload_n dX8_areLots_42 rfl ?_
      refine pw_if_eq dX8_areLots_43 (tgt := 65) (by decide) (fun c43 => ?_) (fun c43 => ?_)
      · skip
        refine pw_iconst dX8_areLots_65 (v := 0) (by decide) ?_
        refine pw_istore_n dX8_areLots_66 (by decide) rfl ?_
        refine pw_iinc dX8_areLots_67 rfl (d := 1) (by decide) (by decide) rfl ?_
        rw [nI_1]
        refine pw_goto dX8_areLots_70 (tgt := 37) (by decide) ?_
        refine ih (j + 1) _ (by omega) ?_ (by omega)
        exact v_n (D := (fun o => decide ((fun k => h 258 k) o = (fun k => h 258 k) i)) j) (Or.inl (b2i_eq (hx.symm.trans c43)))
      · skip
        refine pw_aload_n dX8_areLots_46 rfl ?_
        refine pw_getr dX8_areLots_47 lf_X8_27 sh_253 rfl ?_
        refine pw_iload_n dX8_areLots_50 rfl ?_
        refine pw_iaload dX8_areLots_51 sh_258 (vpin (N := 4) (by omega) (by decide)) ?_
        refine pw_aload_n dX8_areLots_52 rfl ?_
        refine pw_getr dX8_areLots_53 lf_X8_27 sh_253 rfl ?_
        refine pw_iload_n dX8_areLots_56 rfl ?_
        refine pw_iaload dX8_areLots_57 sh_258 (vpin (N := 4) (by omega) (by decide)) ?_
        rw [nI_cl (show j < 2147483648 by omega), nI_cl (show i < 2147483648 by omega)]
        refine pw_icmp_eq dX8_areLots_58 (tgt := 65) (by decide) (fun c58 => ?_) (fun c58 => ?_)
        · skip
          refine pw_iconst dX8_areLots_65 (v := 0) (by decide) ?_
          refine pw_istore_n dX8_areLots_66 (by decide) rfl ?_
          refine pw_iinc dX8_areLots_67 rfl (d := 1) (by decide) (by decide) rfl ?_
          rw [nI_1]
          refine pw_goto dX8_areLots_70 (tgt := 37) (by decide) ?_
          refine ih (j + 1) _ (by omega) ?_ (by omega)
          exact v_n (D := (fun o => decide ((fun k => h 258 k) o = (fun k => h 258 k) i)) j) (Or.inr (decide_eq_true c58))
        · skip
          refine pw_iconst dX8_areLots_61 (v := 1) (by decide) ?_
          refine pw_goto dX8_areLots_62 (tgt := 66) (by decide) ?_
          refine pw_istore_n dX8_areLots_66 (by decide) rfl ?_
          refine pw_iinc dX8_areLots_67 rfl (d := 1) (by decide) (by decide) rfl ?_
          rw [nI_1]
          refine pw_goto dX8_areLots_70 (tgt := 37) (by decide) ?_
          refine ih (j + 1) _ (by omega) ?_ (by omega)
          exact v_s (D := (fun o => decide ((fun k => h 258 k) o = (fun k => h 258 k) i)) j) (b2i_ne (fun q => c43 (hx.trans q))) (decide_eq_false c58)

set_option maxRecDepth 100000 in
set_option maxHeartbeats 4000000 in
theorem lp_X8_areLots {l : Launch} {G : GC} {ad : Nat → Nat} {h : HP} {P : Nat} (hP : h 253 13 = nI P) (hP4 : P ≤ 4)  : ∀ (mu9 : Nat) (i : Nat) (x : Int32) (ls3 : Option Value) (hi : i ≤ P) (hx : x = b2i (!anyB (wmB (fun k => h 258 k) (h 254 0)) i)) (hmu9 : P - i < mu9), PW l G cX8_areLots RX8 4 ((Option.some FieldType.boolean)) [] { frames := 2, cells := 0, slots := 0, locals := 43 } (gNm "areLots") (gME G SW ad (gR SW ad (some (.int (b2i (!anyB (wmB (fun k => h 258 k) (h 254 0)) P)))) (h)) gNo 0 0) 4 [some (.ref (ad 253)), some (.int x), some (.int (nI i)), ls3] [] SW ad (h) 0 0 := by
  intro mu9
  induction mu9 with
  | zero => intro i x ls3 hi hx hmu9; exact absurd hmu9 (Nat.not_lt_zero _)
  | succ mu9 ih =>
    intro i x ls3 hi hx hmu9
    refine pw_iload_n dX8_areLots_4 rfl ?_
    refine pw_aload_n dX8_areLots_5 rfl ?_
    refine pw_geti dX8_areLots_6 lf_X8_92 sh_253 rfl ?_
    refine pw_icmp_ge dX8_areLots_9 (tgt := 79) (by decide) (fun c9 => ?_) (fun c9 => ?_)
    · skip
      have hi8 : i = P := eqN hP hi (by omega) c9
      refine pw_iload_n dX8_areLots_79 rfl ?_
      exact pw_iretF dX8_areLots_80 rfl (by rw [hx]; exact nar_b _) rfl (by rw [hx, hi8]) rfl
    · skip
      have hi9 : i < P := ltN hP hi (by omega) c9
      refine pw_iload_n dX8_areLots_12 rfl ?_
      refine pw_if_eq dX8_areLots_13 (tgt := 33) (by decide) (fun c13 => ?_) (fun c13 => ?_)
      · skip
        refine pw_iconst dX8_areLots_33 (v := 0) (by decide) ?_
        refine pw_istore_n dX8_areLots_34 (by decide) rfl ?_
        refine pw_iconst dX8_areLots_35 (v := 0) (by decide) ?_
        refine pw_istore_n dX8_areLots_36 (by decide) rfl ?_
        refine lq_X8_areLots hP hP4 hi9 (fun y hy => ih (i + 1) _ _ (by omega) hy (by omega)) (i + 1) 0 _ (Nat.zero_le _) ?_ (by omega)
        have f1 : anyB (wmB (fun k => h 258 k) (h 254 0)) i = true := by simpa using (b2i_eq (hx.symm.trans c13) : (!anyB (wmB (fun k => h 258 k) (h 254 0)) i) = false)
        simp [b2i, anyB, f1]
      · skip
        refine pw_aload_n dX8_areLots_16 rfl ?_
        refine pw_aload_n dX8_areLots_17 rfl ?_
        refine pw_getr dX8_areLots_18 lf_X8_27 sh_253 rfl ?_
        refine pw_iload_n dX8_areLots_21 rfl ?_
        refine pw_iaload dX8_areLots_22 sh_258 (vpin (N := 4) (by omega) (by decide)) ?_
        rw [nI_cl (by omega)]
        refine pw_cV dX8_areLots_23 (sp_X8_isLot) mi_X8_isLot mv_X8_isLot ml_X8_98 sh_253 rfl rfl rfl rfl ⟨rfl, rfl⟩ rfl rfl ?_
        refine pw_if_eq dX8_areLots_26 (tgt := 33) (by decide) (fun c26 => ?_) (fun c26 => ?_)
        · skip
          refine pw_iconst dX8_areLots_33 (v := 0) (by decide) ?_
          refine pw_istore_n dX8_areLots_34 (by decide) rfl ?_
          refine pw_iconst dX8_areLots_35 (v := 0) (by decide) ?_
          refine pw_istore_n dX8_areLots_36 (by decide) rfl ?_
          refine lq_X8_areLots hP hP4 hi9 (fun y hy => ih (i + 1) _ _ (by omega) hy (by omega)) (i + 1) 0 _ (Nat.zero_le _) ?_ (by omega)
          have f2 := b2i_eq c26
          simp [b2i, anyB, f2]
        · skip
          refine pw_iconst dX8_areLots_29 (v := 1) (by decide) ?_
          refine pw_goto dX8_areLots_30 (tgt := 34) (by decide) ?_
          refine pw_istore_n dX8_areLots_34 (by decide) rfl ?_
          refine pw_iconst dX8_areLots_35 (v := 0) (by decide) ?_
          refine pw_istore_n dX8_areLots_36 (by decide) rfl ?_
          refine lq_X8_areLots hP hP4 hi9 (fun y hy => ih (i + 1) _ _ (by omega) hy (by omega)) (i + 1) 0 _ (Nat.zero_le _) ?_ (by omega)
          have f1 : anyB (wmB (fun k => h 258 k) (h 254 0)) i = false := by simpa using (b2i_ne (fun q => c13 (hx.trans q)) : (!anyB (wmB (fun k => h 258 k) (h 254 0)) i) = true)
          have f2 := b2i_ne c26
          simp [b2i, anyB, f1, f2]

set_option maxRecDepth 100000 in
set_option maxHeartbeats 4000000 in
theorem sp_X8_areLots {l : Launch} {G : GC} {ad : Nat → Nat} {h : HP} {P : Nat} (hP : h 253 13 = nI P) (hP4 : P ≤ 4) : PF l G yX8_areLots (.code yX8_areLots cX8_areLots 4 ((Option.some FieldType.boolean))) { frames := 2, cells := 0, slots := 0, locals := 43 } [.ref (ad 253)] SW ad (h) (some (.int (b2i (!anyB (wmB (fun k => h 258 k) (h 254 0)) P)))) (h) := by
  refine PF.mk (L0 := [some (.ref (ad 253)), none, none, none]) RX8 "areLots" 0 0 (by decide +kernel) rfl rfl ⟨rfl, rfl⟩ (by simp [Value.category]) (Nat.le_of_ble_eq_true rfl) rfl ?_
  refine pw_iconst dX8_areLots_0 (v := 1) (by decide) ?_
  refine pw_istore_n dX8_areLots_1 (by decide) rfl ?_
  refine pw_iconst dX8_areLots_2 (v := 0) (by decide) ?_
  refine pw_istore_n dX8_areLots_3 (by decide) rfl ?_
  exact lp_X8_areLots hP hP4 (P + 1) 0 1 none (Nat.zero_le _) rfl (by omega)

set_option maxRecDepth 100000 in
set_option maxHeartbeats 4000000 in
theorem lp_X8_isEnough {l : Launch} {G : GC} {ad : Nat → Nat} {h : HP} {P : Nat} (hP : h 253 13 = nI P) (hP4 : P ≤ 4) {tn : Nat → Nat} (ht : ∀ k, k < P → h 258 k = nI (tn k) ∧ tn k < 24)  : ∀ (mu9 : Nat) (i : Nat) (x : Int32) (hi : i ≤ P) (hx : x = b2i (!anyB (fun k => decide (mL h (tn k) 1 < h 259 k)) i)) (hmu9 : P - i < mu9), PW l G cX8_isEnough RX8 3 ((Option.some FieldType.boolean)) [] { frames := 1, cells := 0, slots := 0, locals := 22 } (gNm "isEnough") (gME G SW ad (gR SW ad (some (.int (b2i (!anyB (fun k => decide (mL h (tn k) 1 < h 259 k)) P)))) (h)) gNo 0 0) 4 [some (.ref (ad 253)), some (.int x), some (.int (nI i))] [] SW ad (h) 0 0 := by
  intro mu9
  induction mu9 with
  | zero => intro i x hi hx hmu9; exact absurd hmu9 (Nat.not_lt_zero _)
  | succ mu9 ih =>
    intro i x hi hx hmu9
    refine pw_iload_n dX8_isEnough_4 rfl ?_
    refine pw_aload_n dX8_isEnough_5 rfl ?_
    refine pw_geti dX8_isEnough_6 lf_X8_92 sh_253 rfl ?_
    refine pw_icmp_ge dX8_isEnough_9 (tgt := 48) (by decide) (fun c9 => ?_) (fun c9 => ?_)
    · skip
      have hi8 : i = P := eqN hP hi (by omega) c9
      refine pw_iload_n dX8_isEnough_48 rfl ?_
      exact pw_iretF dX8_isEnough_49 rfl (by rw [hx]; exact nar_b _) rfl (by rw [hx, hi8]) rfl
    · skip
      have hi9 : i < P := ltN hP hi (by omega) c9
      refine pw_iload_n dX8_isEnough_12 rfl ?_
      refine pw_if_eq dX8_isEnough_13 (tgt := 40) (by decide) (fun c13 => ?_) (fun c13 => ?_)
      · skip
        refine pw_iconst dX8_isEnough_40 (v := 0) (by decide) ?_
        refine pw_istore_n dX8_isEnough_41 (by decide) rfl ?_
        refine pw_iinc dX8_isEnough_42 rfl (d := 1) (by decide) (by decide) rfl ?_
        rw [nI_1]
        refine pw_goto dX8_isEnough_45 (tgt := 4) (by decide) ?_
        refine ih (i + 1) _ (by omega) ?_ (by omega)
        exact al_n (Or.inl (b2i_eq (hx.symm.trans c13)))
      · skip
        refine pw_aload_n dX8_isEnough_16 rfl ?_
        refine pw_getr dX8_isEnough_17 lf_X8_30 sh_253 rfl ?_
        refine pw_iload_n dX8_isEnough_20 rfl ?_
        refine pw_iaload dX8_isEnough_21 sh_259 (vpin (N := 4) (by omega) (by decide)) ?_
        rw [nI_cl (by omega)]
        refine pw_aload_n dX8_isEnough_22 rfl ?_
        refine pw_aload_n dX8_isEnough_23 rfl ?_
        refine pw_getr dX8_isEnough_24 lf_X8_27 sh_253 rfl ?_
        refine pw_iload_n dX8_isEnough_27 rfl ?_
        refine pw_iaload dX8_isEnough_28 sh_258 (vpin (N := 4) (by omega) (by decide)) ?_
        rw [nI_cl (by omega), (ht i hi9).1]
        refine pw_iconst dX8_isEnough_29 (v := 1) (by decide) ?_
        refine pw_cV dX8_isEnough_30 (sp_X8_l (lot := tn i) (k := 1) (by have := (ht i hi9).2; omega)) mi_X8_l mv_X8_l ml_X8_102 sh_253 rfl rfl rfl rfl ⟨rfl, rfl⟩ rfl rfl ?_
        refine pw_icmp_gt dX8_isEnough_33 (tgt := 40) (by decide) (fun c33 => ?_) (fun c33 => ?_)
        · skip
          refine pw_iconst dX8_isEnough_40 (v := 0) (by decide) ?_
          refine pw_istore_n dX8_isEnough_41 (by decide) rfl ?_
          refine pw_iinc dX8_isEnough_42 rfl (d := 1) (by decide) (by decide) rfl ?_
          rw [nI_1]
          refine pw_goto dX8_isEnough_45 (tgt := 4) (by decide) ?_
          refine ih (i + 1) _ (by omega) ?_ (by omega)
          exact al_n (Or.inr (decide_eq_true c33))
        · skip
          refine pw_iconst dX8_isEnough_36 (v := 1) (by decide) ?_
          refine pw_goto dX8_isEnough_37 (tgt := 41) (by decide) ?_
          refine pw_istore_n dX8_isEnough_41 (by decide) rfl ?_
          refine pw_iinc dX8_isEnough_42 rfl (d := 1) (by decide) (by decide) rfl ?_
          rw [nI_1]
          refine pw_goto dX8_isEnough_45 (tgt := 4) (by decide) ?_
          refine ih (i + 1) _ (by omega) ?_ (by omega)
          exact al_s (b2i_ne (fun q => c13 (hx.trans q))) (decide_eq_false c33)

set_option maxRecDepth 100000 in
set_option maxHeartbeats 4000000 in
theorem sp_X8_isEnough {l : Launch} {G : GC} {ad : Nat → Nat} {h : HP} {P : Nat} (hP : h 253 13 = nI P) (hP4 : P ≤ 4) {tn : Nat → Nat} (ht : ∀ k, k < P → h 258 k = nI (tn k) ∧ tn k < 24) : PF l G yX8_isEnough (.code yX8_isEnough cX8_isEnough 3 ((Option.some FieldType.boolean))) { frames := 1, cells := 0, slots := 0, locals := 22 } [.ref (ad 253)] SW ad (h) (some (.int (b2i (!anyB (fun k => decide (mL h (tn k) 1 < h 259 k)) P)))) (h) := by
  refine PF.mk (L0 := [some (.ref (ad 253)), none, none]) RX8 "isEnough" 0 0 (by decide +kernel) rfl rfl ⟨rfl, rfl⟩ (by simp [Value.category]) (Nat.le_of_ble_eq_true rfl) rfl ?_
  refine pw_iconst dX8_isEnough_0 (v := 1) (by decide) ?_
  refine pw_istore_n dX8_isEnough_1 (by decide) rfl ?_
  refine pw_iconst dX8_isEnough_2 (v := 0) (by decide) ?_
  refine pw_istore_n dX8_isEnough_3 (by decide) rfl ?_
  exact lp_X8_isEnough hP hP4 ht (P + 1) 0 1 (Nat.zero_le _) rfl (by omega)

set_option maxRecDepth 100000 in
set_option maxHeartbeats 4000000 in
theorem lp_X8_nextGeneration {l : Launch} {G : GC} {ad : Nat → Nat} {h : HP} {P : Nat} (hP : h 253 13 = nI P) (hP4 : P ≤ 4) {tn : Nat → Nat} (ht : ∀ k, k < P → h 258 k = nI (tn k) ∧ tn k < 24)  : ∀ (mu9 : Nat) (i : Nat) (x : Int32) (hi : i ≤ P) (hx : x = maxF (fun k => mL h (tn k) 3) i) (hmu9 : P - i < mu9), PW l G cX8_nextGeneration RX8 3 ((Option.some FieldType.int)) [] { frames := 1, cells := 0, slots := 0, locals := 22 } (gNm "nextGeneration") (gME G SW ad (gR SW ad (some (.int (maxF (fun k => mL h (tn k) 3) P + 1))) (h)) gNo 0 0) 4 [some (.ref (ad 253)), some (.int x), some (.int (nI i))] [] SW ad (h) 0 0 := by
  intro mu9
  induction mu9 with
  | zero => intro i x hi hx hmu9; exact absurd hmu9 (Nat.not_lt_zero _)
  | succ mu9 ih =>
    intro i x hi hx hmu9
    refine pw_iload_n dX8_nextGeneration_4 rfl ?_
    refine pw_aload_n dX8_nextGeneration_5 rfl ?_
    refine pw_geti dX8_nextGeneration_6 lf_X8_92 sh_253 rfl ?_
    refine pw_icmp_ge dX8_nextGeneration_9 (tgt := 49) (by decide) (fun c9 => ?_) (fun c9 => ?_)
    · skip
      have hi8 : i = P := eqN hP hi (by omega) c9
      refine pw_iload_n dX8_nextGeneration_49 rfl ?_
      refine pw_iconst dX8_nextGeneration_50 (v := 1) (by decide) ?_
      refine pw_iadd dX8_nextGeneration_51 ?_
      exact pw_iretF dX8_nextGeneration_52 rfl rfl rfl (by rw [hx, hi8]) rfl
    · skip
      have hi9 : i < P := ltN hP hi (by omega) c9
      refine pw_aload_n dX8_nextGeneration_12 rfl ?_
      refine pw_aload_n dX8_nextGeneration_13 rfl ?_
      refine pw_getr dX8_nextGeneration_14 lf_X8_27 sh_253 rfl ?_
      refine pw_iload_n dX8_nextGeneration_17 rfl ?_
      refine pw_iaload dX8_nextGeneration_18 sh_258 (vpin (N := 4) (by omega) (by decide)) ?_
      rw [nI_cl (by omega), (ht i hi9).1]
      refine pw_iconst dX8_nextGeneration_19 (v := 3) (by decide) ?_
      refine pw_cV dX8_nextGeneration_20 (sp_X8_l (lot := tn i) (k := 3) (by have := (ht i hi9).2; omega)) mi_X8_l mv_X8_l ml_X8_102 sh_253 rfl rfl rfl rfl ⟨rfl, rfl⟩ rfl rfl ?_
      refine pw_iload_n dX8_nextGeneration_23 rfl ?_
      refine pw_icmp_le dX8_nextGeneration_24 (tgt := 41) (by decide) (fun c24 => ?_) (fun c24 => ?_)
      · skip
        refine pw_iload_n dX8_nextGeneration_41 rfl ?_
        refine pw_istore_n dX8_nextGeneration_42 (by decide) rfl ?_
        refine pw_iinc dX8_nextGeneration_43 rfl (d := 1) (by decide) (by decide) rfl ?_
        rw [nI_1]
        refine pw_goto dX8_nextGeneration_46 (tgt := 4) (by decide) ?_
        refine ih (i + 1) _ (by omega) ?_ (by omega)
        rw [maxF, ← hx, if_neg (Int32.not_lt.mpr c24)]
      · skip
        refine pw_aload_n dX8_nextGeneration_27 rfl ?_
        refine pw_aload_n dX8_nextGeneration_28 rfl ?_
        refine pw_getr dX8_nextGeneration_29 lf_X8_27 sh_253 rfl ?_
        refine pw_iload_n dX8_nextGeneration_32 rfl ?_
        refine pw_iaload dX8_nextGeneration_33 sh_258 (vpin (N := 4) (by omega) (by decide)) ?_
        rw [nI_cl (by omega), (ht i hi9).1]
        refine pw_iconst dX8_nextGeneration_34 (v := 3) (by decide) ?_
        refine pw_cV dX8_nextGeneration_35 (sp_X8_l (lot := tn i) (k := 3) (by have := (ht i hi9).2; omega)) mi_X8_l mv_X8_l ml_X8_102 sh_253 rfl rfl rfl rfl ⟨rfl, rfl⟩ rfl rfl ?_
        refine pw_goto dX8_nextGeneration_38 (tgt := 42) (by decide) ?_
        refine pw_istore_n dX8_nextGeneration_42 (by decide) rfl ?_
        refine pw_iinc dX8_nextGeneration_43 rfl (d := 1) (by decide) (by decide) rfl ?_
        rw [nI_1]
        refine pw_goto dX8_nextGeneration_46 (tgt := 4) (by decide) ?_
        refine ih (i + 1) _ (by omega) ?_ (by omega)
        rw [maxF, ← hx, if_pos (Int32.not_le.mp c24)]

set_option maxRecDepth 100000 in
set_option maxHeartbeats 4000000 in
theorem sp_X8_nextGeneration {l : Launch} {G : GC} {ad : Nat → Nat} {h : HP} {P : Nat} (hP : h 253 13 = nI P) (hP4 : P ≤ 4) {tn : Nat → Nat} (ht : ∀ k, k < P → h 258 k = nI (tn k) ∧ tn k < 24) : PF l G yX8_nextGeneration (.code yX8_nextGeneration cX8_nextGeneration 3 ((Option.some FieldType.int))) { frames := 1, cells := 0, slots := 0, locals := 22 } [.ref (ad 253)] SW ad (h) (some (.int (maxF (fun k => mL h (tn k) 3) P + 1))) (h) := by
  refine PF.mk (L0 := [some (.ref (ad 253)), none, none]) RX8 "nextGeneration" 0 0 (by decide +kernel) rfl rfl ⟨rfl, rfl⟩ (by simp [Value.category]) (Nat.le_of_ble_eq_true rfl) rfl ?_
  refine pw_iconst dX8_nextGeneration_0 (v := 0) (by decide) ?_
  refine pw_istore_n dX8_nextGeneration_1 (by decide) rfl ?_
  refine pw_iconst dX8_nextGeneration_2 (v := 0) (by decide) ?_
  refine pw_istore_n dX8_nextGeneration_3 (by decide) rfl ?_
  exact lp_X8_nextGeneration hP hP4 ht (P + 1) 0 0 (Nat.zero_le _) rfl (by omega)

set_option maxRecDepth 100000 in
set_option maxHeartbeats 4000000 in
theorem sp_X8_refusal {l : Launch} {G : GC} {ad : Nat → Nat} {h : HP} {P : Nat} (hP : h 253 13 = nI P) (hP4 : P ≤ 4) {tn : Nat → Nat} (ht : anyB (wmB (fun k => h 258 k) (h 254 0)) P = false → ∀ k, k < P → h 258 k = nI (tn k) ∧ tn k < 24) : PF l G yX8_refusal (.code yX8_refusal cX8_refusal 1 ((Option.some FieldType.int))) { frames := 3, cells := 0, slots := 0, locals := 66 } [.ref (ad 253)] SW ad (h) (some (.int (rmI (anyB (wmB (fun k => h 258 k) (h 254 0)) P) (anyB (fun k => decide (mL h (tn k) 1 < h 259 k)) P) (maxF (fun k => mL h (tn k) 3) P + 1) (h 254 0)))) (h) := by
  refine PF.mk (L0 := [some (.ref (ad 253))]) RX8 "refusal" 0 0 (by decide +kernel) rfl rfl ⟨rfl, rfl⟩ (by simp [Value.category]) (Nat.le_of_ble_eq_true rfl) rfl ?_
  refine pw_aload_n dX8_refusal_0 rfl ?_
  refine pw_cV dX8_refusal_1 (sp_X8_areLots hP hP4) mi_X8_areLots mv_X8_areLots ml_X8_106 sh_253 rfl rfl rfl rfl ⟨rfl, rfl⟩ rfl rfl ?_
  refine pw_if_ne dX8_refusal_4 (tgt := 9) (by decide) (fun c4 => ?_) (fun c4 => ?_)
  · skip
    have f1 : anyB (wmB (fun k => h 258 k) (h 254 0)) P = false := by simpa using (b2i_ne c4 : (!anyB (wmB (fun k => h 258 k) (h 254 0)) P) = true)
    refine pw_aload_n dX8_refusal_9 rfl ?_
    refine pw_cV dX8_refusal_10 (sp_X8_isEnough hP hP4 (ht f1)) mi_X8_isEnough mv_X8_isEnough ml_X8_109 sh_253 rfl rfl rfl rfl ⟨rfl, rfl⟩ rfl rfl ?_
    refine pw_if_ne dX8_refusal_13 (tgt := 20) (by decide) (fun c13 => ?_) (fun c13 => ?_)
    · skip
      have f2 : anyB (fun k => decide (mL h (tn k) 1 < h 259 k)) P = false := by simpa using (b2i_ne c13 : (!anyB (fun k => decide (mL h (tn k) 1 < h 259 k)) P) = true)
      refine pw_aload_n dX8_refusal_20 rfl ?_
      refine pw_cV dX8_refusal_21 (sp_X8_nextGeneration hP hP4 (ht f1)) mi_X8_nextGeneration mv_X8_nextGeneration ml_X8_112 sh_253 rfl rfl rfl rfl ⟨rfl, rfl⟩ rfl rfl ?_
      refine pw_iconst dX8_refusal_24 (v := 4) (by decide) ?_
      refine pw_icmp_le dX8_refusal_25 (tgt := 32) (by decide) (fun c25 => ?_) (fun c25 => ?_)
      · skip
        refine pw_aload_n dX8_refusal_32 rfl ?_
        refine pw_getr dX8_refusal_33 lf_X8_9 sh_253 rfl ?_
        refine pw_iconst dX8_refusal_36 (v := 0) (by decide) ?_
        refine pw_iaload dX8_refusal_37 sh_254 (vpin (n := 0) (N := 1032) (by decide) (by decide)) ?_
        refine pw_bipush dX8_refusal_38 (v := 24) (by decide) ?_
        refine pw_icmp_ne dX8_refusal_40 (tgt := 47) (by decide) (fun c40 => ?_) (fun c40 => ?_)
        · skip
          refine pw_iconst dX8_refusal_47 (v := 0) (by decide) ?_
          exact pw_iretF dX8_refusal_48 rfl rfl rfl (by rw [rmI, if_neg (by rw [f1]; decide), if_neg (by rw [f2]; decide), if_neg (Int32.not_lt.mpr c25), if_neg (show ¬ h 254 0 = 24 from c40)]) rfl
        · skip
          refine pw_iconst dX8_refusal_43 (v := 4) (by decide) ?_
          refine pw_goto dX8_refusal_44 (tgt := 48) (by decide) ?_
          exact pw_iretF dX8_refusal_48 rfl rfl rfl (by rw [rmI, if_neg (by rw [f1]; decide), if_neg (by rw [f2]; decide), if_neg (Int32.not_lt.mpr c25), if_pos (show h 254 0 = 24 from c40)]) rfl
      · skip
        refine pw_iconst dX8_refusal_28 (v := 3) (by decide) ?_
        refine pw_goto dX8_refusal_29 (tgt := 48) (by decide) ?_
        exact pw_iretF dX8_refusal_48 rfl rfl rfl (by rw [rmI, if_neg (by rw [f1]; decide), if_neg (by rw [f2]; decide), if_pos (Int32.not_le.mp c25)]) rfl
    · skip
      have f2 : anyB (fun k => decide (mL h (tn k) 1 < h 259 k)) P = true := by simpa using (b2i_eq c13 : (!anyB (fun k => decide (mL h (tn k) 1 < h 259 k)) P) = false)
      refine pw_iconst dX8_refusal_16 (v := 2) (by decide) ?_
      refine pw_goto dX8_refusal_17 (tgt := 48) (by decide) ?_
      exact pw_iretF dX8_refusal_48 rfl rfl rfl (by rw [rmI, if_neg (by rw [f1]; decide), if_pos f2]) rfl
  · skip
    have f1 : anyB (wmB (fun k => h 258 k) (h 254 0)) P = true := by simpa using (b2i_eq c4 : (!anyB (wmB (fun k => h 258 k) (h 254 0)) P) = false)
    refine pw_iconst dX8_refusal_7 (v := 1) (by decide) ?_
    exact pw_iretF dX8_refusal_8 rfl rfl rfl (by rw [rmI, if_pos f1]) rfl

