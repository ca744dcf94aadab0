/-! THE MODEL'S SUMS AND COUNTS -/
def MW (h : HP) (nL nH nB nC : Nat) (np : Nat → Nat) (pl : Nat → Nat → Nat) (lb : Nat → Nat) : Prop :=
  (h 254 0 = nI nL ∧ nL ≤ 24) ∧ (h 254 1 = nI nH ∧ nH ≤ 12) ∧ (h 254 2 = nI nB ∧ nB ≤ 16) ∧ (h 254 3 = nI nC ∧ nC ≤ 8) ∧
  (∀ b, b < 24 → mL h b 2 = nI (np b) ∧ np b ≤ 4) ∧ (∀ b k, b < 24 → k < 4 → mL h b (5 + k) = nI (pl b k) ∧ pl b k < 24) ∧ (∀ b, b < 16 → mB h b 0 = nI (lb b) ∧ lb b < 24)
def liB (h : HP) (b c : Nat) : Bool := decide (mHd h c b < mWi h c b)
def ahB (h : HP) (c o : Nat) : Bool := if h 254 (768 + c) - h 254 (768 + o) = 0 then decide (nI c < nI o) else decide (h 254 (768 + c) - h 254 (768 + o) < 0)
def plI (h : HP) (nC c b : Nat) : Int32 := if liB h b c then nI (cntB (fun o => liB h b o && ahB h o c) nC) else -1
def ipB (h : HP) (x : Int32) (b n : Nat) : Bool := anyB (fun k => decide (mL h b (5 + k) = x)) n
/-- the customer at a place, from c on -/
def caF (h : HP) (nC b : Nat) (p : Int32) : Nat → Nat → Int32
  | 0, _ => -1
  | n + 1, c => if p < 0 then -1 else if plI h nC c b = p then nI c else caF h nC b p n (c + 1)
theorem any_s {p : Nat → Bool} {n : Nat} {x : Int32} (hx : x = b2i (anyB p n)) (h : anyB p n = true ∨ p n = true) : (1 : Int32) = b2i (anyB p (n + 1)) := by
  show _ = b2i (anyB p n || p n)
  rcases h with q | q <;> simp [q, b2i]
theorem any_n {p : Nat → Bool} {n : Nat} {x : Int32} (hx : x = b2i (anyB p n)) (h : anyB p n = false) (h2 : p n = false) : (0 : Int32) = b2i (anyB p (n + 1)) := by
  show _ = b2i (anyB p n || p n)
  simp [h, h2, b2i]
set_option maxRecDepth 100000 in
set_option maxHeartbeats 4000000 in
theorem lp_X8_sumOfLots {l : Launch} {G : GC} {ad : Nat → Nat} {h : HP} {nL nH nB nC : Nat} {np : Nat → Nat} {pl : Nat → Nat → Nat} {lb : Nat → Nat} (hw : MW h nL nH nB nC np pl lb)  : ∀ (mu9 : Nat) (i : Nat) (x : Int32) (hi : i ≤ nL) (hx : x = sumC (fun k => mL h k 1) i) (hmu9 : nL - i < mu9), PW l G cX8_sumOfLots RX8 3 ((Option.some FieldType.int)) [] { frames := 1, cells := 0, slots := 0, locals := 22 } (gNm "sumOfLots") (gME G SW ad (gR SW ad (some (.int (sumC (fun k => mL h k 1) nL))) (h)) gNo 0 0) 4 [some (.ref (ad 253)), some (.int x), some (.int (nI i))] [] SW ad (h) 0 0 := by
  intro mu9
  induction mu9 with
  | zero => intro i x hi hx hmu9; exact absurd hmu9 (Nat.not_lt_zero _)
  | succ mu9 ih =>
    intro i x hi hx hmu9
    have hb1 := hw.1.2
    have hb2 := hw.2.1.2
    have hb3 := hw.2.2.1.2
    have hb4 := hw.2.2.2.1.2
    refine pw_iload_n dX8_sumOfLots_4 rfl ?_
    refine pw_aload_n dX8_sumOfLots_5 rfl ?_
    refine pw_getr dX8_sumOfLots_6 lf_X8_9 sh_253 rfl ?_
    refine pw_iconst dX8_sumOfLots_9 (v := 0) (by decide) ?_
    refine pw_iaload dX8_sumOfLots_10 sh_254 (vpin (n := 0) (N := 1032) (by decide) (by decide)) ?_
    refine pw_icmp_ge dX8_sumOfLots_11 (tgt := 29) (by decide) (fun c11 => ?_) (fun c11 => ?_)
    · skip
      have hi8 : i = nL := eqN hw.1.1 hi (by omega) c11
      refine pw_iload_n dX8_sumOfLots_29 rfl ?_
      exact pw_iretF dX8_sumOfLots_30 rfl rfl rfl (by rw [hx, hi8]) rfl
    · skip
      have hi9 : i < nL := ltN hw.1.1 hi (by omega) c11
      refine pw_iload_n dX8_sumOfLots_14 rfl ?_
      refine pw_aload_n dX8_sumOfLots_15 rfl ?_
      refine pw_iload_n dX8_sumOfLots_16 rfl ?_
      refine pw_iconst dX8_sumOfLots_17 (v := 1) (by decide) ?_
      refine pw_cV dX8_sumOfLots_18 (sp_X8_l (lot := i) (k := 1) (by omega)) mi_X8_l mv_X8_l ml_X8_102 sh_253 rfl rfl rfl rfl ⟨rfl, rfl⟩ rfl rfl ?_
      refine pw_iadd dX8_sumOfLots_21 ?_
      refine pw_istore_n dX8_sumOfLots_22 (by decide) rfl ?_
      refine pw_iinc dX8_sumOfLots_23 rfl (d := 1) (by decide) (by decide) rfl ?_
      rw [nI_1]
      refine pw_goto dX8_sumOfLots_26 (tgt := 4) (by decide) ?_
      refine ih (i + 1) _ (by omega) ?_ (by omega)
      rw [hx]; rfl

set_option maxRecDepth 100000 in
set_option maxHeartbeats 4000000 in
theorem sp_X8_sumOfLots {l : Launch} {G : GC} {ad : Nat → Nat} {h : HP} {nL nH nB nC : Nat} {np : Nat → Nat} {pl : Nat → Nat → Nat} {lb : Nat → Nat} (hw : MW h nL nH nB nC np pl lb) : PF l G yX8_sumOfLots (.code yX8_sumOfLots cX8_sumOfLots 3 ((Option.some FieldType.int))) { frames := 1, cells := 0, slots := 0, locals := 22 } [.ref (ad 253)] SW ad (h) (some (.int (sumC (fun k => mL h k 1) nL))) (h) := by
  refine PF.mk (L0 := [some (.ref (ad 253)), none, none]) RX8 "sumOfLots" 0 0 (by decide +kernel) rfl rfl ⟨rfl, rfl⟩ (by simp [Value.category]) (Nat.le_of_ble_eq_true rfl) rfl ?_
  refine pw_iconst dX8_sumOfLots_0 (v := 0) (by decide) ?_
  refine pw_istore_n dX8_sumOfLots_1 (by decide) rfl ?_
  refine pw_iconst dX8_sumOfLots_2 (v := 0) (by decide) ?_
  refine pw_istore_n dX8_sumOfLots_3 (by decide) rfl ?_
  exact lp_X8_sumOfLots hw (nL + 1) 0 0 (Nat.zero_le _) rfl (by omega)

set_option maxRecDepth 100000 in
set_option maxHeartbeats 4000000 in
theorem lp_X8_sumOfHarvests {l : Launch} {G : GC} {ad : Nat → Nat} {h : HP} {nL nH nB nC : Nat} {np : Nat → Nat} {pl : Nat → Nat → Nat} {lb : Nat → Nat} (hw : MW h nL nH nB nC np pl lb)  : ∀ (mu9 : Nat) (i : Nat) (x : Int32) (hi : i ≤ nH) (hx : x = sumC (fun k => mHv h k 3) i) (hmu9 : nH - i < mu9), PW l G cX8_sumOfHarvests RX8 3 ((Option.some FieldType.int)) [] { frames := 1, cells := 0, slots := 0, locals := 22 } (gNm "sumOfHarvests") (gME G SW ad (gR SW ad (some (.int (sumC (fun k => mHv h k 3) nH))) (h)) gNo 0 0) 4 [some (.ref (ad 253)), some (.int x), some (.int (nI i))] [] SW ad (h) 0 0 := by
  intro mu9
  induction mu9 with
  | zero => intro i x hi hx hmu9; exact absurd hmu9 (Nat.not_lt_zero _)
  | succ mu9 ih =>
    intro i x hi hx hmu9
    have hb1 := hw.1.2
    have hb2 := hw.2.1.2
    have hb3 := hw.2.2.1.2
    have hb4 := hw.2.2.2.1.2
    refine pw_iload_n dX8_sumOfHarvests_4 rfl ?_
    refine pw_aload_n dX8_sumOfHarvests_5 rfl ?_
    refine pw_getr dX8_sumOfHarvests_6 lf_X8_9 sh_253 rfl ?_
    refine pw_iconst dX8_sumOfHarvests_9 (v := 1) (by decide) ?_
    refine pw_iaload dX8_sumOfHarvests_10 sh_254 (vpin (n := 1) (N := 1032) (by decide) (by decide)) ?_
    refine pw_icmp_ge dX8_sumOfHarvests_11 (tgt := 29) (by decide) (fun c11 => ?_) (fun c11 => ?_)
    · skip
      have hi8 : i = nH := eqN hw.2.1.1 hi (by omega) c11
      refine pw_iload_n dX8_sumOfHarvests_29 rfl ?_
      exact pw_iretF dX8_sumOfHarvests_30 rfl rfl rfl (by rw [hx, hi8]) rfl
    · skip
      have hi9 : i < nH := ltN hw.2.1.1 hi (by omega) c11
      refine pw_iload_n dX8_sumOfHarvests_14 rfl ?_
      refine pw_aload_n dX8_sumOfHarvests_15 rfl ?_
      refine pw_iload_n dX8_sumOfHarvests_16 rfl ?_
      refine pw_iconst dX8_sumOfHarvests_17 (v := 3) (by decide) ?_
      refine pw_cV dX8_sumOfHarvests_18 (sp_X8_h (r := i) (k := 3) (by omega)) mi_X8_h mv_X8_h ml_X8_144 sh_253 rfl rfl rfl rfl ⟨rfl, rfl⟩ rfl rfl ?_
      refine pw_iadd dX8_sumOfHarvests_21 ?_
      refine pw_istore_n dX8_sumOfHarvests_22 (by decide) rfl ?_
      refine pw_iinc dX8_sumOfHarvests_23 rfl (d := 1) (by decide) (by decide) rfl ?_
      rw [nI_1]
      refine pw_goto dX8_sumOfHarvests_26 (tgt := 4) (by decide) ?_
      refine ih (i + 1) _ (by omega) ?_ (by omega)
      rw [hx]; rfl

set_option maxRecDepth 100000 in
set_option maxHeartbeats 4000000 in
theorem sp_X8_sumOfHarvests {l : Launch} {G : GC} {ad : Nat → Nat} {h : HP} {nL nH nB nC : Nat} {np : Nat → Nat} {pl : Nat → Nat → Nat} {lb : Nat → Nat} (hw : MW h nL nH nB nC np pl lb) : PF l G yX8_sumOfHarvests (.code yX8_sumOfHarvests cX8_sumOfHarvests 3 ((Option.some FieldType.int))) { frames := 1, cells := 0, slots := 0, locals := 22 } [.ref (ad 253)] SW ad (h) (some (.int (sumC (fun k => mHv h k 3) nH))) (h) := by
  refine PF.mk (L0 := [some (.ref (ad 253)), none, none]) RX8 "sumOfHarvests" 0 0 (by decide +kernel) rfl rfl ⟨rfl, rfl⟩ (by simp [Value.category]) (Nat.le_of_ble_eq_true rfl) rfl ?_
  refine pw_iconst dX8_sumOfHarvests_0 (v := 0) (by decide) ?_
  refine pw_istore_n dX8_sumOfHarvests_1 (by decide) rfl ?_
  refine pw_iconst dX8_sumOfHarvests_2 (v := 0) (by decide) ?_
  refine pw_istore_n dX8_sumOfHarvests_3 (by decide) rfl ?_
  exact lp_X8_sumOfHarvests hw (nH + 1) 0 0 (Nat.zero_le _) rfl (by omega)

set_option maxRecDepth 100000 in
set_option maxHeartbeats 4000000 in
theorem lp_X8_sumOfBottles {l : Launch} {G : GC} {ad : Nat → Nat} {h : HP} {nL nH nB nC : Nat} {np : Nat → Nat} {pl : Nat → Nat → Nat} {lb : Nat → Nat} (hw : MW h nL nH nB nC np pl lb) {w : Nat} (hw7 : w < 7)  : ∀ (mu9 : Nat) (i : Nat) (x : Int32) (hi : i ≤ nB) (hx : x = sumC (fun k => mB h k w) i) (hmu9 : nB - i < mu9), PW l G cX8_sumOfBottles RX8 4 ((Option.some FieldType.int)) [] { frames := 1, cells := 0, slots := 0, locals := 22 } (gNm "sumOfBottles") (gME G SW ad (gR SW ad (some (.int (sumC (fun k => mB h k w) nB))) (h)) gNo 0 0) 4 [some (.ref (ad 253)), some (.int (nI w)), some (.int x), some (.int (nI i))] [] SW ad (h) 0 0 := by
  intro mu9
  induction mu9 with
  | zero => intro i x hi hx hmu9; exact absurd hmu9 (Nat.not_lt_zero _)
  | succ mu9 ih =>
    intro i x hi hx hmu9
    have hb1 := hw.1.2
    have hb2 := hw.2.1.2
    have hb3 := hw.2.2.1.2
    have hb4 := hw.2.2.2.1.2
    refine pw_iload_n dX8_sumOfBottles_4 rfl ?_
    refine pw_aload_n dX8_sumOfBottles_5 rfl ?_
    refine pw_getr dX8_sumOfBottles_6 lf_X8_9 sh_253 rfl ?_
    refine pw_iconst dX8_sumOfBottles_9 (v := 2) (by decide) ?_
    refine pw_iaload dX8_sumOfBottles_10 sh_254 (vpin (n := 2) (N := 1032) (by decide) (by decide)) ?_
    refine pw_icmp_ge dX8_sumOfBottles_11 (tgt := 29) (by decide) (fun c11 => ?_) (fun c11 => ?_)
    · skip
      have hi8 : i = nB := eqN hw.2.2.1.1 hi (by omega) c11
      refine pw_iload_n dX8_sumOfBottles_29 rfl ?_
      exact pw_iretF dX8_sumOfBottles_30 rfl rfl rfl (by rw [hx, hi8]) rfl
    · skip
      have hi9 : i < nB := ltN hw.2.2.1.1 hi (by omega) c11
      refine pw_iload_n dX8_sumOfBottles_14 rfl ?_
      refine pw_aload_n dX8_sumOfBottles_15 rfl ?_
      refine pw_iload_n dX8_sumOfBottles_16 rfl ?_
      refine pw_iload_n dX8_sumOfBottles_17 rfl ?_
      refine pw_cV dX8_sumOfBottles_18 (sp_X8_b (b := i) (k := w) (by omega)) mi_X8_b mv_X8_b ml_X8_169 sh_253 rfl rfl rfl rfl ⟨rfl, rfl⟩ rfl rfl ?_
      refine pw_iadd dX8_sumOfBottles_21 ?_
      refine pw_istore_n dX8_sumOfBottles_22 (by decide) rfl ?_
      refine pw_iinc dX8_sumOfBottles_23 rfl (d := 1) (by decide) (by decide) rfl ?_
      rw [nI_1]
      refine pw_goto dX8_sumOfBottles_26 (tgt := 4) (by decide) ?_
      refine ih (i + 1) _ (by omega) ?_ (by omega)
      rw [hx]; rfl

set_option maxRecDepth 100000 in
set_option maxHeartbeats 4000000 in
theorem sp_X8_sumOfBottles {l : Launch} {G : GC} {ad : Nat → Nat} {h : HP} {nL nH nB nC : Nat} {np : Nat → Nat} {pl : Nat → Nat → Nat} {lb : Nat → Nat} (hw : MW h nL nH nB nC np pl lb) {w : Nat} (hw7 : w < 7) : PF l G yX8_sumOfBottles (.code yX8_sumOfBottles cX8_sumOfBottles 4 ((Option.some FieldType.int))) { frames := 1, cells := 0, slots := 0, locals := 22 } [.ref (ad 253), .int (nI w)] SW ad (h) (some (.int (sumC (fun k => mB h k w) nB))) (h) := by
  refine PF.mk (L0 := [some (.ref (ad 253)), some (.int (nI w)), none, none]) RX8 "sumOfBottles" 0 0 (by decide +kernel) rfl rfl ⟨rfl, rfl⟩ (by simp [Value.category]) (Nat.le_of_ble_eq_true rfl) rfl ?_
  refine pw_iconst dX8_sumOfBottles_0 (v := 0) (by decide) ?_
  refine pw_istore_n dX8_sumOfBottles_1 (by decide) rfl ?_
  refine pw_iconst dX8_sumOfBottles_2 (v := 0) (by decide) ?_
  refine pw_istore_n dX8_sumOfBottles_3 (by decide) rfl ?_
  exact lp_X8_sumOfBottles hw hw7 (nB + 1) 0 0 (Nat.zero_le _) rfl (by omega)

set_option maxRecDepth 100000 in
set_option maxHeartbeats 4000000 in
theorem lp_X8_harvestsIn {l : Launch} {G : GC} {ad : Nat → Nat} {h : HP} {nL nH nB nC : Nat} {np : Nat → Nat} {pl : Nat → Nat → Nat} {lb : Nat → Nat} (hw : MW h nL nH nB nC np pl lb) {lot : Nat} (hlot : lot < 24)  : ∀ (mu9 : Nat) (i : Nat) (x : Int32) (hi : i ≤ nH) (hx : x = nI (cntB (fun k => decide (0 < mL h lot (13 + k))) i)) (hmu9 : nH - i < mu9), PW l G cX8_harvestsIn RX8 4 ((Option.some FieldType.int)) [] { frames := 1, cells := 0, slots := 0, locals := 22 } (gNm "harvestsIn") (gME G SW ad (gR SW ad (some (.int (nI (cntB (fun k => decide (0 < mL h lot (13 + k))) nH)))) (h)) gNo 0 0) 4 [some (.ref (ad 253)), some (.int (nI lot)), some (.int x), some (.int (nI i))] [] SW ad (h) 0 0 := by
  intro mu9
  induction mu9 with
  | zero => intro i x hi hx hmu9; exact absurd hmu9 (Nat.not_lt_zero _)
  | succ mu9 ih =>
    intro i x hi hx hmu9
    have hb1 := hw.1.2
    have hb2 := hw.2.1.2
    have hb3 := hw.2.2.1.2
    have hb4 := hw.2.2.2.1.2
    refine pw_iload_n dX8_harvestsIn_4 rfl ?_
    refine pw_aload_n dX8_harvestsIn_5 rfl ?_
    refine pw_getr dX8_harvestsIn_6 lf_X8_9 sh_253 rfl ?_
    refine pw_iconst dX8_harvestsIn_9 (v := 1) (by decide) ?_
    refine pw_iaload dX8_harvestsIn_10 sh_254 (vpin (n := 1) (N := 1032) (by decide) (by decide)) ?_
    refine pw_icmp_ge dX8_harvestsIn_11 (tgt := 40) (by decide) (fun c11 => ?_) (fun c11 => ?_)
    · skip
      have hi8 : i = nH := eqN hw.2.1.1 hi (by omega) c11
      refine pw_iload_n dX8_harvestsIn_40 rfl ?_
      exact pw_iretF dX8_harvestsIn_41 rfl rfl rfl (by rw [hx, hi8]) rfl
    · skip
      have hi9 : i < nH := ltN hw.2.1.1 hi (by omega) c11
      refine pw_iload_n dX8_harvestsIn_14 rfl ?_
      refine pw_aload_n dX8_harvestsIn_15 rfl ?_
      refine pw_iload_n dX8_harvestsIn_16 rfl ?_
      refine pw_bipush dX8_harvestsIn_17 (v := 13) (by decide) ?_
      refine pw_iload_n dX8_harvestsIn_19 rfl ?_
      refine pw_iadd dX8_harvestsIn_20 ?_
      rw [show (13 : Int32) + nI i = nI (13 + i) from nI_add 13 i]
      refine pw_cV dX8_harvestsIn_21 (sp_X8_l (lot := lot) (k := 13 + i) (by omega)) mi_X8_l mv_X8_l ml_X8_102 sh_253 rfl rfl rfl rfl ⟨rfl, rfl⟩ rfl rfl ?_
      refine pw_if_le dX8_harvestsIn_24 (tgt := 31) (by decide) (fun c24 => ?_) (fun c24 => ?_)
      · skip
        refine pw_iconst dX8_harvestsIn_31 (v := 0) (by decide) ?_
        refine pw_iadd dX8_harvestsIn_32 ?_
        refine pw_istore_n dX8_harvestsIn_33 (by decide) rfl ?_
        refine pw_iinc dX8_harvestsIn_34 rfl (d := 1) (by decide) (by decide) rfl ?_
        rw [nI_1]
        refine pw_goto dX8_harvestsIn_37 (tgt := 4) (by decide) ?_
        refine ih (i + 1) _ (by omega) ?_ (by omega)
        rw [Int32.add_zero]
        exact cnt_n hx (decide_eq_false (Int32.not_lt.mpr c24))
      · skip
        refine pw_iconst dX8_harvestsIn_27 (v := 1) (by decide) ?_
        refine pw_goto dX8_harvestsIn_28 (tgt := 32) (by decide) ?_
        refine pw_iadd dX8_harvestsIn_32 ?_
        refine pw_istore_n dX8_harvestsIn_33 (by decide) rfl ?_
        refine pw_iinc dX8_harvestsIn_34 rfl (d := 1) (by decide) (by decide) rfl ?_
        rw [nI_1]
        refine pw_goto dX8_harvestsIn_37 (tgt := 4) (by decide) ?_
        refine ih (i + 1) _ (by omega) ?_ (by omega)
        exact cnt_s hx (decide_eq_true (Int32.not_le.mp c24))

set_option maxRecDepth 100000 in
set_option maxHeartbeats 4000000 in
theorem sp_X8_harvestsIn {l : Launch} {G : GC} {ad : Nat → Nat} {h : HP} {nL nH nB nC : Nat} {np : Nat → Nat} {pl : Nat → Nat → Nat} {lb : Nat → Nat} (hw : MW h nL nH nB nC np pl lb) {lot : Nat} (hlot : lot < 24) : PF l G yX8_harvestsIn (.code yX8_harvestsIn cX8_harvestsIn 4 ((Option.some FieldType.int))) { frames := 1, cells := 0, slots := 0, locals := 22 } [.ref (ad 253), .int (nI lot)] SW ad (h) (some (.int (nI (cntB (fun k => decide (0 < mL h lot (13 + k))) nH)))) (h) := by
  refine PF.mk (L0 := [some (.ref (ad 253)), some (.int (nI lot)), none, none]) RX8 "harvestsIn" 0 0 (by decide +kernel) rfl rfl ⟨rfl, rfl⟩ (by simp [Value.category]) (Nat.le_of_ble_eq_true rfl) rfl ?_
  refine pw_iconst dX8_harvestsIn_0 (v := 0) (by decide) ?_
  refine pw_istore_n dX8_harvestsIn_1 (by decide) rfl ?_
  refine pw_iconst dX8_harvestsIn_2 (v := 0) (by decide) ?_
  refine pw_istore_n dX8_harvestsIn_3 (by decide) rfl ?_
  exact lp_X8_harvestsIn hw hlot (nH + 1) 0 0 (Nat.zero_le _) rfl (by omega)

set_option maxRecDepth 100000 in
set_option maxHeartbeats 4000000 in
theorem lp_X8_shareOf {l : Launch} {G : GC} {ad : Nat → Nat} {h : HP} {nL nH nB nC : Nat} {np : Nat → Nat} {pl : Nat → Nat → Nat} {lb : Nat → Nat} (hw : MW h nL nH nB nC np pl lb) {lot : Nat} (hlot : lot < 24) {w : Nat} (hw4 : w < 4) {z : Int32}  : ∀ (mu9 : Nat) (i : Nat) (x : Int32) (hi : i ≤ nH) (hx : x = sumC (fun k => if mHv h k w = z then mL h lot (13 + k) else 0) i) (hmu9 : nH - i < mu9), PW l G cX8_shareOf RX8 6 ((Option.some FieldType.int)) [] { frames := 1, cells := 0, slots := 0, locals := 22 } (gNm "shareOf") (gME G SW ad (gR SW ad (some (.int (sumC (fun k => if mHv h k w = z then mL h lot (13 + k) else 0) nH))) (h)) gNo 0 0) 6 [some (.ref (ad 253)), some (.int (nI lot)), some (.int (nI w)), some (.int z), some (.int x), some (.int (nI i))] [] SW ad (h) 0 0 := by
  intro mu9
  induction mu9 with
  | zero => intro i x hi hx hmu9; exact absurd hmu9 (Nat.not_lt_zero _)
  | succ mu9 ih =>
    intro i x hi hx hmu9
    have hb1 := hw.1.2
    have hb2 := hw.2.1.2
    have hb3 := hw.2.2.1.2
    have hb4 := hw.2.2.2.1.2
    refine pw_iload dX8_shareOf_6 rfl ?_
    refine pw_aload_n dX8_shareOf_8 rfl ?_
    refine pw_getr dX8_shareOf_9 lf_X8_9 sh_253 rfl ?_
    refine pw_iconst dX8_shareOf_12 (v := 1) (by decide) ?_
    refine pw_iaload dX8_shareOf_13 sh_254 (vpin (n := 1) (N := 1032) (by decide) (by decide)) ?_
    refine pw_icmp_ge dX8_shareOf_14 (tgt := 53) (by decide) (fun c14 => ?_) (fun c14 => ?_)
    · skip
      have hi8 : i = nH := eqN hw.2.1.1 hi (by omega) c14
      refine pw_iload dX8_shareOf_53 rfl ?_
      exact pw_iretF dX8_shareOf_55 rfl rfl rfl (by rw [hx, hi8]) rfl
    · skip
      have hi9 : i < nH := ltN hw.2.1.1 hi (by omega) c14
      refine pw_iload dX8_shareOf_17 rfl ?_
      refine pw_aload_n dX8_shareOf_19 rfl ?_
      refine pw_iload dX8_shareOf_20 rfl ?_
      refine pw_iload_n dX8_shareOf_22 rfl ?_
      refine pw_cV dX8_shareOf_23 (sp_X8_h (r := i) (k := w) (by omega)) mi_X8_h mv_X8_h ml_X8_144 sh_253 rfl rfl rfl rfl ⟨rfl, rfl⟩ rfl rfl ?_
      refine pw_iload_n dX8_shareOf_26 rfl ?_
      refine pw_icmp_ne dX8_shareOf_27 (tgt := 43) (by decide) (fun c27 => ?_) (fun c27 => ?_)
      · skip
        refine pw_iconst dX8_shareOf_43 (v := 0) (by decide) ?_
        refine pw_iadd dX8_shareOf_44 ?_
        refine pw_istore dX8_shareOf_45 (by decide) rfl ?_
        refine pw_iinc dX8_shareOf_47 rfl (d := 1) (by decide) (by decide) rfl ?_
        rw [nI_1]
        refine pw_goto dX8_shareOf_50 (tgt := 6) (by decide) ?_
        refine ih (i + 1) _ (by omega) ?_ (by omega)
        rw [Int32.add_zero]
        exact sum_n (p := fun k => mHv h k w = z) (f := fun k => mL h lot (13 + k)) hx c27
      · skip
        refine pw_aload_n dX8_shareOf_30 rfl ?_
        refine pw_iload_n dX8_shareOf_31 rfl ?_
        refine pw_bipush dX8_shareOf_32 (v := 13) (by decide) ?_
        refine pw_iload dX8_shareOf_34 rfl ?_
        refine pw_iadd dX8_shareOf_36 ?_
        rw [show (13 : Int32) + nI i = nI (13 + i) from nI_add 13 i]
        refine pw_cV dX8_shareOf_37 (sp_X8_l (lot := lot) (k := 13 + i) (by omega)) mi_X8_l mv_X8_l ml_X8_102 sh_253 rfl rfl rfl rfl ⟨rfl, rfl⟩ rfl rfl ?_
        refine pw_goto dX8_shareOf_40 (tgt := 44) (by decide) ?_
        refine pw_iadd dX8_shareOf_44 ?_
        refine pw_istore dX8_shareOf_45 (by decide) rfl ?_
        refine pw_iinc dX8_shareOf_47 rfl (d := 1) (by decide) (by decide) rfl ?_
        rw [nI_1]
        refine pw_goto dX8_shareOf_50 (tgt := 6) (by decide) ?_
        refine ih (i + 1) _ (by omega) ?_ (by omega)
        exact sum_s (p := fun k => mHv h k w = z) (f := fun k => mL h lot (13 + k)) hx c27

set_option maxRecDepth 100000 in
set_option maxHeartbeats 4000000 in
theorem sp_X8_shareOf {l : Launch} {G : GC} {ad : Nat → Nat} {h : HP} {nL nH nB nC : Nat} {np : Nat → Nat} {pl : Nat → Nat → Nat} {lb : Nat → Nat} (hw : MW h nL nH nB nC np pl lb) {lot : Nat} (hlot : lot < 24) {w : Nat} (hw4 : w < 4) {z : Int32} : PF l G yX8_shareOf (.code yX8_shareOf cX8_shareOf 6 ((Option.some FieldType.int))) { frames := 1, cells := 0, slots := 0, locals := 22 } [.ref (ad 253), .int (nI lot), .int (nI w), .int (z)] SW ad (h) (some (.int (sumC (fun k => if mHv h k w = z then mL h lot (13 + k) else 0) nH))) (h) := by
  refine PF.mk (L0 := [some (.ref (ad 253)), some (.int (nI lot)), some (.int (nI w)), some (.int (z)), none, none]) RX8 "shareOf" 0 0 (by decide +kernel) rfl rfl ⟨rfl, rfl⟩ (by simp [Value.category]) (Nat.le_of_ble_eq_true rfl) rfl ?_
  refine pw_iconst dX8_shareOf_0 (v := 0) (by decide) ?_
  refine pw_istore dX8_shareOf_1 (by decide) rfl ?_
  refine pw_iconst dX8_shareOf_3 (v := 0) (by decide) ?_
  refine pw_istore dX8_shareOf_4 (by decide) rfl ?_
  exact lp_X8_shareOf hw hlot hw4 (nH + 1) 0 0 (Nat.zero_le _) rfl (by omega)

set_option maxRecDepth 100000 in
set_option maxHeartbeats 4000000 in
theorem lp_X8_listMany {l : Launch} {G : GC} {ad : Nat → Nat} {h : HP} {nL nH nB nC : Nat} {np : Nat → Nat} {pl : Nat → Nat → Nat} {lb : Nat → Nat} (hw : MW h nL nH nB nC np pl lb) {b : Nat} (hb : b < 16)  : ∀ (mu9 : Nat) (i : Nat) (x : Int32) (hi : i ≤ nC) (hx : x = nI (cntB (fun c => liB h b c) i)) (hmu9 : nC - i < mu9), PW l G cX8_listMany RX8 4 ((Option.some FieldType.int)) [] { frames := 2, cells := 0, slots := 0, locals := 44 } (gNm "listMany") (gME G SW ad (gR SW ad (some (.int (nI (cntB (fun c => liB h b c) nC)))) (h)) gNo 0 0) 4 [some (.ref (ad 253)), some (.int (nI b)), some (.int x), some (.int (nI i))] [] SW ad (h) 0 0 := by
  intro mu9
  induction mu9 with
  | zero => intro i x hi hx hmu9; exact absurd hmu9 (Nat.not_lt_zero _)
  | succ mu9 ih =>
    intro i x hi hx hmu9
    have hb1 := hw.1.2
    have hb2 := hw.2.1.2
    have hb3 := hw.2.2.1.2
    have hb4 := hw.2.2.2.1.2
    refine pw_iload_n dX8_listMany_4 rfl ?_
    refine pw_aload_n dX8_listMany_5 rfl ?_
    refine pw_getr dX8_listMany_6 lf_X8_9 sh_253 rfl ?_
    refine pw_iconst dX8_listMany_9 (v := 3) (by decide) ?_
    refine pw_iaload dX8_listMany_10 sh_254 (vpin (n := 3) (N := 1032) (by decide) (by decide)) ?_
    refine pw_icmp_ge dX8_listMany_11 (tgt := 37) (by decide) (fun c11 => ?_) (fun c11 => ?_)
    · skip
      have hi8 : i = nC := eqN hw.2.2.2.1.1 hi (by omega) c11
      refine pw_iload_n dX8_listMany_37 rfl ?_
      exact pw_iretF dX8_listMany_38 rfl rfl rfl (by rw [hx, hi8]) rfl
    · skip
      have hi9 : i < nC := ltN hw.2.2.2.1.1 hi (by omega) c11
      refine pw_iload_n dX8_listMany_14 rfl ?_
      refine pw_aload_n dX8_listMany_15 rfl ?_
      refine pw_iload_n dX8_listMany_16 rfl ?_
      refine pw_iload_n dX8_listMany_17 rfl ?_
      refine pw_cV dX8_listMany_18 (sp_X8_isListed (c := i) (by omega) hb) mi_X8_isListed mv_X8_isListed ml_X8_187 sh_253 rfl rfl rfl rfl ⟨rfl, rfl⟩ rfl rfl ?_
      refine pw_if_eq dX8_listMany_21 (tgt := 28) (by decide) (fun c21 => ?_) (fun c21 => ?_)
      · skip
        refine pw_iconst dX8_listMany_28 (v := 0) (by decide) ?_
        refine pw_iadd dX8_listMany_29 ?_
        refine pw_istore_n dX8_listMany_30 (by decide) rfl ?_
        refine pw_iinc dX8_listMany_31 rfl (d := 1) (by decide) (by decide) rfl ?_
        rw [nI_1]
        refine pw_goto dX8_listMany_34 (tgt := 4) (by decide) ?_
        refine ih (i + 1) _ (by omega) ?_ (by omega)
        rw [Int32.add_zero]
        exact cnt_n hx (b2i_eq c21)
      · skip
        refine pw_iconst dX8_listMany_24 (v := 1) (by decide) ?_
        refine pw_goto dX8_listMany_25 (tgt := 29) (by decide) ?_
        refine pw_iadd dX8_listMany_29 ?_
        refine pw_istore_n dX8_listMany_30 (by decide) rfl ?_
        refine pw_iinc dX8_listMany_31 rfl (d := 1) (by decide) (by decide) rfl ?_
        rw [nI_1]
        refine pw_goto dX8_listMany_34 (tgt := 4) (by decide) ?_
        refine ih (i + 1) _ (by omega) ?_ (by omega)
        exact cnt_s hx (b2i_ne c21)

set_option maxRecDepth 100000 in
set_option maxHeartbeats 4000000 in
theorem sp_X8_listMany {l : Launch} {G : GC} {ad : Nat → Nat} {h : HP} {nL nH nB nC : Nat} {np : Nat → Nat} {pl : Nat → Nat → Nat} {lb : Nat → Nat} (hw : MW h nL nH nB nC np pl lb) {b : Nat} (hb : b < 16) : PF l G yX8_listMany (.code yX8_listMany cX8_listMany 4 ((Option.some FieldType.int))) { frames := 2, cells := 0, slots := 0, locals := 44 } [.ref (ad 253), .int (nI b)] SW ad (h) (some (.int (nI (cntB (fun c => liB h b c) nC)))) (h) := by
  refine PF.mk (L0 := [some (.ref (ad 253)), some (.int (nI b)), none, none]) RX8 "listMany" 0 0 (by decide +kernel) rfl rfl ⟨rfl, rfl⟩ (by simp [Value.category]) (Nat.le_of_ble_eq_true rfl) rfl ?_
  refine pw_iconst dX8_listMany_0 (v := 0) (by decide) ?_
  refine pw_istore_n dX8_listMany_1 (by decide) rfl ?_
  refine pw_iconst dX8_listMany_2 (v := 0) (by decide) ?_
  refine pw_istore_n dX8_listMany_3 (by decide) rfl ?_
  exact lp_X8_listMany hw hb (nC + 1) 0 0 (Nat.zero_le _) rfl (by omega)

set_option maxRecDepth 100000 in
set_option maxHeartbeats 4000000 in
theorem sp_X8_isAhead {l : Launch} {G : GC} {ad : Nat → Nat} {h : HP} {c o : Nat} (hc : c < 8) (ho : o < 8) : PF l G yX8_isAhead (.code yX8_isAhead cX8_isAhead 4 ((Option.some FieldType.boolean))) { frames := 0, cells := 0, slots := 0, locals := 0 } [.ref (ad 253), .int (nI c), .int (nI o)] SW ad (h) (some (.int (b2i (ahB h c o)))) (h) := by
  refine PF.mk (L0 := [some (.ref (ad 253)), some (.int (nI c)), some (.int (nI o)), none]) RX8 "isAhead" 0 0 (by decide +kernel) rfl rfl ⟨rfl, rfl⟩ (by simp [Value.category]) (Nat.le_of_ble_eq_true rfl) rfl ?_
  refine pw_aload_n dX8_isAhead_0 rfl ?_
  refine pw_getr dX8_isAhead_1 lf_X8_9 sh_253 rfl ?_
  refine pw_sipush dX8_isAhead_4 (v := 768) (by decide) ?_
  refine pw_iload_n dX8_isAhead_7 rfl ?_
  refine pw_iadd dX8_isAhead_8 ?_
  rw [show (768 : Int32) + nI c = nI (768 + c) from nI_add 768 c]
  refine pw_iaload dX8_isAhead_9 sh_254 (vpin (N := 1032) (by omega) (by decide)) ?_
  refine pw_aload_n dX8_isAhead_10 rfl ?_
  refine pw_getr dX8_isAhead_11 lf_X8_9 sh_253 rfl ?_
  refine pw_sipush dX8_isAhead_14 (v := 768) (by decide) ?_
  refine pw_iload_n dX8_isAhead_17 rfl ?_
  refine pw_iadd dX8_isAhead_18 ?_
  rw [show (768 : Int32) + nI o = nI (768 + o) from nI_add 768 o]
  refine pw_iaload dX8_isAhead_19 sh_254 (vpin (N := 1032) (by omega) (by decide)) ?_
  rw [nI_cl (show 768 + c < 2147483648 by omega), nI_cl (show 768 + o < 2147483648 by omega)]
  refine pw_isub dX8_isAhead_20 ?_
  refine pw_istore_n dX8_isAhead_21 (by decide) rfl ?_
  refine pw_iload_n dX8_isAhead_22 rfl ?_
  refine pw_if_eq dX8_isAhead_23 (tgt := 38) (by decide) (fun c23 => ?_) (fun c23 => ?_)
  · skip
    refine pw_iload_n dX8_isAhead_38 rfl ?_
    refine pw_iload_n dX8_isAhead_39 rfl ?_
    refine pw_icmp_ge dX8_isAhead_40 (tgt := 47) (by decide) (fun c40 => ?_) (fun c40 => ?_)
    · skip
      refine pw_iconst dX8_isAhead_47 (v := 0) (by decide) ?_
      exact pw_iretF dX8_isAhead_48 rfl rfl rfl (by rw [ahB, if_pos c23, decide_eq_false (Int32.not_lt.mpr c40)]; rfl) rfl
    · skip
      refine pw_iconst dX8_isAhead_43 (v := 1) (by decide) ?_
      refine pw_goto dX8_isAhead_44 (tgt := 48) (by decide) ?_
      exact pw_iretF dX8_isAhead_48 rfl rfl rfl (by rw [ahB, if_pos c23, decide_eq_true (Int32.not_le.mp c40)]; rfl) rfl
  · skip
    refine pw_iload_n dX8_isAhead_26 rfl ?_
    refine pw_if_ge dX8_isAhead_27 (tgt := 34) (by decide) (fun c27 => ?_) (fun c27 => ?_)
    · skip
      refine pw_iconst dX8_isAhead_34 (v := 0) (by decide) ?_
      refine pw_goto dX8_isAhead_35 (tgt := 48) (by decide) ?_
      exact pw_iretF dX8_isAhead_48 rfl rfl rfl (by rw [ahB, if_neg c23, decide_eq_false (Int32.not_lt.mpr c27)]; rfl) rfl
    · skip
      refine pw_iconst dX8_isAhead_30 (v := 1) (by decide) ?_
      refine pw_goto dX8_isAhead_31 (tgt := 48) (by decide) ?_
      exact pw_iretF dX8_isAhead_48 rfl rfl rfl (by rw [ahB, if_neg c23, decide_eq_true (Int32.not_le.mp c27)]; rfl) rfl

set_option maxRecDepth 100000 in
set_option maxHeartbeats 4000000 in
theorem lp_X8_placeOf {l : Launch} {G : GC} {ad : Nat → Nat} {h : HP} {nL nH nB nC : Nat} {np : Nat → Nat} {pl : Nat → Nat → Nat} {lb : Nat → Nat} (hw : MW h nL nH nB nC np pl lb) {c b : Nat} (hc : c < 8) (hb : b < 16)  : ∀ (mu9 : Nat) (i : Nat) (x : Int32) (hi : i ≤ nC) (hx : x = nI (cntB (fun o => liB h b o && ahB h o c) i)) (hmu9 : nC - i < mu9), PW l G cX8_placeOf RX8 5 ((Option.some FieldType.int)) [] { frames := 2, cells := 0, slots := 0, locals := 44 } (gNm "placeOf") (gME G SW ad (gR SW ad (some (.int (plI h nC c b))) (h)) gNo 0 0) 5 [some (.ref (ad 253)), some (.int (nI c)), some (.int (nI b)), some (.int x), some (.int (nI i))] [] SW ad (h) 0 0 := by
  intro mu9
  induction mu9 with
  | zero => intro i x hi hx hmu9; exact absurd hmu9 (Nat.not_lt_zero _)
  | succ mu9 ih =>
    intro i x hi hx hmu9
    have hb1 := hw.1.2
    have hb2 := hw.2.1.2
    have hb3 := hw.2.2.1.2
    have hb4 := hw.2.2.2.1.2
    refine pw_iload dX8_placeOf_5 rfl ?_
    refine pw_aload_n dX8_placeOf_7 rfl ?_
    refine pw_getr dX8_placeOf_8 lf_X8_9 sh_253 rfl ?_
    refine pw_iconst dX8_placeOf_11 (v := 3) (by decide) ?_
    refine pw_iaload dX8_placeOf_12 sh_254 (vpin (n := 3) (N := 1032) (by decide) (by decide)) ?_
    refine pw_icmp_ge dX8_placeOf_13 (tgt := 50) (by decide) (fun c13 => ?_) (fun c13 => ?_)
    · skip
      have hi8 : i = nC := eqN hw.2.2.2.1.1 hi (by omega) c13
      refine pw_aload_n dX8_placeOf_50 rfl ?_
      refine pw_iload_n dX8_placeOf_51 rfl ?_
      refine pw_iload_n dX8_placeOf_52 rfl ?_
      refine pw_cV dX8_placeOf_53 (sp_X8_isListed hc hb) mi_X8_isListed mv_X8_isListed ml_X8_187 sh_253 rfl rfl rfl rfl ⟨rfl, rfl⟩ rfl rfl ?_
      refine pw_if_eq dX8_placeOf_56 (tgt := 63) (by decide) (fun c56 => ?_) (fun c56 => ?_)
      · skip
        refine pw_iconst dX8_placeOf_63 (v := (-1)) (by decide) ?_
        exact pw_iretF dX8_placeOf_64 rfl rfl rfl (by rw [plI, if_neg (by rw [show liB h b c = false from b2i_eq c56]; decide)]) rfl
      · skip
        refine pw_iload_n dX8_placeOf_59 rfl ?_
        refine pw_goto dX8_placeOf_60 (tgt := 64) (by decide) ?_
        exact pw_iretF dX8_placeOf_64 rfl rfl rfl (by rw [plI, if_pos (show liB h b c = true from b2i_ne c56), hx, hi8]) rfl
    · skip
      have hi9 : i < nC := ltN hw.2.2.2.1.1 hi (by omega) c13
      refine pw_iload_n dX8_placeOf_16 rfl ?_
      refine pw_aload_n dX8_placeOf_17 rfl ?_
      refine pw_iload dX8_placeOf_18 rfl ?_
      refine pw_iload_n dX8_placeOf_20 rfl ?_
      refine pw_cV dX8_placeOf_21 (sp_X8_isListed (c := i) (by omega) hb) mi_X8_isListed mv_X8_isListed ml_X8_187 sh_253 rfl rfl rfl rfl ⟨rfl, rfl⟩ rfl rfl ?_
      refine pw_if_eq dX8_placeOf_24 (tgt := 41) (by decide) (fun c24 => ?_) (fun c24 => ?_)
      · skip
        refine pw_iconst dX8_placeOf_41 (v := 0) (by decide) ?_
        refine pw_iadd dX8_placeOf_42 ?_
        refine pw_istore_n dX8_placeOf_43 (by decide) rfl ?_
        refine pw_iinc dX8_placeOf_44 rfl (d := 1) (by decide) (by decide) rfl ?_
        rw [nI_1]
        refine pw_goto dX8_placeOf_47 (tgt := 5) (by decide) ?_
        refine ih (i + 1) _ (by omega) ?_ (by omega)
        rw [Int32.add_zero]
        exact cnt_n hx (by simp only [Bool.and_eq_false_iff]; exact Or.inl (b2i_eq c24))
      · skip
        refine pw_aload_n dX8_placeOf_27 rfl ?_
        refine pw_iload dX8_placeOf_28 rfl ?_
        refine pw_iload_n dX8_placeOf_30 rfl ?_
        refine pw_cV dX8_placeOf_31 (sp_X8_isAhead (c := i) (o := c) (by omega) hc) mi_X8_isAhead mv_X8_isAhead ml_X8_190 sh_253 rfl rfl rfl rfl ⟨rfl, rfl⟩ rfl rfl ?_
        refine pw_if_eq dX8_placeOf_34 (tgt := 41) (by decide) (fun c34 => ?_) (fun c34 => ?_)
        · skip
          refine pw_iconst dX8_placeOf_41 (v := 0) (by decide) ?_
          refine pw_iadd dX8_placeOf_42 ?_
          refine pw_istore_n dX8_placeOf_43 (by decide) rfl ?_
          refine pw_iinc dX8_placeOf_44 rfl (d := 1) (by decide) (by decide) rfl ?_
          rw [nI_1]
          refine pw_goto dX8_placeOf_47 (tgt := 5) (by decide) ?_
          refine ih (i + 1) _ (by omega) ?_ (by omega)
          rw [Int32.add_zero]
          exact cnt_n hx (by simp only [Bool.and_eq_false_iff]; exact Or.inr (b2i_eq c34))
        · skip
          refine pw_iconst dX8_placeOf_37 (v := 1) (by decide) ?_
          refine pw_goto dX8_placeOf_38 (tgt := 42) (by decide) ?_
          refine pw_iadd dX8_placeOf_42 ?_
          refine pw_istore_n dX8_placeOf_43 (by decide) rfl ?_
          refine pw_iinc dX8_placeOf_44 rfl (d := 1) (by decide) (by decide) rfl ?_
          rw [nI_1]
          refine pw_goto dX8_placeOf_47 (tgt := 5) (by decide) ?_
          refine ih (i + 1) _ (by omega) ?_ (by omega)
          exact cnt_s hx (by simp only [Bool.and_eq_true]; exact ⟨b2i_ne c24, b2i_ne c34⟩)

set_option maxRecDepth 100000 in
set_option maxHeartbeats 4000000 in
theorem sp_X8_placeOf {l : Launch} {G : GC} {ad : Nat → Nat} {h : HP} {nL nH nB nC : Nat} {np : Nat → Nat} {pl : Nat → Nat → Nat} {lb : Nat → Nat} (hw : MW h nL nH nB nC np pl lb) {c b : Nat} (hc : c < 8) (hb : b < 16) : PF l G yX8_placeOf (.code yX8_placeOf cX8_placeOf 5 ((Option.some FieldType.int))) { frames := 2, cells := 0, slots := 0, locals := 44 } [.ref (ad 253), .int (nI c), .int (nI b)] SW ad (h) (some (.int (plI h nC c b))) (h) := by
  refine PF.mk (L0 := [some (.ref (ad 253)), some (.int (nI c)), some (.int (nI b)), none, none]) RX8 "placeOf" 0 0 (by decide +kernel) rfl rfl ⟨rfl, rfl⟩ (by simp [Value.category]) (Nat.le_of_ble_eq_true rfl) rfl ?_
  refine pw_iconst dX8_placeOf_0 (v := 0) (by decide) ?_
  refine pw_istore_n dX8_placeOf_1 (by decide) rfl ?_
  refine pw_iconst dX8_placeOf_2 (v := 0) (by decide) ?_
  refine pw_istore dX8_placeOf_3 (by decide) rfl ?_
  exact lp_X8_placeOf hw hc hb (nC + 1) 0 0 (Nat.zero_le _) rfl (by omega)

set_option maxRecDepth 100000 in
set_option maxHeartbeats 4000000 in
theorem lp_X8_isPartOf {l : Launch} {G : GC} {ad : Nat → Nat} {h : HP} {nL nH nB nC : Nat} {np : Nat → Nat} {pl : Nat → Nat → Nat} {lb : Nat → Nat} (hw : MW h nL nH nB nC np pl lb) {z : Int32} {b : Nat} (hb : b < 24)  : ∀ (mu9 : Nat) (i : Nat) (x : Int32) (hi : i ≤ np b) (hx : x = b2i (ipB h z b i)) (hmu9 : np b - i < mu9), PW l G cX8_isPartOf RX8 5 ((Option.some FieldType.boolean)) [] { frames := 1, cells := 0, slots := 0, locals := 22 } (gNm "isPartOf") (gME G SW ad (gR SW ad (some (.int (b2i (ipB h z b (np b))))) (h)) gNo 0 0) 5 [some (.ref (ad 253)), some (.int z), some (.int (nI b)), some (.int x), some (.int (nI i))] [] SW ad (h) 0 0 := by
  intro mu9
  induction mu9 with
  | zero => intro i x hi hx hmu9; exact absurd hmu9 (Nat.not_lt_zero _)
  | succ mu9 ih =>
    intro i x hi hx hmu9
    have hnp := hw.2.2.2.2.1 b hb
    have hn4 := hnp.2
    refine pw_iload dX8_isPartOf_5 rfl ?_
    refine pw_aload_n dX8_isPartOf_7 rfl ?_
    refine pw_iload_n dX8_isPartOf_8 rfl ?_
    refine pw_iconst dX8_isPartOf_9 (v := 2) (by decide) ?_
    refine pw_cV dX8_isPartOf_10 (sp_X8_l (lot := b) (k := 2) (by omega)) mi_X8_l mv_X8_l ml_X8_102 sh_253 rfl rfl rfl rfl ⟨rfl, rfl⟩ rfl rfl ?_
    refine pw_icmp_ge dX8_isPartOf_13 (tgt := 45) (by decide) (fun c13 => ?_) (fun c13 => ?_)
    · skip
      have hi8 : i = np b := eqN hnp.1 hi (by omega) c13
      refine pw_iload_n dX8_isPartOf_45 rfl ?_
      exact pw_iretF dX8_isPartOf_46 rfl (by rw [hx]; exact nar_b _) rfl (by rw [hx, hi8]) rfl
    · skip
      have hi9 : i < np b := ltN hnp.1 hi (by omega) c13
      refine pw_iload_n dX8_isPartOf_16 rfl ?_
      refine pw_if_ne dX8_isPartOf_17 (tgt := 33) (by decide) (fun c17 => ?_) (fun c17 => ?_)
      · skip
        refine pw_iconst dX8_isPartOf_33 (v := 1) (by decide) ?_
        refine pw_goto dX8_isPartOf_34 (tgt := 38) (by decide) ?_
        refine pw_istore_n dX8_isPartOf_38 (by decide) rfl ?_
        refine pw_iinc dX8_isPartOf_39 rfl (d := 1) (by decide) (by decide) rfl ?_
        rw [nI_1]
        refine pw_goto dX8_isPartOf_42 (tgt := 5) (by decide) ?_
        refine ih (i + 1) _ (by omega) ?_ (by omega)
        exact any_s hx (Or.inl (b2i_ne (fun q => c17 (hx.trans q))))
      · skip
        refine pw_aload_n dX8_isPartOf_20 rfl ?_
        refine pw_iload_n dX8_isPartOf_21 rfl ?_
        refine pw_iconst dX8_isPartOf_22 (v := 5) (by decide) ?_
        refine pw_iload dX8_isPartOf_23 rfl ?_
        refine pw_iadd dX8_isPartOf_25 ?_
        rw [show (5 : Int32) + nI i = nI (5 + i) from nI_add 5 i]
        refine pw_cV dX8_isPartOf_26 (sp_X8_l (lot := b) (k := 5 + i) (by omega)) mi_X8_l mv_X8_l ml_X8_102 sh_253 rfl rfl rfl rfl ⟨rfl, rfl⟩ rfl rfl ?_
        refine pw_iload_n dX8_isPartOf_29 rfl ?_
        refine pw_icmp_ne dX8_isPartOf_30 (tgt := 37) (by decide) (fun c30 => ?_) (fun c30 => ?_)
        · skip
          refine pw_iconst dX8_isPartOf_37 (v := 0) (by decide) ?_
          refine pw_istore_n dX8_isPartOf_38 (by decide) rfl ?_
          refine pw_iinc dX8_isPartOf_39 rfl (d := 1) (by decide) (by decide) rfl ?_
          rw [nI_1]
          refine pw_goto dX8_isPartOf_42 (tgt := 5) (by decide) ?_
          refine ih (i + 1) _ (by omega) ?_ (by omega)
          exact any_n hx (b2i_eq (hx.symm.trans c17)) (decide_eq_false c30)
        · skip
          refine pw_iconst dX8_isPartOf_33 (v := 1) (by decide) ?_
          refine pw_goto dX8_isPartOf_34 (tgt := 38) (by decide) ?_
          refine pw_istore_n dX8_isPartOf_38 (by decide) rfl ?_
          refine pw_iinc dX8_isPartOf_39 rfl (d := 1) (by decide) (by decide) rfl ?_
          rw [nI_1]
          refine pw_goto dX8_isPartOf_42 (tgt := 5) (by decide) ?_
          refine ih (i + 1) _ (by omega) ?_ (by omega)
          exact any_s hx (Or.inr (decide_eq_true c30))

set_option maxRecDepth 100000 in
set_option maxHeartbeats 4000000 in
theorem sp_X8_isPartOf {l : Launch} {G : GC} {ad : Nat → Nat} {h : HP} {nL nH nB nC : Nat} {np : Nat → Nat} {pl : Nat → Nat → Nat} {lb : Nat → Nat} (hw : MW h nL nH nB nC np pl lb) {z : Int32} {b : Nat} (hb : b < 24) : PF l G yX8_isPartOf (.code yX8_isPartOf cX8_isPartOf 5 ((Option.some FieldType.boolean))) { frames := 1, cells := 0, slots := 0, locals := 22 } [.ref (ad 253), .int (z), .int (nI b)] SW ad (h) (some (.int (b2i (ipB h z b (np b))))) (h) := by
  refine PF.mk (L0 := [some (.ref (ad 253)), some (.int (z)), some (.int (nI b)), none, none]) RX8 "isPartOf" 0 0 (by decide +kernel) rfl rfl ⟨rfl, rfl⟩ (by simp [Value.category]) (Nat.le_of_ble_eq_true rfl) rfl ?_
  refine pw_iconst dX8_isPartOf_0 (v := 0) (by decide) ?_
  refine pw_istore_n dX8_isPartOf_1 (by decide) rfl ?_
  refine pw_iconst dX8_isPartOf_2 (v := 0) (by decide) ?_
  refine pw_istore dX8_isPartOf_3 (by decide) rfl ?_
  exact lp_X8_isPartOf hw hb (np b + 1) 0 0 (Nat.zero_le _) rfl (by omega)

set_option maxRecDepth 100000 in
set_option maxHeartbeats 4000000 in
theorem lp_X8_blendsOf {l : Launch} {G : GC} {ad : Nat → Nat} {h : HP} {nL nH nB nC : Nat} {np : Nat → Nat} {pl : Nat → Nat → Nat} {lb : Nat → Nat} (hw : MW h nL nH nB nC np pl lb) {z : Int32}  : ∀ (mu9 : Nat) (i : Nat) (x : Int32) (hi : i ≤ nL) (hx : x = nI (cntB (fun b => ipB h z b (np b)) i)) (hmu9 : nL - i < mu9), PW l G cX8_blendsOf RX8 4 ((Option.some FieldType.int)) [] { frames := 2, cells := 0, slots := 0, locals := 46 } (gNm "blendsOf") (gME G SW ad (gR SW ad (some (.int (nI (cntB (fun b => ipB h z b (np b)) nL)))) (h)) gNo 0 0) 4 [some (.ref (ad 253)), some (.int z), some (.int x), some (.int (nI i))] [] SW ad (h) 0 0 := by
  intro mu9
  induction mu9 with
  | zero => intro i x hi hx hmu9; exact absurd hmu9 (Nat.not_lt_zero _)
  | succ mu9 ih =>
    intro i x hi hx hmu9
    have hb1 := hw.1.2
    have hb2 := hw.2.1.2
    have hb3 := hw.2.2.1.2
    have hb4 := hw.2.2.2.1.2
    refine pw_iload_n dX8_blendsOf_4 rfl ?_
    refine pw_aload_n dX8_blendsOf_5 rfl ?_
    refine pw_getr dX8_blendsOf_6 lf_X8_9 sh_253 rfl ?_
    refine pw_iconst dX8_blendsOf_9 (v := 0) (by decide) ?_
    refine pw_iaload dX8_blendsOf_10 sh_254 (vpin (n := 0) (N := 1032) (by decide) (by decide)) ?_
    refine pw_icmp_ge dX8_blendsOf_11 (tgt := 37) (by decide) (fun c11 => ?_) (fun c11 => ?_)
    · skip
      have hi8 : i = nL := eqN hw.1.1 hi (by omega) c11
      refine pw_iload_n dX8_blendsOf_37 rfl ?_
      exact pw_iretF dX8_blendsOf_38 rfl rfl rfl (by rw [hx, hi8]) rfl
    · skip
      have hi9 : i < nL := ltN hw.1.1 hi (by omega) c11
      refine pw_iload_n dX8_blendsOf_14 rfl ?_
      refine pw_aload_n dX8_blendsOf_15 rfl ?_
      refine pw_iload_n dX8_blendsOf_16 rfl ?_
      refine pw_iload_n dX8_blendsOf_17 rfl ?_
      refine pw_cV dX8_blendsOf_18 (sp_X8_isPartOf hw (b := i) (by omega)) mi_X8_isPartOf mv_X8_isPartOf ml_X8_134 sh_253 rfl rfl rfl rfl ⟨rfl, rfl⟩ rfl rfl ?_
      refine pw_if_eq dX8_blendsOf_21 (tgt := 28) (by decide) (fun c21 => ?_) (fun c21 => ?_)
      · skip
        refine pw_iconst dX8_blendsOf_28 (v := 0) (by decide) ?_
        refine pw_iadd dX8_blendsOf_29 ?_
        refine pw_istore_n dX8_blendsOf_30 (by decide) rfl ?_
        refine pw_iinc dX8_blendsOf_31 rfl (d := 1) (by decide) (by decide) rfl ?_
        rw [nI_1]
        refine pw_goto dX8_blendsOf_34 (tgt := 4) (by decide) ?_
        refine ih (i + 1) _ (by omega) ?_ (by omega)
        rw [Int32.add_zero]
        exact cnt_n hx (b2i_eq c21)
      · skip
        refine pw_iconst dX8_blendsOf_24 (v := 1) (by decide) ?_
        refine pw_goto dX8_blendsOf_25 (tgt := 29) (by decide) ?_
        refine pw_iadd dX8_blendsOf_29 ?_
        refine pw_istore_n dX8_blendsOf_30 (by decide) rfl ?_
        refine pw_iinc dX8_blendsOf_31 rfl (d := 1) (by decide) (by decide) rfl ?_
        rw [nI_1]
        refine pw_goto dX8_blendsOf_34 (tgt := 4) (by decide) ?_
        refine ih (i + 1) _ (by omega) ?_ (by omega)
        exact cnt_s hx (b2i_ne c21)

set_option maxRecDepth 100000 in
set_option maxHeartbeats 4000000 in
theorem sp_X8_blendsOf {l : Launch} {G : GC} {ad : Nat → Nat} {h : HP} {nL nH nB nC : Nat} {np : Nat → Nat} {pl : Nat → Nat → Nat} {lb : Nat → Nat} (hw : MW h nL nH nB nC np pl lb) {z : Int32} : PF l G yX8_blendsOf (.code yX8_blendsOf cX8_blendsOf 4 ((Option.some FieldType.int))) { frames := 2, cells := 0, slots := 0, locals := 46 } [.ref (ad 253), .int (z)] SW ad (h) (some (.int (nI (cntB (fun b => ipB h z b (np b)) nL)))) (h) := by
  refine PF.mk (L0 := [some (.ref (ad 253)), some (.int (z)), none, none]) RX8 "blendsOf" 0 0 (by decide +kernel) rfl rfl ⟨rfl, rfl⟩ (by simp [Value.category]) (Nat.le_of_ble_eq_true rfl) rfl ?_
  refine pw_iconst dX8_blendsOf_0 (v := 0) (by decide) ?_
  refine pw_istore_n dX8_blendsOf_1 (by decide) rfl ?_
  refine pw_iconst dX8_blendsOf_2 (v := 0) (by decide) ?_
  refine pw_istore_n dX8_blendsOf_3 (by decide) rfl ?_
  exact lp_X8_blendsOf hw (nL + 1) 0 0 (Nat.zero_le _) rfl (by omega)

set_option maxRecDepth 100000 in
set_option maxHeartbeats 4000000 in
theorem lp_X8_sumHeld {l : Launch} {G : GC} {ad : Nat → Nat} {h : HP}  : ∀ (mu9 : Nat) (i : Nat) (x : Int32) (hi : i ≤ 128) (hx : x = sumC (fun k => h 254 (776 + k)) i) (hmu9 : 128 - i < mu9), PW l G cX8_sumHeld RX8 3 ((Option.some FieldType.int)) [] { frames := 0, cells := 0, slots := 0, locals := 0 } (gNm "sumHeld") (gME G SW ad (gR SW ad (some (.int (sumC (fun k => h 254 (776 + k)) 128))) (h)) gNo 0 0) 6 [some (.ref (ad 253)), some (.int x), some (.int (nI (776 + i)))] [] SW ad (h) 0 0 := by
  intro mu9
  induction mu9 with
  | zero => intro i x hi hx hmu9; exact absurd hmu9 (Nat.not_lt_zero _)
  | succ mu9 ih =>
    intro i x hi hx hmu9
    refine pw_iload_n dX8_sumHeld_6 rfl ?_
    refine pw_sipush dX8_sumHeld_7 (v := 904) (by decide) ?_
    refine pw_icmp_ge dX8_sumHeld_10 (tgt := 28) (by decide) (fun c10 => ?_) (fun c10 => ?_)
    · skip
      have hi8 : 776 + i = 904 := eqN (N := 904) rfl (by omega) (by decide) c10
      have hi7 : i = 128 := by omega
      refine pw_iload_n dX8_sumHeld_28 rfl ?_
      exact pw_iretF dX8_sumHeld_29 rfl rfl rfl (by rw [hx, hi7]) rfl
    · skip
      have hi9 : 776 + i < 904 := ltN (N := 904) rfl (by omega) (by decide) c10
      refine pw_iload_n dX8_sumHeld_13 rfl ?_
      refine pw_aload_n dX8_sumHeld_14 rfl ?_
      refine pw_getr dX8_sumHeld_15 lf_X8_9 sh_253 rfl ?_
      refine pw_iload_n dX8_sumHeld_18 rfl ?_
      refine pw_iaload dX8_sumHeld_19 sh_254 (vpin (by omega) (by decide)) ?_
      rw [nI_cl (by omega)]
      refine pw_iadd dX8_sumHeld_20 ?_
      refine pw_istore_n dX8_sumHeld_21 (by decide) rfl ?_
      refine pw_iinc dX8_sumHeld_22 rfl (d := 1) (by decide) (by decide) rfl ?_
      rw [nI_1]
      refine pw_goto dX8_sumHeld_25 (tgt := 6) (by decide) ?_
      refine ih (i + 1) _ (by omega) ?_ (by omega)
      rw [hx]; rfl

set_option maxRecDepth 100000 in
set_option maxHeartbeats 4000000 in
theorem sp_X8_sumHeld {l : Launch} {G : GC} {ad : Nat → Nat} {h : HP} : PF l G yX8_sumHeld (.code yX8_sumHeld cX8_sumHeld 3 ((Option.some FieldType.int))) { frames := 0, cells := 0, slots := 0, locals := 0 } [.ref (ad 253)] SW ad (h) (some (.int (sumC (fun k => h 254 (776 + k)) 128))) (h) := by
  refine PF.mk (L0 := [some (.ref (ad 253)), none, none]) RX8 "sumHeld" 0 0 (by decide +kernel) rfl rfl ⟨rfl, rfl⟩ (by simp [Value.category]) (Nat.le_of_ble_eq_true rfl) rfl ?_
  refine pw_iconst dX8_sumHeld_0 (v := 0) (by decide) ?_
  refine pw_istore_n dX8_sumHeld_1 (by decide) rfl ?_
  refine pw_sipush dX8_sumHeld_2 (v := 776) (by decide) ?_
  refine pw_istore_n dX8_sumHeld_5 (by decide) rfl ?_
  exact lp_X8_sumHeld 129 0 0 (Nat.zero_le _) rfl (by omega)

set_option maxRecDepth 100000 in
set_option maxHeartbeats 4000000 in
theorem lp_X8_customerAt {l : Launch} {G : GC} {ad : Nat → Nat} {h : HP} {nL nH nB nC : Nat} {np : Nat → Nat} {pl : Nat → Nat → Nat} {lb : Nat → Nat} (hw : MW h nL nH nB nC np pl lb) {b : Nat} (hb : b < 16) {z : Int32}  : ∀ (mu9 : Nat) (i : Nat) (hi : i ≤ nC) (hx : caF h nC b z nC 0 = caF h nC b z (nC - i) i) (hmu9 : nC - i < mu9), PW l G cX8_customerAt RX8 4 ((Option.some FieldType.int)) [] { frames := 3, cells := 0, slots := 0, locals := 68 } (gNm "customerAt") (gME G SW ad (gR SW ad (some (.int (caF h nC b z nC 0))) (h)) gNo 0 0) 2 [some (.ref (ad 253)), some (.int (nI b)), some (.int z), some (.int (nI i))] [] SW ad (h) 0 0 := by
  intro mu9
  induction mu9 with
  | zero => intro i hi hx hmu9; exact absurd hmu9 (Nat.not_lt_zero _)
  | succ mu9 ih =>
    intro i hi hx hmu9
    have hb1 := hw.1.2
    have hb2 := hw.2.1.2
    have hb3 := hw.2.2.1.2
    have hb4 := hw.2.2.2.1.2
    refine pw_iload_n dX8_customerAt_2 rfl ?_
    refine pw_aload_n dX8_customerAt_3 rfl ?_
    refine pw_getr dX8_customerAt_4 lf_X8_9 sh_253 rfl ?_
    refine pw_iconst dX8_customerAt_7 (v := 3) (by decide) ?_
    refine pw_iaload dX8_customerAt_8 sh_254 (vpin (n := 3) (N := 1032) (by decide) (by decide)) ?_
    refine pw_icmp_ge dX8_customerAt_9 (tgt := 34) (by decide) (fun c9 => ?_) (fun c9 => ?_)
    · skip
      refine pw_iconst dX8_customerAt_34 (v := (-1)) (by decide) ?_
      exact pw_iretF dX8_customerAt_35 rfl rfl rfl (by have hi8 : i = nC := eqN hw.2.2.2.1.1 hi (by omega) c9; rw [hx, hi8, Nat.sub_self, caF]) rfl
    · skip
      have hi9 : i < nC := ltN hw.2.2.2.1.1 hi (by omega) c9
      have ec9 : nC - i = (nC - (i + 1)) + 1 := by omega
      refine pw_iload_n dX8_customerAt_12 rfl ?_
      refine pw_if_lt dX8_customerAt_13 (tgt := 34) (by decide) (fun c13 => ?_) (fun c13 => ?_)
      · skip
        refine pw_iconst dX8_customerAt_34 (v := (-1)) (by decide) ?_
        exact pw_iretF dX8_customerAt_35 rfl rfl rfl (by rw [hx, ec9, caF, if_pos c13]) rfl
      · skip
        refine pw_aload_n dX8_customerAt_16 rfl ?_
        refine pw_iload_n dX8_customerAt_17 rfl ?_
        refine pw_iload_n dX8_customerAt_18 rfl ?_
        refine pw_cV dX8_customerAt_19 (sp_X8_placeOf hw (c := i) (b := b) (by omega) hb) mi_X8_placeOf mv_X8_placeOf ml_X8_193 sh_253 rfl rfl rfl rfl ⟨rfl, rfl⟩ rfl rfl ?_
        refine pw_iload_n dX8_customerAt_22 rfl ?_
        refine pw_icmp_ne dX8_customerAt_23 (tgt := 28) (by decide) (fun c23 => ?_) (fun c23 => ?_)
        · skip
          refine pw_iinc dX8_customerAt_28 rfl (d := 1) (by decide) (by decide) rfl ?_
          rw [nI_1]
          refine pw_goto dX8_customerAt_31 (tgt := 2) (by decide) ?_
          refine ih (i + 1) (by omega) ?_ (by omega)
          rw [hx, ec9, caF, if_neg c13, if_neg c23]
        · skip
          refine pw_iload_n dX8_customerAt_26 rfl ?_
          exact pw_iretF dX8_customerAt_27 rfl rfl rfl (by rw [hx, ec9, caF, if_neg c13, if_pos c23]) rfl

set_option maxRecDepth 100000 in
set_option maxHeartbeats 4000000 in
theorem sp_X8_customerAt {l : Launch} {G : GC} {ad : Nat → Nat} {h : HP} {nL nH nB nC : Nat} {np : Nat → Nat} {pl : Nat → Nat → Nat} {lb : Nat → Nat} (hw : MW h nL nH nB nC np pl lb) {b : Nat} (hb : b < 16) {z : Int32} : PF l G yX8_customerAt (.code yX8_customerAt cX8_customerAt 4 ((Option.some FieldType.int))) { frames := 3, cells := 0, slots := 0, locals := 68 } [.ref (ad 253), .int (nI b), .int (z)] SW ad (h) (some (.int (caF h nC b z nC 0))) (h) := by
  refine PF.mk (L0 := [some (.ref (ad 253)), some (.int (nI b)), some (.int (z)), none]) RX8 "customerAt" 0 0 (by decide +kernel) rfl rfl ⟨rfl, rfl⟩ (by simp [Value.category]) (Nat.le_of_ble_eq_true rfl) rfl ?_
  refine pw_iconst dX8_customerAt_0 (v := 0) (by decide) ?_
  refine pw_istore_n dX8_customerAt_1 (by decide) rfl ?_
  exact lp_X8_customerAt hw hb (nC + 1) 0 (Nat.zero_le _) rfl (by omega)

