/-! THE LOTS -/
def WF (h : HP) (nL nH nB nC : Nat) (np : Nat → Nat) (pl : Nat → Nat → Nat) : Prop :=
  (h 2 5 = nI nL ∧ nL ≤ 24) ∧ (h 2 6 = nI nH ∧ nH ≤ 12) ∧ (h 13 1 = nI nB ∧ nB ≤ 16) ∧ (h 16 3 = nI nC ∧ nC ≤ 8) ∧
  (∀ b, b < 24 → h 4 (b * 5 + 2) = nI (np b) ∧ np b ≤ 4) ∧ (∀ b k, b < 24 → k < 4 → h 6 (b * 4 + k) = nI (pl b k) ∧ pl b k < 24)
/-- a counter below its bound, at its bound -/
theorem ltN {i N : Nat} {x : Int32} (hx : x = nI N) (hi : i ≤ N) (hN : N < 1000000) (c : ¬ (x ≤ nI i)) : i < N := by
  rcases Nat.lt_or_ge i N with q | q
  · exact q
  · exact absurd (by rw [hx]; exact nI_le q (by omega)) c
theorem eqN {i N : Nat} {x : Int32} (hx : x = nI N) (hi : i ≤ N) (hN : N < 1000000) (c : x ≤ nI i) : i = N := by
  rcases Nat.lt_or_ge i N with q | q
  · exact absurd (by rw [hx] at c; exact c) (nI_ge q (by omega))
  · omega
theorem sumC_if {p : Nat → Prop} [DecidablePred p] {f : Nat → Int32} {n : Nat} (h : p n) : sumC (fun k => if p k then f k else 0) (n + 1) = sumC (fun k => if p k then f k else 0) n + f n := by
  show _ + (if p n then f n else 0) = _
  rw [if_pos h]
theorem sumC_no {p : Nat → Prop} [DecidablePred p] {f : Nat → Int32} {n : Nat} (h : ¬ p n) : sumC (fun k => if p k then f k else 0) (n + 1) = sumC (fun k => if p k then f k else 0) n := by
  show _ + (if p n then f n else 0) = _
  rw [if_neg h, Int32.add_zero]
theorem cntB_yes {p : Nat → Bool} {n : Nat} (h : p n = true) : nI (cntB p n) + 1 = nI (cntB p (n + 1)) := by
  rw [nI_1]; simp [cntB, h]
theorem cntB_no {p : Nat → Bool} {n : Nat} (h : p n = false) : nI (cntB p n) = nI (cntB p (n + 1)) := by
  simp [cntB, h]
def orI (g : Nat → Int32) : Nat → Int32
  | 0 => 0
  | n + 1 => orI g n ||| g n
theorem cnt_s {p : Nat → Bool} {n : Nat} {x : Int32} (hx : x = nI (cntB p n)) (h : p n = true) : x + 1 = nI (cntB p (n + 1)) := by
  rw [hx, nI_1]; simp [cntB, h]
theorem cnt_n {p : Nat → Bool} {n : Nat} {x : Int32} (hx : x = nI (cntB p n)) (h : p n = false) : x = nI (cntB p (n + 1)) := by
  rw [hx]; simp [cntB, h]
theorem sum_s {p : Nat → Prop} [DecidablePred p] {f : Nat → Int32} {n : Nat} {x : Int32} (hx : x = sumC (fun k => if p k then f k else 0) n) (h : p n) : x + f n = sumC (fun k => if p k then f k else 0) (n + 1) := by
  rw [hx]; exact (sumC_if h).symm
theorem sum_n {p : Nat → Prop} [DecidablePred p] {f : Nat → Int32} {n : Nat} {x : Int32} (hx : x = sumC (fun k => if p k then f k else 0) n) (h : ¬ p n) : x = sumC (fun k => if p k then f k else 0) (n + 1) := by
  rw [hx]; exact (sumC_no h).symm
def ifOr (b : Bool) (x : Int32) : Int32 := if b then x else 0
theorem or_s {p : Nat → Bool} {g : Nat → Int32} {n : Nat} {x : Int32} (hx : x = orI (fun k => ifOr (p k) (g k)) n) (h : p n = true) : x ||| g n = orI (fun k => ifOr (p k) (g k)) (n + 1) := by
  rw [hx]; simp [orI, ifOr, h]
theorem or_n {p : Nat → Bool} {g : Nat → Int32} {n : Nat} {x : Int32} (hx : x = orI (fun k => ifOr (p k) (g k)) n) (h : p n = false) : x = orI (fun k => ifOr (p k) (g k)) (n + 1) := by
  rw [hx]; simp [orI, ifOr, h]
set_option maxRecDepth 100000 in
set_option maxHeartbeats 4000000 in
theorem sp_X4_leftIn {l : Launch} {G : GC} {ad : Nat → Nat} {h : HP} {lot : Nat} (hlot : lot < 24) : PF l G yX4_leftIn (.code yX4_leftIn cX4_leftIn 2 ((Option.some FieldType.int))) { frames := 2, cells := 0, slots := 0, locals := 45 } [.ref (ad 2), .int (nI lot)] SW ad (h) (some (.int (h 4 (lot * 5 + 1)))) (h) := by
  refine PF.mk (L0 := [some (.ref (ad 2)), some (.int (nI lot))]) RX4 "leftIn" 0 0 (by decide +kernel) rfl rfl ⟨rfl, rfl⟩ (by simp [Value.category]) (Nat.le_of_ble_eq_true rfl) rfl ?_
  refine pw_aload_n dX4_leftIn_0 rfl ?_
  refine pw_getr dX4_leftIn_1 lf_X4_14 sh_2 rfl ?_
  refine pw_iload_n dX4_leftIn_4 rfl ?_
  refine pw_iconst dX4_leftIn_5 (v := 1) (by decide) ?_
  refine pw_cV dX4_leftIn_6 (sp_X6_at tq_3 (r := lot) (k := 1) rfl rfl (hlot) (by decide)) mi_X6_at mv_X6_at ml_X4_80 sh_3 rfl rfl rfl rfl ⟨rfl, rfl⟩ rfl rfl ?_
  exact pw_iretF dX4_leftIn_9 rfl rfl rfl rfl rfl

set_option maxRecDepth 100000 in
set_option maxHeartbeats 4000000 in
theorem sp_X4_partsOf {l : Launch} {G : GC} {ad : Nat → Nat} {h : HP} {lot : Nat} (hlot : lot < 24) : PF l G yX4_partsOf (.code yX4_partsOf cX4_partsOf 2 ((Option.some FieldType.int))) { frames := 2, cells := 0, slots := 0, locals := 45 } [.ref (ad 2), .int (nI lot)] SW ad (h) (some (.int (h 4 (lot * 5 + 2)))) (h) := by
  refine PF.mk (L0 := [some (.ref (ad 2)), some (.int (nI lot))]) RX4 "partsOf" 0 0 (by decide +kernel) rfl rfl ⟨rfl, rfl⟩ (by simp [Value.category]) (Nat.le_of_ble_eq_true rfl) rfl ?_
  refine pw_aload_n dX4_partsOf_0 rfl ?_
  refine pw_getr dX4_partsOf_1 lf_X4_14 sh_2 rfl ?_
  refine pw_iload_n dX4_partsOf_4 rfl ?_
  refine pw_iconst dX4_partsOf_5 (v := 2) (by decide) ?_
  refine pw_cV dX4_partsOf_6 (sp_X6_at tq_3 (r := lot) (k := 2) rfl rfl (hlot) (by decide)) mi_X6_at mv_X6_at ml_X4_80 sh_3 rfl rfl rfl rfl ⟨rfl, rfl⟩ rfl rfl ?_
  exact pw_iretF dX4_partsOf_9 rfl rfl rfl rfl rfl

set_option maxRecDepth 100000 in
set_option maxHeartbeats 4000000 in
theorem sp_X4_take {l : Launch} {G : GC} {ad : Nat → Nat} {h : HP} {lot : Nat} (hlot : lot < 24) {q : Int32} : PF l G yX4_take (.code yX4_take cX4_take 3 ((Option.none : Option FieldType))) { frames := 3, cells := 0, slots := 0, locals := 69 } [.ref (ad 2), .int (nI lot), .int (q)] SW ad (h) (none) (hput h 4 (lot * 5 + 1) (h 4 (lot * 5 + 1) + (-q))) := by
  refine PF.mk (L0 := [some (.ref (ad 2)), some (.int (nI lot)), some (.int (q))]) RX4 "take" 0 0 (by decide +kernel) rfl rfl ⟨rfl, rfl⟩ (by simp [Value.category]) (Nat.le_of_ble_eq_true rfl) rfl ?_
  refine pw_aload_n dX4_take_0 rfl ?_
  refine pw_getr dX4_take_1 lf_X4_14 sh_2 rfl ?_
  refine pw_iload_n dX4_take_4 rfl ?_
  refine pw_iconst dX4_take_5 (v := 1) (by decide) ?_
  refine pw_iload_n dX4_take_6 rfl ?_
  refine pw_ineg dX4_take_7 ?_
  refine pw_cVn dX4_take_8 (sp_X6_add tq_3 (r := lot) (k := 1) rfl rfl (hlot) (by decide)) mi_X6_add mv_X6_add ml_X4_77 sh_3 rfl rfl rfl rfl ⟨rfl, rfl⟩ rfl rfl ?_
  exact pw_retF dX4_take_11 rfl rfl rfl

set_option maxRecDepth 100000 in
set_option maxHeartbeats 4000000 in
theorem sp_X4_enter {l : Launch} {G : GC} {ad : Nat → Nat} {h : HP} {nL : Nat} (hn : h 2 5 = nI nL) (hn24 : nL < 24) {q p g v : Int32} : PF l G yX4_enter (.code yX4_enter cX4_enter 6 ((Option.some FieldType.int))) { frames := 2, cells := 0, slots := 0, locals := 46 } [.ref (ad 2), .int (q), .int (p), .int (g), .int (v)] SW ad (h) (some (.int (nI nL))) (hput (hput (hput (hput (hput (hput (h) 4 (nL * 5 + 0) q) 4 (nL * 5 + 1) q) 4 (nL * 5 + 2) p) 4 (nL * 5 + 3) g) 4 (nL * 5 + 4) v) 2 5 (nI (nL + 1))) := by
  refine PF.mk (L0 := [some (.ref (ad 2)), some (.int (q)), some (.int (p)), some (.int (g)), some (.int (v)), none]) RX4 "enter" 0 0 (by decide +kernel) rfl rfl ⟨rfl, rfl⟩ (by simp [Value.category]) (Nat.le_of_ble_eq_true rfl) rfl ?_
  refine pw_aload_n dX4_enter_0 rfl ?_
  refine pw_geti dX4_enter_1 lf_X4_32 sh_2 rfl ?_
  refine pw_istore dX4_enter_4 (by decide) rfl ?_
  rw [hn]
  refine pw_aload_n dX4_enter_6 rfl ?_
  refine pw_getr dX4_enter_7 lf_X4_14 sh_2 rfl ?_
  refine pw_iload dX4_enter_10 rfl ?_
  refine pw_iconst dX4_enter_12 (v := 0) (by decide) ?_
  refine pw_iload_n dX4_enter_13 rfl ?_
  refine pw_cVn dX4_enter_14 (sp_X6_put tq_3 (r := nL) (k := 0) rfl rfl (hn24) (by decide)) mi_X6_put mv_X6_put ml_X4_46 sh_3 rfl rfl rfl rfl ⟨rfl, rfl⟩ rfl rfl ?_
  refine pw_aload_n dX4_enter_17 rfl ?_
  refine pw_getr dX4_enter_18 lf_X4_14 sh_2 rfl ?_
  refine pw_iload dX4_enter_21 rfl ?_
  refine pw_iconst dX4_enter_23 (v := 1) (by decide) ?_
  refine pw_iload_n dX4_enter_24 rfl ?_
  refine pw_cVn dX4_enter_25 (sp_X6_put tq_3 (r := nL) (k := 1) rfl rfl (hn24) (by decide)) mi_X6_put mv_X6_put ml_X4_46 sh_3 rfl rfl rfl rfl ⟨rfl, rfl⟩ rfl rfl ?_
  refine pw_aload_n dX4_enter_28 rfl ?_
  refine pw_getr dX4_enter_29 lf_X4_14 sh_2 rfl ?_
  refine pw_iload dX4_enter_32 rfl ?_
  refine pw_iconst dX4_enter_34 (v := 2) (by decide) ?_
  refine pw_iload_n dX4_enter_35 rfl ?_
  refine pw_cVn dX4_enter_36 (sp_X6_put tq_3 (r := nL) (k := 2) rfl rfl (hn24) (by decide)) mi_X6_put mv_X6_put ml_X4_46 sh_3 rfl rfl rfl rfl ⟨rfl, rfl⟩ rfl rfl ?_
  refine pw_aload_n dX4_enter_39 rfl ?_
  refine pw_getr dX4_enter_40 lf_X4_14 sh_2 rfl ?_
  refine pw_iload dX4_enter_43 rfl ?_
  refine pw_iconst dX4_enter_45 (v := 3) (by decide) ?_
  refine pw_iload_n dX4_enter_46 rfl ?_
  refine pw_cVn dX4_enter_47 (sp_X6_put tq_3 (r := nL) (k := 3) rfl rfl (hn24) (by decide)) mi_X6_put mv_X6_put ml_X4_46 sh_3 rfl rfl rfl rfl ⟨rfl, rfl⟩ rfl rfl ?_
  refine pw_aload_n dX4_enter_50 rfl ?_
  refine pw_getr dX4_enter_51 lf_X4_14 sh_2 rfl ?_
  refine pw_iload dX4_enter_54 rfl ?_
  refine pw_iconst dX4_enter_56 (v := 4) (by decide) ?_
  refine pw_iload dX4_enter_57 rfl ?_
  refine pw_cVn dX4_enter_59 (sp_X6_put tq_3 (r := nL) (k := 4) rfl rfl (hn24) (by decide)) mi_X6_put mv_X6_put ml_X4_46 sh_3 rfl rfl rfl rfl ⟨rfl, rfl⟩ rfl rfl ?_
  refine pw_aload_n dX4_enter_62 rfl ?_
  refine pw_dup dX4_enter_63 rfl ?_
  refine pw_geti dX4_enter_64 lf_X4_32 sh_2 rfl ?_
  refine pw_iconst dX4_enter_67 (v := 1) (by decide) ?_
  refine pw_iadd dX4_enter_68 ?_
  rw [show hput (hput (hput (hput (hput h 4 (nL * 5 + 0) q) 4 (nL * 5 + 1) q) 4 (nL * 5 + 2) p) 4 (nL * 5 + 3) g) 4 (nL * 5 + 4) v 2 5 = nI nL from hn, nI_1]
  refine pw_puti dX4_enter_69 lf_X4_32 lp_4_5 sh_2 rfl rfl rfl ?_
  refine pw_iload dX4_enter_72 rfl ?_
  exact pw_iretF dX4_enter_74 rfl rfl rfl rfl rfl

set_option maxRecDepth 100000 in
set_option maxHeartbeats 4000000 in
theorem lp_X4_harvestsIn {l : Launch} {G : GC} {ad : Nat → Nat} {h : HP} {nL nH nB nC : Nat} {np : Nat → Nat} {pl : Nat → Nat → Nat} (hw : WF h nL nH nB nC np pl) {lot : Nat} (hlot : lot < 24)  : ∀ (mu9 : Nat) (i : Nat) (x2 : Int32) (hi : i ≤ nH) (hx2 : x2 = nI (cntB (fun k => decide (0 < h 10 (lot * 12 + k))) i)) (hmu9 : nH - i < mu9), PW l G cX4_harvestsIn RX4 4 ((Option.some FieldType.int)) [] { frames := 2, cells := 0, slots := 0, locals := 45 } (gNm "harvestsIn") (gME G SW ad (gR SW ad (some (.int (nI (cntB (fun k => decide (0 < h 10 (lot * 12 + k))) nH)))) (h)) gNo 0 0) 4 [some (.ref (ad 2)), some (.int (nI lot)), some (.int x2), some (.int (nI i))] [] SW ad (h) 0 0 := by
  intro mu9
  induction mu9 with
  | zero => intro i x2 hi hx2 hmu9; exact absurd hmu9 (Nat.not_lt_zero _)
  | succ mu9 ih =>
    intro i x2 hi hx2 hmu9
    have hb1 := hw.1.2
    have hb2 := hw.2.1.2
    have hb3 := hw.2.2.1.2
    have hb4 := hw.2.2.2.1.2
    refine pw_iload_n dX4_harvestsIn_4 rfl ?_
    refine pw_aload_n dX4_harvestsIn_5 rfl ?_
    refine pw_geti dX4_harvestsIn_6 lf_X4_36 sh_2 rfl ?_
    refine pw_icmp_ge dX4_harvestsIn_9 (tgt := 33) (by decide) (fun c9 => ?_) (fun c9 => ?_)
    · skip
      have hi8 : i = nH := eqN hw.2.1.1 hi (by omega) c9
      refine pw_iload_n dX4_harvestsIn_33 rfl ?_
      exact pw_iretF dX4_harvestsIn_34 rfl rfl rfl (by rw [hx2, hi8]) rfl
    · skip
      have hi9 : i < nH := ltN hw.2.1.1 hi (by omega) c9
      refine pw_aload_n dX4_harvestsIn_12 rfl ?_
      refine pw_getr dX4_harvestsIn_13 lf_X4_26 sh_2 rfl ?_
      refine pw_iload_n dX4_harvestsIn_16 rfl ?_
      refine pw_iload_n dX4_harvestsIn_17 rfl ?_
      refine pw_cV dX4_harvestsIn_18 (sp_X6_at tq_9 (r := lot) (k := i) rfl rfl (hlot) (by omega)) mi_X6_at mv_X6_at ml_X4_80 sh_9 rfl rfl rfl rfl ⟨rfl, rfl⟩ rfl rfl ?_
      refine pw_if_le dX4_harvestsIn_21 (tgt := 27) (by decide) (fun c21 => ?_) (fun c21 => ?_)
      · skip
        refine pw_iinc dX4_harvestsIn_27 rfl (d := 1) (by decide) (by decide) rfl ?_
        rw [nI_1]
        refine pw_goto dX4_harvestsIn_30 (tgt := 4) (by decide) ?_
        refine ih (i + 1) _ (by omega) ?_ (by omega)
        first | exact cnt_s hx2 (by simpa using c21) | exact cnt_n hx2 (by simpa using c21)
      · skip
        refine pw_iinc dX4_harvestsIn_24 rfl (d := 1) (by decide) (by decide) rfl ?_
        refine pw_iinc dX4_harvestsIn_27 rfl (d := 1) (by decide) (by decide) rfl ?_
        rw [nI_1]
        refine pw_goto dX4_harvestsIn_30 (tgt := 4) (by decide) ?_
        refine ih (i + 1) _ (by omega) ?_ (by omega)
        first | exact cnt_s hx2 (by simpa using c21) | exact cnt_n hx2 (by simpa using c21)

set_option maxRecDepth 100000 in
set_option maxHeartbeats 4000000 in
theorem sp_X4_harvestsIn {l : Launch} {G : GC} {ad : Nat → Nat} {h : HP} {nL nH nB nC : Nat} {np : Nat → Nat} {pl : Nat → Nat → Nat} (hw : WF h nL nH nB nC np pl) {lot : Nat} (hlot : lot < 24) : PF l G yX4_harvestsIn (.code yX4_harvestsIn cX4_harvestsIn 4 ((Option.some FieldType.int))) { frames := 2, cells := 0, slots := 0, locals := 45 } [.ref (ad 2), .int (nI lot)] SW ad (h) (some (.int (nI (cntB (fun k => decide (0 < h 10 (lot * 12 + k))) nH)))) (h) := by
  refine PF.mk (L0 := [some (.ref (ad 2)), some (.int (nI lot)), none, none]) RX4 "harvestsIn" 0 0 (by decide +kernel) rfl rfl ⟨rfl, rfl⟩ (by simp [Value.category]) (Nat.le_of_ble_eq_true rfl) rfl ?_
  refine pw_iconst dX4_harvestsIn_0 (v := 0) (by decide) ?_
  refine pw_istore_n dX4_harvestsIn_1 (by decide) rfl ?_
  refine pw_iconst dX4_harvestsIn_2 (v := 0) (by decide) ?_
  refine pw_istore_n dX4_harvestsIn_3 (by decide) rfl ?_
  exact lp_X4_harvestsIn hw hlot (nH + 1) 0 0 (Nat.zero_le _) rfl (by omega)

set_option maxRecDepth 100000 in
set_option maxHeartbeats 4000000 in
theorem lp_X4_shareBy {l : Launch} {G : GC} {ad : Nat → Nat} {h : HP} {nL nH nB nC : Nat} {np : Nat → Nat} {pl : Nat → Nat → Nat} (hw : WF h nL nH nB nC np pl) {lot : Nat} (hlot : lot < 24) {number : Int32} {w : Nat} (hw3 : w < 3)  : ∀ (mu9 : Nat) (i : Nat) (x4 : Int32) (hi : i ≤ nH) (hx4 : x4 = sumC (fun k => if h 12 (k * 3 + w) = number then h 10 (lot * 12 + k) else 0) i) (hmu9 : nH - i < mu9), PW l G cX4_shareBy RX4 6 ((Option.some FieldType.int)) [] { frames := 2, cells := 0, slots := 0, locals := 45 } (gNm "shareBy") (gME G SW ad (gR SW ad (some (.int (sumC (fun k => if h 12 (k * 3 + w) = number then h 10 (lot * 12 + k) else 0) nH))) (h)) gNo 0 0) 20 [some (.ref (ad 2)), some (.int (nI lot)), some (.int (nI (w + 1))), some (.int number), some (.int x4), some (.int (nI i))] [] SW ad (h) 0 0 := by
  intro mu9
  induction mu9 with
  | zero => intro i x4 hi hx4 hmu9; exact absurd hmu9 (Nat.not_lt_zero _)
  | succ mu9 ih =>
    intro i x4 hi hx4 hmu9
    have hb1 := hw.1.2
    have hb2 := hw.2.1.2
    have hb3 := hw.2.2.1.2
    have hb4 := hw.2.2.2.1.2
    refine pw_iload dX4_shareBy_20 rfl ?_
    refine pw_aload_n dX4_shareBy_22 rfl ?_
    refine pw_geti dX4_shareBy_23 lf_X4_36 sh_2 rfl ?_
    refine pw_icmp_ge dX4_shareBy_26 (tgt := 66) (by decide) (fun c26 => ?_) (fun c26 => ?_)
    · skip
      have hi8 : i = nH := eqN hw.2.1.1 hi (by omega) c26
      refine pw_iload dX4_shareBy_66 rfl ?_
      exact pw_iretF dX4_shareBy_68 rfl rfl rfl (by rw [hx4, hi8]) rfl
    · skip
      have hi9 : i < nH := ltN hw.2.1.1 hi (by omega) c26
      refine pw_aload_n dX4_shareBy_29 rfl ?_
      refine pw_getr dX4_shareBy_30 lf_X4_29 sh_2 rfl ?_
      refine pw_iload dX4_shareBy_33 rfl ?_
      refine pw_iload_n dX4_shareBy_35 rfl ?_
      refine pw_iconst dX4_shareBy_36 (v := 1) (by decide) ?_
      refine pw_isub dX4_shareBy_37 ?_
      rw [nI_pred]
      refine pw_cV dX4_shareBy_38 (sp_X6_at tq_11 (r := i) (k := w) rfl rfl (by omega) (hw3)) mi_X6_at mv_X6_at ml_X4_80 sh_11 rfl rfl rfl rfl ⟨rfl, rfl⟩ rfl rfl ?_
      refine pw_iload_n dX4_shareBy_41 rfl ?_
      refine pw_icmp_ne dX4_shareBy_42 (tgt := 60) (by decide) (fun c42 => ?_) (fun c42 => ?_)
      · skip
        refine pw_iinc dX4_shareBy_60 rfl (d := 1) (by decide) (by decide) rfl ?_
        rw [nI_1]
        refine pw_goto dX4_shareBy_63 (tgt := 20) (by decide) ?_
        refine ih (i + 1) _ (by omega) ?_ (by omega)
        first | exact sum_s (p := fun k => h 12 (k * 3 + w) = number) (f := fun k => h 10 (lot * 12 + k)) hx4 c42 | exact sum_n (p := fun k => h 12 (k * 3 + w) = number) (f := fun k => h 10 (lot * 12 + k)) hx4 c42
      · skip
        refine pw_iload dX4_shareBy_45 rfl ?_
        refine pw_aload_n dX4_shareBy_47 rfl ?_
        refine pw_getr dX4_shareBy_48 lf_X4_26 sh_2 rfl ?_
        refine pw_iload_n dX4_shareBy_51 rfl ?_
        refine pw_iload dX4_shareBy_52 rfl ?_
        refine pw_cV dX4_shareBy_54 (sp_X6_at tq_9 (r := lot) (k := i) rfl rfl (hlot) (by omega)) mi_X6_at mv_X6_at ml_X4_80 sh_9 rfl rfl rfl rfl ⟨rfl, rfl⟩ rfl rfl ?_
        refine pw_iadd dX4_shareBy_57 ?_
        refine pw_istore dX4_shareBy_58 (by decide) rfl ?_
        refine pw_iinc dX4_shareBy_60 rfl (d := 1) (by decide) (by decide) rfl ?_
        rw [nI_1]
        refine pw_goto dX4_shareBy_63 (tgt := 20) (by decide) ?_
        refine ih (i + 1) _ (by omega) ?_ (by omega)
        first | exact sum_s (p := fun k => h 12 (k * 3 + w) = number) (f := fun k => h 10 (lot * 12 + k)) hx4 c42 | exact sum_n (p := fun k => h 12 (k * 3 + w) = number) (f := fun k => h 10 (lot * 12 + k)) hx4 c42

set_option maxRecDepth 100000 in
set_option maxHeartbeats 4000000 in
theorem sp_X4_shareBy {l : Launch} {G : GC} {ad : Nat → Nat} {h : HP} {nL nH nB nC : Nat} {np : Nat → Nat} {pl : Nat → Nat → Nat} (hw : WF h nL nH nB nC np pl) {lot : Nat} (hlot : lot < 24) {number : Int32} {w : Nat} (hw3 : w < 3) : PF l G yX4_shareBy (.code yX4_shareBy cX4_shareBy 6 ((Option.some FieldType.int))) { frames := 2, cells := 0, slots := 0, locals := 45 } [.ref (ad 2), .int (nI lot), .int (nI (w + 1)), .int (number)] SW ad (h) (some (.int (sumC (fun k => if h 12 (k * 3 + w) = number then h 10 (lot * 12 + k) else 0) nH))) (h) := by
  refine PF.mk (L0 := [some (.ref (ad 2)), some (.int (nI lot)), some (.int (nI (w + 1))), some (.int (number)), none, none]) RX4 "shareBy" 0 0 (by decide +kernel) rfl rfl ⟨rfl, rfl⟩ (by simp [Value.category]) (Nat.le_of_ble_eq_true rfl) rfl ?_
  refine pw_iload_n dX4_shareBy_0 rfl ?_
  refine pw_if_ne dX4_shareBy_1 (tgt := 14) (by decide) (fun c1 => ?_) (fun c1 => absurd c1 (nI_ne0 (Nat.succ_pos _) (by omega)))
  refine pw_iconst dX4_shareBy_14 (v := 0) (by decide) ?_
  refine pw_istore dX4_shareBy_15 (by decide) rfl ?_
  refine pw_iconst dX4_shareBy_17 (v := 0) (by decide) ?_
  refine pw_istore dX4_shareBy_18 (by decide) rfl ?_
  exact lp_X4_shareBy hw hlot hw3 (nH + 1) 0 0 (Nat.zero_le _) rfl (by omega)

set_option maxRecDepth 100000 in
set_option maxHeartbeats 4000000 in
theorem sp_X4_shareBy0 {l : Launch} {G : GC} {ad : Nat → Nat} {h : HP} {lot : Nat} (hlot : lot < 24) {k : Nat} (hk : k < 12) : PF l G yX4_shareBy (.code yX4_shareBy cX4_shareBy 6 ((Option.some FieldType.int))) { frames := 2, cells := 0, slots := 0, locals := 45 } [.ref (ad 2), .int (nI lot), .int (0), .int (nI k)] SW ad (h) (some (.int (h 10 (lot * 12 + k)))) (h) := by
  refine PF.mk (L0 := [some (.ref (ad 2)), some (.int (nI lot)), some (.int (0)), some (.int (nI k)), none, none]) RX4 "shareBy" 0 0 (by decide +kernel) rfl rfl ⟨rfl, rfl⟩ (by simp [Value.category]) (Nat.le_of_ble_eq_true rfl) rfl ?_
  refine pw_iload_n dX4_shareBy_0 rfl ?_
  refine pw_if_ne dX4_shareBy_1 (tgt := 14) (by decide) (fun c1 => absurd c1 (fun q => q rfl)) (fun c1 => ?_)
  refine pw_aload_n dX4_shareBy_4 rfl ?_
  refine pw_getr dX4_shareBy_5 lf_X4_26 sh_2 rfl ?_
  refine pw_iload_n dX4_shareBy_8 rfl ?_
  refine pw_iload_n dX4_shareBy_9 rfl ?_
  refine pw_cV dX4_shareBy_10 (sp_X6_at tq_9 (r := lot) (k := k) rfl rfl (hlot) (hk)) mi_X6_at mv_X6_at ml_X4_80 sh_9 rfl rfl rfl rfl ⟨rfl, rfl⟩ rfl rfl ?_
  exact pw_iretF dX4_shareBy_13 rfl rfl rfl rfl rfl

