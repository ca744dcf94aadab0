/-! A STATE: what it allows, and its copies -/
def shS (h : HP) (lot w nH : Nat) (number : Int32) : Int32 := sumC (fun k => if h 12 (k * 3 + w) = number then h 10 (lot * 12 + k) else 0) nH
def alB (h : HP) (lot w nH : Nat) (number : Int32) : Bool := decide (number = -1) || decide (h 24 (0 * 3 + w) ≤ shS h lot w nH number)
def agB (h : HP) (lot nH : Nat) (g s : Int32) : Bool := decide (shS h lot 1 nH s ≤ shS h lot 1 nH g) && (decide (¬ shS h lot 1 nH s = 0) && decide (h 24 (0 * 3 + 1) ≤ shS h lot 1 nH g + shS h lot 1 nH s))
def lrG (h : HP) (lot nH : Nat) (g s : Int32) : Bool := if s = -1 then alB h lot 1 nH g else agB h lot nH g s
def lrI (h : HP) (lot nH : Nat) (v g s r : Int32) : Int32 := if alB h lot 0 nH v then (if lrG h lot nH g s then (if alB h lot 2 nH r then 0 else 8) else 7) else 6
def brI (h : HP) (lot nH nB : Nat) (b v g s r : Int32) : Int32 := if h 4 (lot * 5 + 1) < b * 3 then 5 else if lrI h lot nH v g s r = 0 then (if nI nB < 16 then 0 else 9) else lrI h lot nH v g s r
set_option maxRecDepth 100000 in
set_option maxHeartbeats 4000000 in
theorem lq_X1_handOut {l : Launch} {G : GC} {ad : Nat → Nat} {h : HP} {nC : Nat} (hnC : h 16 3 = nI nC) (hn8 : nC ≤ 8) {b : Nat} (hb : b < 16) {stock : Int32} {kd ln : Nat → Nat} (hkd : ∀ c, c < 8 → h 18 (c * 1 + 0) = nI (kd c) ∧ kd c < 3) (hln : ∀ k, k < (lnK h b nC 3).2 → (lnK h b nC 3).1 248 (0 * 8 + k) = nI (ln k) ∧ ln k < 8) (hl8 : (lnK h b nC 3).2 ≤ 8) {r : Nat} {ls6 : Option Value} {x : HP × Int32} (hx : ∀ q j, q ≠ 20 → x.1 q j = (lnK h b nC 3).1 q j) (K : ∀ x6 : Int32, x6 = b2i (decide (x.2 < (hoP kd ln b stock x (lnK h b nC 3).2).2)) → PW l G cX1_handOut RX1 10 ((Option.some FieldType.int)) [] { frames := 4, cells := 0, slots := 0, locals := 93 } (gNm "handOut") (gME G SW ad (gR SW ad (some (.int (hoR kd ln b stock (lnK h b nC 3).2 3333 ((lnK h b nC 3).1, 0)).2)) ((hoR kd ln b stock (lnK h b nC 3).2 3333 ((lnK h b nC 3).1, 0)).1)) gNo 0 0) 17 [some (.ref (ad 16)), some (.int (nI b)), some (.int stock), some (.ref (ad 247)), some (.int (nI (lnK h b nC 3).2)), some (.int (hoP kd ln b stock x (lnK h b nC 3).2).2), some (.int x6), some (.int (nI (r + 1))), some (.int x.2), some (.int (nI (lnK h b nC 3).2))] [] SW ad ((hoP kd ln b stock x (lnK h b nC 3).2).1) 0 0) : ∀ (mu9 : Nat) (j : Nat) (hj : j ≤ (lnK h b nC 3).2) (hmu9 : (lnK h b nC 3).2 - j < mu9), PW l G cX1_handOut RX1 10 ((Option.some FieldType.int)) [] { frames := 4, cells := 0, slots := 0, locals := 93 } (gNm "handOut") (gME G SW ad (gR SW ad (some (.int (hoR kd ln b stock (lnK h b nC 3).2 3333 ((lnK h b nC 3).1, 0)).2)) ((hoR kd ln b stock (lnK h b nC 3).2 3333 ((lnK h b nC 3).1, 0)).1)) gNo 0 0) 37 [some (.ref (ad 16)), some (.int (nI b)), some (.int stock), some (.ref (ad 247)), some (.int (nI (lnK h b nC 3).2)), some (.int (hoP kd ln b stock x j).2), ls6, some (.int (nI r)), some (.int x.2), some (.int (nI j))] [] SW ad ((hoP kd ln b stock x j).1) 0 0 := by
  intro mu9
  induction mu9 with
  | zero => intro j hj hmu9; exact absurd hmu9 (Nat.not_lt_zero _)
  | succ mu9 ih =>
    intro j hj hmu9
    refine pw_iload dX1_handOut_37 rfl ?_
    refine pw_iload dX1_handOut_39 rfl ?_
    refine pw_icmp_ge dX1_handOut_41 (tgt := 71) (by decide) (fun c41 => ?_) (fun c41 => ?_)
    · skip
      have hj8 : j = (lnK h b nC 3).2 := eqN rfl hj (by omega) c41
      subst hj8
      refine pw_iload dX1_handOut_71 rfl ?_
      refine pw_iload dX1_handOut_73 rfl ?_
      refine pw_icmp_le dX1_handOut_75 (tgt := 82) (by decide) (fun c75 => ?_) (fun c75 => ?_)
      · skip
        refine pw_iconst dX1_handOut_82 (v := 0) (by decide) ?_
        refine pw_istore dX1_handOut_83 (by decide) rfl ?_
        refine pw_iinc dX1_handOut_85 rfl (d := 1) (by decide) (by decide) rfl ?_
        rw [nI_1]
        refine pw_goto dX1_handOut_88 (tgt := 17) (by decide) ?_
        exact K 0 (by rw [decide_eq_false (Int32.not_lt.mpr c75)]; rfl)
      · skip
        refine pw_iconst dX1_handOut_78 (v := 1) (by decide) ?_
        refine pw_goto dX1_handOut_79 (tgt := 83) (by decide) ?_
        refine pw_istore dX1_handOut_83 (by decide) rfl ?_
        refine pw_iinc dX1_handOut_85 rfl (d := 1) (by decide) (by decide) rfl ?_
        rw [nI_1]
        refine pw_goto dX1_handOut_88 (tgt := 17) (by decide) ?_
        exact K 1 (by rw [decide_eq_true (Int32.not_le.mp c75)]; rfl)
    · skip
      have hj9 : j < (lnK h b nC 3).2 := ltN rfl hj (by omega) c41
      have ey : ∀ q i, q ≠ 20 → (hoP kd ln b stock x j).1 q i = (lnK h b nC 3).1 q i := fun q i hq => by rw [hoP_o _ _ _ _ _ _ _ _ hq]; exact hx q i hq
      refine pw_iload dX1_handOut_44 rfl ?_
      refine pw_aload_n dX1_handOut_46 rfl ?_
      refine pw_aload_n dX1_handOut_47 rfl ?_
      refine pw_iconst dX1_handOut_48 (v := 0) (by decide) ?_
      refine pw_iload dX1_handOut_49 rfl ?_
      refine pw_cV dX1_handOut_51 (sp_X6_at tq_247 (r := 0) (k := j) rfl rfl (by decide) (by omega)) mi_X6_at mv_X6_at ml_X1_38 sh_247 rfl rfl rfl rfl ⟨rfl, rfl⟩ rfl rfl ?_
      rw [ey _ _ (by decide), (hln j hj9).1]
      refine pw_iload_n dX1_handOut_54 rfl ?_
      refine pw_iload_n dX1_handOut_55 rfl ?_
      refine pw_iload dX1_handOut_56 rfl ?_
      refine pw_isub dX1_handOut_58 ?_
      refine pw_cV dX1_handOut_59 (sp_X1_handTo (c := ln j) (k := kd (ln j)) (hln j hj9).2 hb (by rw [ey _ _ (by decide), lnK_o _ _ _ _ _ _ (by decide)]; exact (hkd _ (hln j hj9).2).1) (hkd _ (hln j hj9).2).2) mi_X1_handTo mv_X1_handTo ml_X1_54 sh_16 rfl rfl rfl rfl ⟨rfl, rfl⟩ rfl rfl ?_
      refine pw_iadd dX1_handOut_62 ?_
      refine pw_istore dX1_handOut_63 (by decide) rfl ?_
      refine pw_iinc dX1_handOut_65 rfl (d := 1) (by decide) (by decide) rfl ?_
      rw [nI_1]
      refine pw_goto dX1_handOut_68 (tgt := 37) (by decide) ?_
      exact ih (j + 1) (by omega) (by omega)

set_option maxRecDepth 100000 in
set_option maxHeartbeats 4000000 in
theorem lp_X1_handOut {l : Launch} {G : GC} {ad : Nat → Nat} {h : HP} {nC : Nat} (hnC : h 16 3 = nI nC) (hn8 : nC ≤ 8) {b : Nat} (hb : b < 16) {stock : Int32} {kd ln : Nat → Nat} (hkd : ∀ c, c < 8 → h 18 (c * 1 + 0) = nI (kd c) ∧ kd c < 3) (hln : ∀ k, k < (lnK h b nC 3).2 → (lnK h b nC 3).1 248 (0 * 8 + k) = nI (ln k) ∧ ln k < 8) (hl8 : (lnK h b nC 3).2 ≤ 8)  : ∀ (mu9 : Nat) (r : Nat) (x : HP × Int32) (x6 : Int32) (go : Bool) (ls8 : Option Value) (ls9 : Option Value) (hr : r ≤ 3333) (hx : ∀ q j, q ≠ 20 → x.1 q j = (lnK h b nC 3).1 q j) (hx6 : x6 = b2i go) (hF : (hoR kd ln b stock (lnK h b nC 3).2 3333 ((lnK h b nC 3).1, 0)) = if go then hoR kd ln b stock (lnK h b nC 3).2 (3333 - r) x else x) (hmu9 : 3333 - r < mu9), PW l G cX1_handOut RX1 10 ((Option.some FieldType.int)) [] { frames := 4, cells := 0, slots := 0, locals := 93 } (gNm "handOut") (gME G SW ad (gR SW ad (some (.int (hoR kd ln b stock (lnK h b nC 3).2 3333 ((lnK h b nC 3).1, 0)).2)) ((hoR kd ln b stock (lnK h b nC 3).2 3333 ((lnK h b nC 3).1, 0)).1)) gNo 0 0) 17 [some (.ref (ad 16)), some (.int (nI b)), some (.int stock), some (.ref (ad 247)), some (.int (nI (lnK h b nC 3).2)), some (.int x.2), some (.int x6), some (.int (nI r)), ls8, ls9] [] SW ad (x.1) 0 0 := by
  intro mu9
  induction mu9 with
  | zero => intro r x x6 go ls8 ls9 hr hx hx6 hF hmu9; exact absurd hmu9 (Nat.not_lt_zero _)
  | succ mu9 ih =>
    intro r x x6 go ls8 ls9 hr hx hx6 hF hmu9
    refine pw_iload dX1_handOut_17 rfl ?_
    refine pw_sipush dX1_handOut_19 (v := 3333) (by decide) ?_
    refine pw_icmp_ge dX1_handOut_22 (tgt := 91) (by decide) (fun c22 => ?_) (fun c22 => ?_)
    · skip
      refine pw_iload dX1_handOut_91 rfl ?_
      have hr8 : r = 3333 := eqN (N := 3333) rfl hr (by decide) c22
      have hZ : (if go then hoR kd ln b stock (lnK h b nC 3).2 (3333 - r) x else x) = x := by rw [hr8, Nat.sub_self]; cases go <;> rfl
      exact pw_iretF dX1_handOut_93 rfl rfl rfl (by rw [hF, hZ]) (by rw [hF, hZ])
    · skip
      have hr9 : r < 3333 := ltN (N := 3333) rfl hr (by decide) c22
      refine pw_iload dX1_handOut_25 rfl ?_
      refine pw_if_eq dX1_handOut_27 (tgt := 91) (by decide) (fun c27 => ?_) (fun c27 => ?_)
      · skip
        refine pw_iload dX1_handOut_91 rfl ?_
        exact pw_iretF dX1_handOut_93 rfl rfl rfl (by rw [hF, if_neg (by rw [show go = false from b2i_eq (by rw [← hx6]; exact c27)]; decide)]) (by rw [hF, if_neg (by rw [show go = false from b2i_eq (by rw [← hx6]; exact c27)]; decide)])
      · skip
        have hg : go = true := b2i_ne (by rw [← hx6]; exact c27)
        refine pw_iload dX1_handOut_30 rfl ?_
        refine pw_istore dX1_handOut_32 (by decide) rfl ?_
        refine pw_iconst dX1_handOut_34 (v := 0) (by decide) ?_
        refine pw_istore dX1_handOut_35 (by decide) rfl ?_
        exact lq_X1_handOut hnC hn8 hb hkd hln hl8 (x := x) hx (fun z hz => ih (r + 1) _ z (decide (x.2 < (hoP kd ln b stock x (lnK h b nC 3).2).2)) _ _ (by omega) (fun q j hq => by rw [hoP_o _ _ _ _ _ _ _ _ hq]; exact hx q j hq) hz (by rw [hF, if_pos hg, show 3333 - r = (3333 - (r + 1)) + 1 by omega, hoR]; by_cases e9 : x.2 < (hoP kd ln b stock x (lnK h b nC 3).2).2 <;> simp [e9]) (by omega)) ((lnK h b nC 3).2 + 1) 0 (Nat.zero_le _) (by omega)

set_option maxRecDepth 100000 in
set_option maxHeartbeats 4000000 in
theorem sp_X1_handOut {l : Launch} {G : GC} {ad : Nat → Nat} {h : HP} {nC : Nat} (hnC : h 16 3 = nI nC) (hn8 : nC ≤ 8) {b : Nat} (hb : b < 16) {stock : Int32} {kd ln : Nat → Nat} (hkd : ∀ c, c < 8 → h 18 (c * 1 + 0) = nI (kd c) ∧ kd c < 3) (hln : ∀ k, k < (lnK h b nC 3).2 → (lnK h b nC 3).1 248 (0 * 8 + k) = nI (ln k) ∧ ln k < 8) (hl8 : (lnK h b nC 3).2 ≤ 8) : PF l G yX1_handOut (.code yX1_handOut cX1_handOut 10 ((Option.some FieldType.int))) { frames := 4, cells := 0, slots := 0, locals := 93 } [.ref (ad 16), .int (nI b), .int (stock), .ref (ad 247)] SW ad (h) (some (.int (hoR kd ln b stock (lnK h b nC 3).2 3333 ((lnK h b nC 3).1, 0)).2)) ((hoR kd ln b stock (lnK h b nC 3).2 3333 ((lnK h b nC 3).1, 0)).1) := by
  refine PF.mk (L0 := [some (.ref (ad 16)), some (.int (nI b)), some (.int (stock)), some (.ref (ad 247)), none, none, none, none, none, none]) RX1 "handOut" 0 0 (by decide +kernel) rfl rfl ⟨rfl, rfl⟩ (by simp [Value.category]) (Nat.le_of_ble_eq_true rfl) rfl ?_
  refine pw_aload_n dX1_handOut_0 rfl ?_
  refine pw_iload_n dX1_handOut_1 rfl ?_
  refine pw_aload_n dX1_handOut_2 rfl ?_
  refine pw_cV dX1_handOut_3 (sp_X1_lineUp hnC hn8 hb) mi_X1_lineUp mv_X1_lineUp ml_X1_50 sh_16 rfl rfl rfl rfl ⟨rfl, rfl⟩ rfl rfl ?_
  refine pw_istore dX1_handOut_6 (by decide) rfl ?_
  refine pw_iconst dX1_handOut_8 (v := 0) (by decide) ?_
  refine pw_istore dX1_handOut_9 (by decide) rfl ?_
  refine pw_iconst dX1_handOut_11 (v := 1) (by decide) ?_
  refine pw_istore dX1_handOut_12 (by decide) rfl ?_
  refine pw_iconst dX1_handOut_14 (v := 0) (by decide) ?_
  refine pw_istore dX1_handOut_15 (by decide) rfl ?_
  exact lp_X1_handOut hnC hn8 hb hkd hln hl8 3334 0 ((lnK h b nC 3).1, 0) 1 true none none (Nat.zero_le _) (fun _ _ _ => rfl) rfl rfl (by decide)

set_option maxRecDepth 100000 in
set_option maxHeartbeats 4000000 in
theorem sp_X5_isAllowed {l : Launch} {G : GC} {ad : Nat → Nat} {h : HP} {nL nH nB nC : Nat} {np : Nat → Nat} {pl : Nat → Nat → Nat} (hw : WF h nL nH nB nC np pl) {lot : Nat} (hlot : lot < 24) {w : Nat} (hw3 : w < 3) {number : Int32} : PF l G yX5_isAllowed (.code yX5_isAllowed cX5_isAllowed 4 ((Option.some FieldType.boolean))) { frames := 3, cells := 0, slots := 0, locals := 70 } [.ref (ad 1), .int (nI lot), .int (nI (w + 1)), .int (number)] SW ad (h) (some (.int (b2i (alB h lot w nH number)))) (h) := by
  refine PF.mk (L0 := [some (.ref (ad 1)), some (.int (nI lot)), some (.int (nI (w + 1))), some (.int (number))]) RX5 "isAllowed" 0 0 (by decide +kernel) rfl rfl ⟨rfl, rfl⟩ (by simp [Value.category]) (Nat.le_of_ble_eq_true rfl) rfl ?_
  refine pw_iload_n dX5_isAllowed_0 rfl ?_
  refine pw_iconst dX5_isAllowed_1 (v := (-1)) (by decide) ?_
  refine pw_icmp_eq dX5_isAllowed_2 (tgt := 29) (by decide) (fun c2 => ?_) (fun c2 => ?_)
  · skip
    refine pw_iconst dX5_isAllowed_29 (v := 1) (by decide) ?_
    refine pw_goto dX5_isAllowed_30 (tgt := 34) (by decide) ?_
    exact pw_iretF dX5_isAllowed_34 rfl rfl rfl (by rw [alB, decide_eq_true c2]; rfl) rfl
  · skip
    refine pw_aload_n dX5_isAllowed_5 rfl ?_
    refine pw_getr dX5_isAllowed_6 lf_X5_12 sh_1 rfl ?_
    refine pw_iload_n dX5_isAllowed_9 rfl ?_
    refine pw_iload_n dX5_isAllowed_10 rfl ?_
    refine pw_iload_n dX5_isAllowed_11 rfl ?_
    refine pw_cV dX5_isAllowed_12 (sp_X4_shareBy hw hlot hw3) mi_X4_shareBy mv_X4_shareBy ml_X5_77 sh_2 rfl rfl rfl rfl ⟨rfl, rfl⟩ rfl rfl ?_
    refine pw_aload_n dX5_isAllowed_15 rfl ?_
    refine pw_getr dX5_isAllowed_16 lf_X5_37 sh_1 rfl ?_
    refine pw_iconst dX5_isAllowed_19 (v := 0) (by decide) ?_
    refine pw_iload_n dX5_isAllowed_20 rfl ?_
    refine pw_iconst dX5_isAllowed_21 (v := 1) (by decide) ?_
    refine pw_isub dX5_isAllowed_22 ?_
    rw [nI_pred]
    refine pw_cV dX5_isAllowed_23 (sp_X6_at tq_23 (r := 0) (k := w) rfl rfl (by decide) (hw3)) mi_X6_at mv_X6_at ml_X5_81 sh_23 rfl rfl rfl rfl ⟨rfl, rfl⟩ rfl rfl ?_
    refine pw_icmp_lt dX5_isAllowed_26 (tgt := 33) (by decide) (fun c26 => ?_) (fun c26 => ?_)
    · skip
      refine pw_iconst dX5_isAllowed_33 (v := 0) (by decide) ?_
      exact pw_iretF dX5_isAllowed_34 rfl rfl rfl (by rw [alB, decide_eq_false c2, decide_eq_false (show ¬ h 24 (0 * 3 + w) ≤ shS h lot w nH number from Int32.not_le.mpr c26)]; rfl) rfl
    · skip
      refine pw_iconst dX5_isAllowed_29 (v := 1) (by decide) ?_
      refine pw_goto dX5_isAllowed_30 (tgt := 34) (by decide) ?_
      exact pw_iretF dX5_isAllowed_34 rfl rfl rfl (by rw [alB, decide_eq_true (show h 24 (0 * 3 + w) ≤ shS h lot w nH number from Int32.not_lt.mp c26), Bool.or_true]; rfl) rfl

set_option maxRecDepth 100000 in
set_option maxHeartbeats 4000000 in
theorem sp_X5_areAllowed {l : Launch} {G : GC} {ad : Nat → Nat} {h : HP} {nL nH nB nC : Nat} {np : Nat → Nat} {pl : Nat → Nat → Nat} (hw : WF h nL nH nB nC np pl) {lot : Nat} (hlot : lot < 24) {g s : Int32} : PF l G yX5_areAllowed (.code yX5_areAllowed cX5_areAllowed 6 ((Option.some FieldType.boolean))) { frames := 3, cells := 0, slots := 0, locals := 70 } [.ref (ad 1), .int (nI lot), .int (g), .int (s)] SW ad (h) (some (.int (b2i (agB h lot nH g s)))) (h) := by
  refine PF.mk (L0 := [some (.ref (ad 1)), some (.int (nI lot)), some (.int (g)), some (.int (s)), none, none]) RX5 "areAllowed" 0 0 (by decide +kernel) rfl rfl ⟨rfl, rfl⟩ (by simp [Value.category]) (Nat.le_of_ble_eq_true rfl) rfl ?_
  refine pw_aload_n dX5_areAllowed_0 rfl ?_
  refine pw_getr dX5_areAllowed_1 lf_X5_12 sh_1 rfl ?_
  refine pw_iload_n dX5_areAllowed_4 rfl ?_
  refine pw_iconst dX5_areAllowed_5 (v := 2) (by decide) ?_
  refine pw_iload_n dX5_areAllowed_6 rfl ?_
  refine pw_cV dX5_areAllowed_7 (sp_X4_shareBy hw hlot (w := 1) (by decide)) mi_X4_shareBy mv_X4_shareBy ml_X5_77 sh_2 rfl rfl rfl rfl ⟨rfl, rfl⟩ rfl rfl ?_
  refine pw_istore dX5_areAllowed_10 (by decide) rfl ?_
  refine pw_aload_n dX5_areAllowed_12 rfl ?_
  refine pw_getr dX5_areAllowed_13 lf_X5_12 sh_1 rfl ?_
  refine pw_iload_n dX5_areAllowed_16 rfl ?_
  refine pw_iconst dX5_areAllowed_17 (v := 2) (by decide) ?_
  refine pw_iload_n dX5_areAllowed_18 rfl ?_
  refine pw_cV dX5_areAllowed_19 (sp_X4_shareBy hw hlot (w := 1) (by decide)) mi_X4_shareBy mv_X4_shareBy ml_X5_77 sh_2 rfl rfl rfl rfl ⟨rfl, rfl⟩ rfl rfl ?_
  refine pw_istore dX5_areAllowed_22 (by decide) rfl ?_
  refine pw_iload dX5_areAllowed_24 rfl ?_
  refine pw_iload dX5_areAllowed_26 rfl ?_
  refine pw_icmp_lt dX5_areAllowed_28 (tgt := 57) (by decide) (fun c28 => ?_) (fun c28 => ?_)
  · skip
    refine pw_iconst dX5_areAllowed_57 (v := 0) (by decide) ?_
    have e1 : ¬  (shS h lot 1 nH s ≤ shS h lot 1 nH g) := Int32.not_le.mpr c28
    exact pw_iretF dX5_areAllowed_58 rfl rfl rfl (by rw [agB, decide_eq_false e1]; rfl) rfl
  · skip
    refine pw_iload dX5_areAllowed_31 rfl ?_
    refine pw_if_eq dX5_areAllowed_33 (tgt := 57) (by decide) (fun c33 => ?_) (fun c33 => ?_)
    · skip
      refine pw_iconst dX5_areAllowed_57 (v := 0) (by decide) ?_
      have e1 :  (shS h lot 1 nH s ≤ shS h lot 1 nH g) := Int32.not_lt.mp c28
      have e2 : shS h lot 1 nH s = 0 := c33
      exact pw_iretF dX5_areAllowed_58 rfl rfl rfl (by rw [agB, decide_eq_true e1, decide_eq_false (fun q => q e2)]; rfl) rfl
    · skip
      refine pw_iload dX5_areAllowed_36 rfl ?_
      refine pw_iload dX5_areAllowed_38 rfl ?_
      refine pw_iadd dX5_areAllowed_40 ?_
      refine pw_aload_n dX5_areAllowed_41 rfl ?_
      refine pw_getr dX5_areAllowed_42 lf_X5_37 sh_1 rfl ?_
      refine pw_iconst dX5_areAllowed_45 (v := 0) (by decide) ?_
      refine pw_iconst dX5_areAllowed_46 (v := 1) (by decide) ?_
      refine pw_cV dX5_areAllowed_47 (sp_X6_at tq_23 (r := 0) (k := 1) rfl rfl (by decide) (by decide)) mi_X6_at mv_X6_at ml_X5_81 sh_23 rfl rfl rfl rfl ⟨rfl, rfl⟩ rfl rfl ?_
      refine pw_icmp_lt dX5_areAllowed_50 (tgt := 57) (by decide) (fun c50 => ?_) (fun c50 => ?_)
      · skip
        refine pw_iconst dX5_areAllowed_57 (v := 0) (by decide) ?_
        have e1 :  (shS h lot 1 nH s ≤ shS h lot 1 nH g) := Int32.not_lt.mp c28
        have e2 : ¬ shS h lot 1 nH s = 0 := c33
        have e3 : ¬  (h 24 (0 * 3 + 1) ≤ shS h lot 1 nH g + shS h lot 1 nH s) := Int32.not_le.mpr c50
        exact pw_iretF dX5_areAllowed_58 rfl rfl rfl (by rw [agB, decide_eq_true e1, decide_eq_true e2, decide_eq_false e3]; rfl) rfl
      · skip
        refine pw_iconst dX5_areAllowed_53 (v := 1) (by decide) ?_
        refine pw_goto dX5_areAllowed_54 (tgt := 58) (by decide) ?_
        have e1 :  (shS h lot 1 nH s ≤ shS h lot 1 nH g) := Int32.not_lt.mp c28
        have e2 : ¬ shS h lot 1 nH s = 0 := c33
        have e3 :  (h 24 (0 * 3 + 1) ≤ shS h lot 1 nH g + shS h lot 1 nH s) := Int32.not_lt.mp c50
        exact pw_iretF dX5_areAllowed_58 rfl rfl rfl (by rw [agB, decide_eq_true e1, decide_eq_true e2, decide_eq_true e3]; rfl) rfl

set_option maxRecDepth 100000 in
set_option maxHeartbeats 4000000 in
theorem sp_X5_labelRefusal {l : Launch} {G : GC} {ad : Nat → Nat} {h : HP} {nL nH nB nC : Nat} {np : Nat → Nat} {pl : Nat → Nat → Nat} (hw : WF h nL nH nB nC np pl) {lot : Nat} (hlot : lot < 24) {v g s r : Int32} : PF l G yX5_labelRefusal (.code yX5_labelRefusal cX5_labelRefusal 6 ((Option.some FieldType.int))) { frames := 4, cells := 0, slots := 0, locals := 95 } [.ref (ad 1), .int (nI lot), .int (v), .int (g), .int (s), .int (r)] SW ad (h) (some (.int (lrI h lot nH v g s r))) (h) := by
  refine PF.mk (L0 := [some (.ref (ad 1)), some (.int (nI lot)), some (.int (v)), some (.int (g)), some (.int (s)), some (.int (r))]) RX5 "labelRefusal" 0 0 (by decide +kernel) rfl rfl ⟨rfl, rfl⟩ (by simp [Value.category]) (Nat.le_of_ble_eq_true rfl) rfl ?_
  refine pw_aload_n dX5_labelRefusal_0 rfl ?_
  refine pw_iload_n dX5_labelRefusal_1 rfl ?_
  refine pw_iconst dX5_labelRefusal_2 (v := 1) (by decide) ?_
  refine pw_iload_n dX5_labelRefusal_3 rfl ?_
  refine pw_cV dX5_labelRefusal_4 (sp_X5_isAllowed hw hlot (w := 0) (by decide)) mi_X5_isAllowed mv_X5_isAllowed ml_X5_70 sh_1 rfl rfl rfl rfl ⟨rfl, rfl⟩ rfl rfl ?_
  refine pw_if_ne dX5_labelRefusal_7 (tgt := 13) (by decide) (fun c7 => ?_) (fun c7 => ?_)
  · skip
    refine pw_iload dX5_labelRefusal_13 rfl ?_
    refine pw_iconst dX5_labelRefusal_15 (v := (-1)) (by decide) ?_
    refine pw_icmp_ne dX5_labelRefusal_16 (tgt := 32) (by decide) (fun c16 => ?_) (fun c16 => ?_)
    · skip
      refine pw_aload_n dX5_labelRefusal_32 rfl ?_
      refine pw_iload_n dX5_labelRefusal_33 rfl ?_
      refine pw_iload_n dX5_labelRefusal_34 rfl ?_
      refine pw_iload dX5_labelRefusal_35 rfl ?_
      refine pw_cV dX5_labelRefusal_37 (sp_X5_areAllowed hw hlot) mi_X5_areAllowed mv_X5_areAllowed ml_X5_74 sh_1 rfl rfl rfl rfl ⟨rfl, rfl⟩ rfl rfl ?_
      refine pw_if_ne dX5_labelRefusal_40 (tgt := 46) (by decide) (fun c40 => ?_) (fun c40 => ?_)
      · skip
        have eG : lrG h lot nH g s = true := by rw [lrG, if_neg c16]; exact b2i_ne c40
        refine pw_aload_n dX5_labelRefusal_46 rfl ?_
        refine pw_iload_n dX5_labelRefusal_47 rfl ?_
        refine pw_iconst dX5_labelRefusal_48 (v := 3) (by decide) ?_
        refine pw_iload dX5_labelRefusal_49 rfl ?_
        refine pw_cV dX5_labelRefusal_51 (sp_X5_isAllowed hw hlot (w := 2) (by decide)) mi_X5_isAllowed mv_X5_isAllowed ml_X5_70 sh_1 rfl rfl rfl rfl ⟨rfl, rfl⟩ rfl rfl ?_
        refine pw_if_eq dX5_labelRefusal_54 (tgt := 61) (by decide) (fun c54 => ?_) (fun c54 => ?_)
        · skip
          refine pw_bipush dX5_labelRefusal_61 (v := 8) (by decide) ?_
          exact pw_iretF dX5_labelRefusal_63 rfl rfl rfl (by rw [lrI, if_pos (b2i_ne c7), eG, if_pos rfl, if_neg (by rw [b2i_eq c54]; decide)]) rfl
        · skip
          refine pw_iconst dX5_labelRefusal_57 (v := 0) (by decide) ?_
          refine pw_goto dX5_labelRefusal_58 (tgt := 63) (by decide) ?_
          exact pw_iretF dX5_labelRefusal_63 rfl rfl rfl (by rw [lrI, if_pos (b2i_ne c7), eG, if_pos rfl, if_pos (b2i_ne c54)]) rfl
      · skip
        have eG : lrG h lot nH g s = false := by rw [lrG, if_neg c16]; exact b2i_eq c40
        refine pw_bipush dX5_labelRefusal_43 (v := 7) (by decide) ?_
        exact pw_iretF dX5_labelRefusal_45 rfl rfl rfl (by rw [lrI, if_pos (b2i_ne c7), eG]; rfl) rfl
    · skip
      refine pw_aload_n dX5_labelRefusal_19 rfl ?_
      refine pw_iload_n dX5_labelRefusal_20 rfl ?_
      refine pw_iconst dX5_labelRefusal_21 (v := 2) (by decide) ?_
      refine pw_iload_n dX5_labelRefusal_22 rfl ?_
      refine pw_cV dX5_labelRefusal_23 (sp_X5_isAllowed hw hlot (w := 1) (by decide)) mi_X5_isAllowed mv_X5_isAllowed ml_X5_70 sh_1 rfl rfl rfl rfl ⟨rfl, rfl⟩ rfl rfl ?_
      refine pw_if_ne dX5_labelRefusal_26 (tgt := 46) (by decide) (fun c26 => ?_) (fun c26 => ?_)
      · skip
        have eG : lrG h lot nH g s = true := by rw [lrG, if_pos c16]; exact b2i_ne c26
        refine pw_aload_n dX5_labelRefusal_46 rfl ?_
        refine pw_iload_n dX5_labelRefusal_47 rfl ?_
        refine pw_iconst dX5_labelRefusal_48 (v := 3) (by decide) ?_
        refine pw_iload dX5_labelRefusal_49 rfl ?_
        refine pw_cV dX5_labelRefusal_51 (sp_X5_isAllowed hw hlot (w := 2) (by decide)) mi_X5_isAllowed mv_X5_isAllowed ml_X5_70 sh_1 rfl rfl rfl rfl ⟨rfl, rfl⟩ rfl rfl ?_
        refine pw_if_eq dX5_labelRefusal_54 (tgt := 61) (by decide) (fun c54 => ?_) (fun c54 => ?_)
        · skip
          refine pw_bipush dX5_labelRefusal_61 (v := 8) (by decide) ?_
          exact pw_iretF dX5_labelRefusal_63 rfl rfl rfl (by rw [lrI, if_pos (b2i_ne c7), eG, if_pos rfl, if_neg (by rw [b2i_eq c54]; decide)]) rfl
        · skip
          refine pw_iconst dX5_labelRefusal_57 (v := 0) (by decide) ?_
          refine pw_goto dX5_labelRefusal_58 (tgt := 63) (by decide) ?_
          exact pw_iretF dX5_labelRefusal_63 rfl rfl rfl (by rw [lrI, if_pos (b2i_ne c7), eG, if_pos rfl, if_pos (b2i_ne c54)]) rfl
      · skip
        refine pw_goto dX5_labelRefusal_29 (tgt := 43) (by decide) ?_
        have eG : lrG h lot nH g s = false := by rw [lrG, if_pos c16]; exact b2i_eq c26
        refine pw_bipush dX5_labelRefusal_43 (v := 7) (by decide) ?_
        exact pw_iretF dX5_labelRefusal_45 rfl rfl rfl (by rw [lrI, if_pos (b2i_ne c7), eG]; rfl) rfl
  · skip
    refine pw_bipush dX5_labelRefusal_10 (v := 6) (by decide) ?_
    exact pw_iretF dX5_labelRefusal_12 rfl rfl rfl (by rw [lrI, if_neg (by rw [b2i_eq c7]; decide)]) rfl

set_option maxRecDepth 100000 in
set_option maxHeartbeats 4000000 in
theorem sp_X5_bottlingRefusal {l : Launch} {G : GC} {ad : Nat → Nat} {h : HP} {nL nH nB nC : Nat} {np : Nat → Nat} {pl : Nat → Nat → Nat} (hw : WF h nL nH nB nC np pl) {lot : Nat} (hlot : lot < 24) {b v g s r : Int32} : PF l G yX5_bottlingRefusal (.code yX5_bottlingRefusal cX5_bottlingRefusal 8 ((Option.some FieldType.int))) { frames := 5, cells := 0, slots := 0, locals := 120 } [.ref (ad 1), .int (nI lot), .int (b), .int (v), .int (g), .int (s), .int (r)] SW ad (h) (some (.int (brI h lot nH nB b v g s r))) (h) := by
  refine PF.mk (L0 := [some (.ref (ad 1)), some (.int (nI lot)), some (.int (b)), some (.int (v)), some (.int (g)), some (.int (s)), some (.int (r)), none]) RX5 "bottlingRefusal" 0 0 (by decide +kernel) rfl rfl ⟨rfl, rfl⟩ (by simp [Value.category]) (Nat.le_of_ble_eq_true rfl) rfl ?_
  refine pw_aload_n dX5_bottlingRefusal_0 rfl ?_
  refine pw_getr dX5_bottlingRefusal_1 lf_X5_12 sh_1 rfl ?_
  refine pw_iload_n dX5_bottlingRefusal_4 rfl ?_
  refine pw_cV dX5_bottlingRefusal_5 (sp_X4_leftIn hlot) mi_X4_leftIn mv_X4_leftIn ml_X5_58 sh_2 rfl rfl rfl rfl ⟨rfl, rfl⟩ rfl rfl ?_
  refine pw_iload_n dX5_bottlingRefusal_8 rfl ?_
  refine pw_iconst dX5_bottlingRefusal_9 (v := 3) (by decide) ?_
  refine pw_imul dX5_bottlingRefusal_10 ?_
  refine pw_icmp_ge dX5_bottlingRefusal_11 (tgt := 16) (by decide) (fun c11 => ?_) (fun c11 => ?_)
  · skip
    refine pw_aload_n dX5_bottlingRefusal_16 rfl ?_
    refine pw_iload_n dX5_bottlingRefusal_17 rfl ?_
    refine pw_iload_n dX5_bottlingRefusal_18 rfl ?_
    refine pw_iload dX5_bottlingRefusal_19 rfl ?_
    refine pw_iload dX5_bottlingRefusal_21 rfl ?_
    refine pw_iload dX5_bottlingRefusal_23 rfl ?_
    refine pw_cV dX5_bottlingRefusal_25 (sp_X5_labelRefusal hw hlot) mi_X5_labelRefusal mv_X5_labelRefusal ml_X5_62 sh_1 rfl rfl rfl rfl ⟨rfl, rfl⟩ rfl rfl ?_
    refine pw_istore dX5_bottlingRefusal_28 (by decide) rfl ?_
    refine pw_iload dX5_bottlingRefusal_30 rfl ?_
    refine pw_if_eq dX5_bottlingRefusal_32 (tgt := 38) (by decide) (fun c32 => ?_) (fun c32 => ?_)
    · skip
      refine pw_aload_n dX5_bottlingRefusal_38 rfl ?_
      refine pw_getr dX5_bottlingRefusal_39 lf_X5_21 sh_1 rfl ?_
      refine pw_geti dX5_bottlingRefusal_42 lf_X5_66 sh_13 rfl ?_
      refine pw_bipush dX5_bottlingRefusal_45 (v := 16) (by decide) ?_
      refine pw_icmp_lt dX5_bottlingRefusal_47 (tgt := 55) (by decide) (fun c47 => ?_) (fun c47 => ?_)
      · skip
        refine pw_iconst dX5_bottlingRefusal_55 (v := 0) (by decide) ?_
        exact pw_iretF dX5_bottlingRefusal_56 rfl rfl rfl (by rw [brI, if_neg (Int32.not_lt.mpr c11), if_pos c32, if_pos (by rw [← hw.2.2.1.1]; exact c47)]) rfl
      · skip
        refine pw_bipush dX5_bottlingRefusal_50 (v := 9) (by decide) ?_
        refine pw_goto dX5_bottlingRefusal_52 (tgt := 56) (by decide) ?_
        exact pw_iretF dX5_bottlingRefusal_56 rfl rfl rfl (by rw [brI, if_neg (Int32.not_lt.mpr c11), if_pos c32, if_neg (by rw [← hw.2.2.1.1]; exact c47)]) rfl
    · skip
      refine pw_iload dX5_bottlingRefusal_35 rfl ?_
      exact pw_iretF dX5_bottlingRefusal_37 rfl rfl rfl (by rw [brI, if_neg (Int32.not_lt.mpr c11), if_neg c32]) rfl
  · skip
    refine pw_iconst dX5_bottlingRefusal_14 (v := 5) (by decide) ?_
    exact pw_iretF dX5_bottlingRefusal_15 rfl rfl rfl (by rw [brI, if_pos (Int32.not_le.mp c11)]) rfl

set_option maxRecDepth 100000 in
set_option maxHeartbeats 4000000 in
theorem sp_X5_isLabelAllowed {l : Launch} {G : GC} {ad : Nat → Nat} {h : HP} {nL nH nB nC : Nat} {np : Nat → Nat} {pl : Nat → Nat → Nat} (hw : WF h nL nH nB nC np pl) {b lot : Nat} (hb : b < 16) (hbl : h 15 (b * 7 + 0) = nI lot) (hlot : lot < 24) : PF l G yX5_isLabelAllowed (.code yX5_isLabelAllowed cX5_isLabelAllowed 3 ((Option.some FieldType.boolean))) { frames := 5, cells := 0, slots := 0, locals := 120 } [.ref (ad 1), .int (nI b)] SW ad (h) (some (.int (b2i (decide (lrI h lot nH (h 15 (b * 7 + 3)) (h 15 (b * 7 + 4)) (h 15 (b * 7 + 5)) (h 15 (b * 7 + 6)) = 0))))) (h) := by
  refine PF.mk (L0 := [some (.ref (ad 1)), some (.int (nI b)), none]) RX5 "isLabelAllowed" 0 0 (by decide +kernel) rfl rfl ⟨rfl, rfl⟩ (by simp [Value.category]) (Nat.le_of_ble_eq_true rfl) rfl ?_
  refine pw_aload_n dX5_isLabelAllowed_0 rfl ?_
  refine pw_getr dX5_isLabelAllowed_1 lf_X5_21 sh_1 rfl ?_
  refine pw_getr dX5_isLabelAllowed_4 lf_X5_85 sh_13 rfl ?_
  refine pw_astore_n dX5_isLabelAllowed_7 (by decide) rfl ?_
  refine pw_aload_n dX5_isLabelAllowed_8 rfl ?_
  refine pw_aload_n dX5_isLabelAllowed_9 rfl ?_
  refine pw_getr dX5_isLabelAllowed_10 lf_X5_21 sh_1 rfl ?_
  refine pw_iload_n dX5_isLabelAllowed_13 rfl ?_
  refine pw_cV dX5_isLabelAllowed_14 (sp_X0_lotOf hb) mi_X0_lotOf mv_X0_lotOf ml_X5_88 sh_13 rfl rfl rfl rfl ⟨rfl, rfl⟩ rfl rfl ?_
  rw [hbl]
  refine pw_aload_n dX5_isLabelAllowed_17 rfl ?_
  refine pw_iload_n dX5_isLabelAllowed_18 rfl ?_
  refine pw_iconst dX5_isLabelAllowed_19 (v := 3) (by decide) ?_
  refine pw_cV dX5_isLabelAllowed_20 (sp_X6_at tq_14 (r := b) (k := 3) rfl rfl (hb) (by decide)) mi_X6_at mv_X6_at ml_X5_81 sh_14 rfl rfl rfl rfl ⟨rfl, rfl⟩ rfl rfl ?_
  refine pw_aload_n dX5_isLabelAllowed_23 rfl ?_
  refine pw_iload_n dX5_isLabelAllowed_24 rfl ?_
  refine pw_iconst dX5_isLabelAllowed_25 (v := 4) (by decide) ?_
  refine pw_cV dX5_isLabelAllowed_26 (sp_X6_at tq_14 (r := b) (k := 4) rfl rfl (hb) (by decide)) mi_X6_at mv_X6_at ml_X5_81 sh_14 rfl rfl rfl rfl ⟨rfl, rfl⟩ rfl rfl ?_
  refine pw_aload_n dX5_isLabelAllowed_29 rfl ?_
  refine pw_iload_n dX5_isLabelAllowed_30 rfl ?_
  refine pw_iconst dX5_isLabelAllowed_31 (v := 5) (by decide) ?_
  refine pw_cV dX5_isLabelAllowed_32 (sp_X6_at tq_14 (r := b) (k := 5) rfl rfl (hb) (by decide)) mi_X6_at mv_X6_at ml_X5_81 sh_14 rfl rfl rfl rfl ⟨rfl, rfl⟩ rfl rfl ?_
  refine pw_aload_n dX5_isLabelAllowed_35 rfl ?_
  refine pw_iload_n dX5_isLabelAllowed_36 rfl ?_
  refine pw_bipush dX5_isLabelAllowed_37 (v := 6) (by decide) ?_
  refine pw_cV dX5_isLabelAllowed_39 (sp_X6_at tq_14 (r := b) (k := 6) rfl rfl (hb) (by decide)) mi_X6_at mv_X6_at ml_X5_81 sh_14 rfl rfl rfl rfl ⟨rfl, rfl⟩ rfl rfl ?_
  refine pw_cV dX5_isLabelAllowed_42 (sp_X5_labelRefusal hw hlot) mi_X5_labelRefusal mv_X5_labelRefusal ml_X5_62 sh_1 rfl rfl rfl rfl ⟨rfl, rfl⟩ rfl rfl ?_
  refine pw_if_ne dX5_isLabelAllowed_45 (tgt := 52) (by decide) (fun c45 => ?_) (fun c45 => ?_)
  · skip
    refine pw_iconst dX5_isLabelAllowed_52 (v := 0) (by decide) ?_
    exact pw_iretF dX5_isLabelAllowed_53 rfl rfl rfl (by rw [decide_eq_false c45]; rfl) rfl
  · skip
    refine pw_iconst dX5_isLabelAllowed_48 (v := 1) (by decide) ?_
    refine pw_goto dX5_isLabelAllowed_49 (tgt := 53) (by decide) ?_
    exact pw_iretF dX5_isLabelAllowed_53 rfl rfl rfl (by rw [decide_eq_true c45]; rfl) rfl

