/-! THE BOOK'S CALLS, part 2 -/
def wisH (h : HP) (c b : Nat) (q : Int32) : HP := hput h 22 (c * 16 + b) q
def gbkH (h : HP) (c b : Nat) (q : Int32) : HP := hput (hput (hput h 15 (b * 7 + 2) (h 15 (b * 7 + 2) + q)) 20 (c * 16 + b) (h 20 (c * 16 + b) + (-q))) 22 (c * 16 + b) (mnI (h 20 (c * 16 + b) + (-q)) (h 22 (c * 16 + b)))
set_option maxRecDepth 100000 in
set_option maxHeartbeats 4000000 in
theorem sp_X7_setLaw_no1 {l : Launch} {G : GC} {ad : Nat → Nat} (hfl : l.stackTraces = false) {h : HP} {m q : Int32} (e : wiB m 0 (3 - 1) = false) : PT l G yX7_setLaw (.code yX7_setLaw cX7_setLaw 4 ((Option.some FieldType.int))) { frames := 7, cells := 2, slots := 12, locals := 125 } [.ref (ad 0), .int (m), .int (q)] SW ad (h) (.inr "java/lang/IndexOutOfBoundsException") (h) := by
  refine PT.mk (L0 := [some (.ref (ad 0)), some (.int (m)), some (.int (q)), none]) RX7 "setLaw" 2 12 (by decide +kernel) rfl rfl ⟨rfl, rfl⟩ (by simp [Value.category]) (Nat.le_of_ble_eq_true rfl) rfl ?_
  refine pw_iload_n dX7_setLaw_0 rfl ?_
  refine pw_iconst dX7_setLaw_1 (v := 3) (by decide) ?_
  refine pw_flS dX7_setLaw_2 (sp_X7_requirePlace_no hfl e) mi_X7_requirePlace ms_X7_requirePlace ml_X7_196 rfl rfl rfl rfl ?_
  exact px_outT rfl rfl rfl rfl

set_option maxRecDepth 100000 in
set_option maxHeartbeats 4000000 in
theorem sp_X7_setLaw_no2 {l : Launch} {G : GC} {ad : Nat → Nat} (hfl : l.stackTraces = false) {h : HP} {m q : Int32} (e : wiB m 0 (3 - 1) = true) (e2 : wiB q 500 1000 = false) : PT l G yX7_setLaw (.code yX7_setLaw cX7_setLaw 4 ((Option.some FieldType.int))) { frames := 7, cells := 2, slots := 12, locals := 125 } [.ref (ad 0), .int (m), .int (q)] SW ad (h) (.inr "java/lang/IllegalArgumentException") (h) := by
  refine PT.mk (L0 := [some (.ref (ad 0)), some (.int (m)), some (.int (q)), none]) RX7 "setLaw" 2 12 (by decide +kernel) rfl rfl ⟨rfl, rfl⟩ (by simp [Value.category]) (Nat.le_of_ble_eq_true rfl) rfl ?_
  refine pw_iload_n dX7_setLaw_0 rfl ?_
  refine pw_iconst dX7_setLaw_1 (v := 3) (by decide) ?_
  refine pw_okS dX7_setLaw_2 (sp_X7_requirePlace_ok hfl e) mi_X7_requirePlace ms_X7_requirePlace ml_X7_196 rfl rfl rfl rfl ?_
  refine pw_iload_n dX7_setLaw_5 rfl ?_
  refine pw_sipush dX7_setLaw_6 (v := 500) (by decide) ?_
  refine pw_sipush dX7_setLaw_9 (v := 1000) (by decide) ?_
  refine pw_flS dX7_setLaw_12 (sp_X7_requireNumber_no hfl e2) mi_X7_requireNumber ms_X7_requireNumber ml_X7_59 rfl rfl rfl rfl ?_
  exact px_outT rfl rfl rfl rfl

set_option maxRecDepth 100000 in
set_option maxHeartbeats 4000000 in
theorem sp_X7_setLaw_ok {l : Launch} {G : GC} {ad : Nat → Nat} (hfl : l.stackTraces = false) {h : HP} {q : Int32} {j : Nat} (hj : j < 3) {k c : Nat} (hk : h 49 1 = nI k) (hk8 : k < 8) (hc : h 49 2 = nI c) (hc8 : c ≤ 8) (e2 : wiB q 500 1000 = true) : PT l G yX7_setLaw (.code yX7_setLaw cX7_setLaw 4 ((Option.some FieldType.int))) { frames := 7, cells := 2, slots := 12, locals := 125 } [.ref (ad 0), .int (nI j), .int (q)] SW ad (h) (.inl (some (.int (h 24 (0 * 3 + j))))) (hput (remH h 1 k c) 24 (0 * 3 + j) q) := by
  refine PT.mk (L0 := [some (.ref (ad 0)), some (.int (nI j)), some (.int (q)), none]) RX7 "setLaw" 2 12 (by decide +kernel) rfl rfl ⟨rfl, rfl⟩ (by simp [Value.category]) (Nat.le_of_ble_eq_true rfl) rfl ?_
  refine pw_iload_n dX7_setLaw_0 rfl ?_
  refine pw_iconst dX7_setLaw_1 (v := 3) (by decide) ?_
  refine pw_okS dX7_setLaw_2 (sp_X7_requirePlace_ok hfl (wi_ok (x := 3) (N := 3) rfl hj (by decide))) mi_X7_requirePlace ms_X7_requirePlace ml_X7_196 rfl rfl rfl rfl ?_
  refine pw_iload_n dX7_setLaw_5 rfl ?_
  refine pw_sipush dX7_setLaw_6 (v := 500) (by decide) ?_
  refine pw_sipush dX7_setLaw_9 (v := 1000) (by decide) ?_
  refine pw_okS dX7_setLaw_12 (sp_X7_requireNumber_ok hfl e2) mi_X7_requireNumber ms_X7_requireNumber ml_X7_59 rfl rfl rfl rfl ?_
  refine pw_aload_n dX7_setLaw_15 rfl ?_
  refine pw_getr dX7_setLaw_16 lf_X7_22 sh_0 rfl ?_
  refine pw_aload_n dX7_setLaw_19 rfl ?_
  refine pw_getr dX7_setLaw_20 lf_X7_10 sh_0 rfl ?_
  refine pw_cVn dX7_setLaw_23 (sp_X2_remember st_1 hk hk8 hc hc8) mi_X2_remember mv_X2_remember ml_X7_82 sh_49 rfl rfl rfl rfl ⟨rfl, rfl⟩ rfl rfl ?_
  refine pw_aload_n dX7_setLaw_26 rfl ?_
  refine pw_getr dX7_setLaw_27 lf_X7_10 sh_0 rfl ?_
  refine pw_getr dX7_setLaw_30 lf_X7_199 sh_1 rfl ?_
  refine pw_iconst dX7_setLaw_33 (v := 0) (by decide) ?_
  refine pw_iload_n dX7_setLaw_34 rfl ?_
  refine pw_cV dX7_setLaw_35 (sp_X6_at tq_23 (r := 0) (k := j) rfl rfl (by decide) (hj)) mi_X6_at mv_X6_at ml_X7_155 sh_23 rfl rfl rfl rfl ⟨rfl, rfl⟩ rfl rfl ?_
  refine pw_istore_n dX7_setLaw_38 (by decide) rfl ?_
  refine pw_aload_n dX7_setLaw_39 rfl ?_
  refine pw_getr dX7_setLaw_40 lf_X7_10 sh_0 rfl ?_
  refine pw_getr dX7_setLaw_43 lf_X7_199 sh_1 rfl ?_
  refine pw_iconst dX7_setLaw_46 (v := 0) (by decide) ?_
  refine pw_iload_n dX7_setLaw_47 rfl ?_
  refine pw_iload_n dX7_setLaw_48 rfl ?_
  refine pw_cVn dX7_setLaw_49 (sp_X6_put tq_23 (r := 0) (k := j) rfl rfl (by decide) (hj)) mi_X6_put mv_X6_put ml_X7_202 sh_23 rfl rfl rfl rfl ⟨rfl, rfl⟩ rfl rfl ?_
  refine pw_iload_n dX7_setLaw_52 rfl ?_
  exact pw_iretT dX7_setLaw_53 rfl rfl rfl (by rw [remH_o h 1 k c hk8 (Or.inl (by decide))]) rfl

set_option maxRecDepth 100000 in
set_option maxHeartbeats 4000000 in
theorem sp_X7_bottle_no1 {l : Launch} {G : GC} {ad : Nat → Nat} (hfl : l.stackTraces = false) {h : HP} {q v g s r : Int32} {n : Int32} (e1 : wiB n 0 (h 2 5 - 1) = false) : PT l G yX7_bottle (.code yX7_bottle cX7_bottle 8 ((Option.some FieldType.int))) { frames := 8, cells := 8, slots := 48, locals := 147 } [.ref (ad 0), .int (n), .int (q), .int (v), .int (g), .int (s), .int (r)] SW ad (h) (.inr "java/lang/IndexOutOfBoundsException") (h) := by
  refine PT.mk (L0 := [some (.ref (ad 0)), some (.int (n)), some (.int (q)), some (.int (v)), some (.int (g)), some (.int (s)), some (.int (r)), none]) RX7 "bottle" 8 48 (by decide +kernel) rfl rfl ⟨rfl, rfl⟩ (by simp [Value.category]) (Nat.le_of_ble_eq_true rfl) rfl ?_
  refine pw_aload_n dX7_bottle_0 rfl ?_
  refine pw_iload_n dX7_bottle_1 rfl ?_
  refine pw_flV dX7_bottle_2 (sp_X7_requireLot_no hfl e1) mi_X7_requireLot mv_X7_requireLot ml_X7_122 sh_0 rfl rfl rfl rfl rfl rfl ?_
  exact px_outT rfl rfl rfl rfl

set_option maxRecDepth 100000 in
set_option maxHeartbeats 4000000 in
theorem sp_X7_bottle_no2 {l : Launch} {G : GC} {ad : Nat → Nat} (hfl : l.stackTraces = false) {h : HP} {nL nH nB nC : Nat} {np : Nat → Nat} {pl : Nat → Nat → Nat} (hw : WF h nL nH nB nC np pl) {q v g s r : Int32} {lot : Nat} (hlot : lot < nL) (e : wiB q 1 3333 = false) : PT l G yX7_bottle (.code yX7_bottle cX7_bottle 8 ((Option.some FieldType.int))) { frames := 8, cells := 8, slots := 48, locals := 147 } [.ref (ad 0), .int (nI lot), .int (q), .int (v), .int (g), .int (s), .int (r)] SW ad (h) (.inr "java/lang/IllegalArgumentException") (h) := by
  refine PT.mk (L0 := [some (.ref (ad 0)), some (.int (nI lot)), some (.int (q)), some (.int (v)), some (.int (g)), some (.int (s)), some (.int (r)), none]) RX7 "bottle" 8 48 (by decide +kernel) rfl rfl ⟨rfl, rfl⟩ (by simp [Value.category]) (Nat.le_of_ble_eq_true rfl) rfl ?_
  have hb1 := hw.1.2
  have hlot24 : lot < 24 := by omega
  refine pw_aload_n dX7_bottle_0 rfl ?_
  refine pw_iload_n dX7_bottle_1 rfl ?_
  refine pw_okV dX7_bottle_2 (sp_X7_requireLot_ok hfl (wi_ok hw.1.1 hlot (by have := hw.1.2; omega))) mi_X7_requireLot mv_X7_requireLot ml_X7_122 sh_0 rfl rfl rfl rfl rfl rfl ?_
  refine pw_iload_n dX7_bottle_5 rfl ?_
  refine pw_iconst dX7_bottle_6 (v := 1) (by decide) ?_
  refine pw_sipush dX7_bottle_7 (v := 3333) (by decide) ?_
  refine pw_flS dX7_bottle_10 (sp_X7_requireNumber_no hfl e) mi_X7_requireNumber ms_X7_requireNumber ml_X7_59 rfl rfl rfl rfl ?_
  exact px_outT rfl rfl rfl rfl

set_option maxRecDepth 100000 in
set_option maxHeartbeats 4000000 in
theorem sp_X7_bottle_no31 {l : Launch} {G : GC} {ad : Nat → Nat} (hfl : l.stackTraces = false) {h : HP} {nL nH nB nC : Nat} {np : Nat → Nat} {pl : Nat → Nat → Nat} (hw : WF h nL nH nB nC np pl) {q v g s r : Int32} {lot : Nat} (hlot : lot < nL) (e : wiB q 1 3333 = true) (e1 : wiB v (-1) 99 = false) : PT l G yX7_bottle (.code yX7_bottle cX7_bottle 8 ((Option.some FieldType.int))) { frames := 8, cells := 8, slots := 48, locals := 147 } [.ref (ad 0), .int (nI lot), .int (q), .int (v), .int (g), .int (s), .int (r)] SW ad (h) (.inr "java/lang/IllegalArgumentException") (h) := by
  refine PT.mk (L0 := [some (.ref (ad 0)), some (.int (nI lot)), some (.int (q)), some (.int (v)), some (.int (g)), some (.int (s)), some (.int (r)), none]) RX7 "bottle" 8 48 (by decide +kernel) rfl rfl ⟨rfl, rfl⟩ (by simp [Value.category]) (Nat.le_of_ble_eq_true rfl) rfl ?_
  have hb1 := hw.1.2
  have hlot24 : lot < 24 := by omega
  refine pw_aload_n dX7_bottle_0 rfl ?_
  refine pw_iload_n dX7_bottle_1 rfl ?_
  refine pw_okV dX7_bottle_2 (sp_X7_requireLot_ok hfl (wi_ok hw.1.1 hlot (by have := hw.1.2; omega))) mi_X7_requireLot mv_X7_requireLot ml_X7_122 sh_0 rfl rfl rfl rfl rfl rfl ?_
  refine pw_iload_n dX7_bottle_5 rfl ?_
  refine pw_iconst dX7_bottle_6 (v := 1) (by decide) ?_
  refine pw_sipush dX7_bottle_7 (v := 3333) (by decide) ?_
  refine pw_okS dX7_bottle_10 (sp_X7_requireNumber_ok hfl e) mi_X7_requireNumber ms_X7_requireNumber ml_X7_59 rfl rfl rfl rfl ?_
  refine pw_iload_n dX7_bottle_13 rfl ?_
  refine pw_iload dX7_bottle_14 rfl ?_
  refine pw_iload dX7_bottle_16 rfl ?_
  refine pw_iload dX7_bottle_18 rfl ?_
  refine pw_flS dX7_bottle_20 (sp_X7_requireLabel_no1 hfl e1) mi_X7_requireLabel ms_X7_requireLabel ml_X7_205 rfl rfl rfl rfl ?_
  exact px_outT rfl rfl rfl rfl

set_option maxRecDepth 100000 in
set_option maxHeartbeats 4000000 in
theorem sp_X7_bottle_no32 {l : Launch} {G : GC} {ad : Nat → Nat} (hfl : l.stackTraces = false) {h : HP} {nL nH nB nC : Nat} {np : Nat → Nat} {pl : Nat → Nat → Nat} (hw : WF h nL nH nB nC np pl) {q v g s r : Int32} {lot : Nat} (hlot : lot < nL) (e : wiB q 1 3333 = true) (e1 : wiB v (-1) 99 = true) (e2 : wiB g (-1) 4 = false) : PT l G yX7_bottle (.code yX7_bottle cX7_bottle 8 ((Option.some FieldType.int))) { frames := 8, cells := 8, slots := 48, locals := 147 } [.ref (ad 0), .int (nI lot), .int (q), .int (v), .int (g), .int (s), .int (r)] SW ad (h) (.inr "java/lang/IllegalArgumentException") (h) := by
  refine PT.mk (L0 := [some (.ref (ad 0)), some (.int (nI lot)), some (.int (q)), some (.int (v)), some (.int (g)), some (.int (s)), some (.int (r)), none]) RX7 "bottle" 8 48 (by decide +kernel) rfl rfl ⟨rfl, rfl⟩ (by simp [Value.category]) (Nat.le_of_ble_eq_true rfl) rfl ?_
  have hb1 := hw.1.2
  have hlot24 : lot < 24 := by omega
  refine pw_aload_n dX7_bottle_0 rfl ?_
  refine pw_iload_n dX7_bottle_1 rfl ?_
  refine pw_okV dX7_bottle_2 (sp_X7_requireLot_ok hfl (wi_ok hw.1.1 hlot (by have := hw.1.2; omega))) mi_X7_requireLot mv_X7_requireLot ml_X7_122 sh_0 rfl rfl rfl rfl rfl rfl ?_
  refine pw_iload_n dX7_bottle_5 rfl ?_
  refine pw_iconst dX7_bottle_6 (v := 1) (by decide) ?_
  refine pw_sipush dX7_bottle_7 (v := 3333) (by decide) ?_
  refine pw_okS dX7_bottle_10 (sp_X7_requireNumber_ok hfl e) mi_X7_requireNumber ms_X7_requireNumber ml_X7_59 rfl rfl rfl rfl ?_
  refine pw_iload_n dX7_bottle_13 rfl ?_
  refine pw_iload dX7_bottle_14 rfl ?_
  refine pw_iload dX7_bottle_16 rfl ?_
  refine pw_iload dX7_bottle_18 rfl ?_
  refine pw_flS dX7_bottle_20 (sp_X7_requireLabel_no2 hfl e1 e2) mi_X7_requireLabel ms_X7_requireLabel ml_X7_205 rfl rfl rfl rfl ?_
  exact px_outT rfl rfl rfl rfl

set_option maxRecDepth 100000 in
set_option maxHeartbeats 4000000 in
theorem sp_X7_bottle_no33 {l : Launch} {G : GC} {ad : Nat → Nat} (hfl : l.stackTraces = false) {h : HP} {nL nH nB nC : Nat} {np : Nat → Nat} {pl : Nat → Nat → Nat} (hw : WF h nL nH nB nC np pl) {q v g s r : Int32} {lot : Nat} (hlot : lot < nL) (e : wiB q 1 3333 = true) (e1 : wiB v (-1) 99 = true) (e2 : wiB g (-1) 4 = true) (e3 : wiB s (-1) 4 = false) : PT l G yX7_bottle (.code yX7_bottle cX7_bottle 8 ((Option.some FieldType.int))) { frames := 8, cells := 8, slots := 48, locals := 147 } [.ref (ad 0), .int (nI lot), .int (q), .int (v), .int (g), .int (s), .int (r)] SW ad (h) (.inr "java/lang/IllegalArgumentException") (h) := by
  refine PT.mk (L0 := [some (.ref (ad 0)), some (.int (nI lot)), some (.int (q)), some (.int (v)), some (.int (g)), some (.int (s)), some (.int (r)), none]) RX7 "bottle" 8 48 (by decide +kernel) rfl rfl ⟨rfl, rfl⟩ (by simp [Value.category]) (Nat.le_of_ble_eq_true rfl) rfl ?_
  have hb1 := hw.1.2
  have hlot24 : lot < 24 := by omega
  refine pw_aload_n dX7_bottle_0 rfl ?_
  refine pw_iload_n dX7_bottle_1 rfl ?_
  refine pw_okV dX7_bottle_2 (sp_X7_requireLot_ok hfl (wi_ok hw.1.1 hlot (by have := hw.1.2; omega))) mi_X7_requireLot mv_X7_requireLot ml_X7_122 sh_0 rfl rfl rfl rfl rfl rfl ?_
  refine pw_iload_n dX7_bottle_5 rfl ?_
  refine pw_iconst dX7_bottle_6 (v := 1) (by decide) ?_
  refine pw_sipush dX7_bottle_7 (v := 3333) (by decide) ?_
  refine pw_okS dX7_bottle_10 (sp_X7_requireNumber_ok hfl e) mi_X7_requireNumber ms_X7_requireNumber ml_X7_59 rfl rfl rfl rfl ?_
  refine pw_iload_n dX7_bottle_13 rfl ?_
  refine pw_iload dX7_bottle_14 rfl ?_
  refine pw_iload dX7_bottle_16 rfl ?_
  refine pw_iload dX7_bottle_18 rfl ?_
  refine pw_flS dX7_bottle_20 (sp_X7_requireLabel_no3 hfl e1 e2 e3) mi_X7_requireLabel ms_X7_requireLabel ml_X7_205 rfl rfl rfl rfl ?_
  exact px_outT rfl rfl rfl rfl

set_option maxRecDepth 100000 in
set_option maxHeartbeats 4000000 in
theorem sp_X7_bottle_no34 {l : Launch} {G : GC} {ad : Nat → Nat} (hfl : l.stackTraces = false) {h : HP} {nL nH nB nC : Nat} {np : Nat → Nat} {pl : Nat → Nat → Nat} (hw : WF h nL nH nB nC np pl) {q v g s r : Int32} {lot : Nat} (hlot : lot < nL) (e : wiB q 1 3333 = true) (e1 : wiB v (-1) 99 = true) (e2 : wiB g (-1) 4 = true) (e3 : wiB s (-1) 4 = true) (e4 : wiB r (-1) 3 = false) : PT l G yX7_bottle (.code yX7_bottle cX7_bottle 8 ((Option.some FieldType.int))) { frames := 8, cells := 8, slots := 48, locals := 147 } [.ref (ad 0), .int (nI lot), .int (q), .int (v), .int (g), .int (s), .int (r)] SW ad (h) (.inr "java/lang/IllegalArgumentException") (h) := by
  refine PT.mk (L0 := [some (.ref (ad 0)), some (.int (nI lot)), some (.int (q)), some (.int (v)), some (.int (g)), some (.int (s)), some (.int (r)), none]) RX7 "bottle" 8 48 (by decide +kernel) rfl rfl ⟨rfl, rfl⟩ (by simp [Value.category]) (Nat.le_of_ble_eq_true rfl) rfl ?_
  have hb1 := hw.1.2
  have hlot24 : lot < 24 := by omega
  refine pw_aload_n dX7_bottle_0 rfl ?_
  refine pw_iload_n dX7_bottle_1 rfl ?_
  refine pw_okV dX7_bottle_2 (sp_X7_requireLot_ok hfl (wi_ok hw.1.1 hlot (by have := hw.1.2; omega))) mi_X7_requireLot mv_X7_requireLot ml_X7_122 sh_0 rfl rfl rfl rfl rfl rfl ?_
  refine pw_iload_n dX7_bottle_5 rfl ?_
  refine pw_iconst dX7_bottle_6 (v := 1) (by decide) ?_
  refine pw_sipush dX7_bottle_7 (v := 3333) (by decide) ?_
  refine pw_okS dX7_bottle_10 (sp_X7_requireNumber_ok hfl e) mi_X7_requireNumber ms_X7_requireNumber ml_X7_59 rfl rfl rfl rfl ?_
  refine pw_iload_n dX7_bottle_13 rfl ?_
  refine pw_iload dX7_bottle_14 rfl ?_
  refine pw_iload dX7_bottle_16 rfl ?_
  refine pw_iload dX7_bottle_18 rfl ?_
  refine pw_flS dX7_bottle_20 (sp_X7_requireLabel_no4 hfl e1 e2 e3 e4) mi_X7_requireLabel ms_X7_requireLabel ml_X7_205 rfl rfl rfl rfl ?_
  exact px_outT rfl rfl rfl rfl

set_option maxRecDepth 100000 in
set_option maxHeartbeats 4000000 in
theorem sp_X7_bottle_no35 {l : Launch} {G : GC} {ad : Nat → Nat} (hfl : l.stackTraces = false) {h : HP} {nL nH nB nC : Nat} {np : Nat → Nat} {pl : Nat → Nat → Nat} (hw : WF h nL nH nB nC np pl) {q v g s r : Int32} {lot : Nat} (hlot : lot < nL) (e : wiB q 1 3333 = true)  (e1 : wiB v (-1) 99 = true) (e2 : wiB g (-1) 4 = true) (e3 : wiB s (-1) 4 = true) (e4 : wiB r (-1) 3 = true) (e5 : ¬ (s = -1 ∨ (¬ g = -1 ∧ ¬ g = s))) : PT l G yX7_bottle (.code yX7_bottle cX7_bottle 8 ((Option.some FieldType.int))) { frames := 8, cells := 8, slots := 48, locals := 147 } [.ref (ad 0), .int (nI lot), .int (q), .int (v), .int (g), .int (s), .int (r)] SW ad (h) (.inr "java/lang/IllegalArgumentException") (h) := by
  refine PT.mk (L0 := [some (.ref (ad 0)), some (.int (nI lot)), some (.int (q)), some (.int (v)), some (.int (g)), some (.int (s)), some (.int (r)), none]) RX7 "bottle" 8 48 (by decide +kernel) rfl rfl ⟨rfl, rfl⟩ (by simp [Value.category]) (Nat.le_of_ble_eq_true rfl) rfl ?_
  have hb1 := hw.1.2
  have hlot24 : lot < 24 := by omega
  refine pw_aload_n dX7_bottle_0 rfl ?_
  refine pw_iload_n dX7_bottle_1 rfl ?_
  refine pw_okV dX7_bottle_2 (sp_X7_requireLot_ok hfl (wi_ok hw.1.1 hlot (by have := hw.1.2; omega))) mi_X7_requireLot mv_X7_requireLot ml_X7_122 sh_0 rfl rfl rfl rfl rfl rfl ?_
  refine pw_iload_n dX7_bottle_5 rfl ?_
  refine pw_iconst dX7_bottle_6 (v := 1) (by decide) ?_
  refine pw_sipush dX7_bottle_7 (v := 3333) (by decide) ?_
  refine pw_okS dX7_bottle_10 (sp_X7_requireNumber_ok hfl e) mi_X7_requireNumber ms_X7_requireNumber ml_X7_59 rfl rfl rfl rfl ?_
  refine pw_iload_n dX7_bottle_13 rfl ?_
  refine pw_iload dX7_bottle_14 rfl ?_
  refine pw_iload dX7_bottle_16 rfl ?_
  refine pw_iload dX7_bottle_18 rfl ?_
  refine pw_flS dX7_bottle_20 (sp_X7_requireLabel_no5 hfl e1 e2 e3 e4 e5) mi_X7_requireLabel ms_X7_requireLabel ml_X7_205 rfl rfl rfl rfl ?_
  exact px_outT rfl rfl rfl rfl

set_option maxRecDepth 100000 in
set_option maxHeartbeats 4000000 in
theorem sp_X7_bottle_ref {l : Launch} {G : GC} {ad : Nat → Nat} (hfl : l.stackTraces = false) {h : HP} {nL nH nB nC : Nat} {np : Nat → Nat} {pl : Nat → Nat → Nat} (hw : WF h nL nH nB nC np pl) {q v g s r : Int32} {lot : Nat} (hlot : lot < nL) (e : wiB q 1 3333 = true)  (e1 : wiB v (-1) 99 = true) (e2 : wiB g (-1) 4 = true) (e3 : wiB s (-1) 4 = true) (e4 : wiB r (-1) 3 = true) (e5 : s = -1 ∨ (¬ g = -1 ∧ ¬ g = s)) (e6 : ¬ brI h lot nH nB q v g s r = 0) : PT l G yX7_bottle (.code yX7_bottle cX7_bottle 8 ((Option.some FieldType.int))) { frames := 8, cells := 8, slots := 48, locals := 147 } [.ref (ad 0), .int (nI lot), .int (q), .int (v), .int (g), .int (s), .int (r)] SW ad (h) (.inr "java/lang/IllegalStateException") (hput h 0 8 (brI h lot nH nB q v g s r)) := by
  refine PT.mk (L0 := [some (.ref (ad 0)), some (.int (nI lot)), some (.int (q)), some (.int (v)), some (.int (g)), some (.int (s)), some (.int (r)), none]) RX7 "bottle" 8 48 (by decide +kernel) rfl rfl ⟨rfl, rfl⟩ (by simp [Value.category]) (Nat.le_of_ble_eq_true rfl) rfl ?_
  have hb1 := hw.1.2
  have hlot24 : lot < 24 := by omega
  refine pw_aload_n dX7_bottle_0 rfl ?_
  refine pw_iload_n dX7_bottle_1 rfl ?_
  refine pw_okV dX7_bottle_2 (sp_X7_requireLot_ok hfl (wi_ok hw.1.1 hlot (by have := hw.1.2; omega))) mi_X7_requireLot mv_X7_requireLot ml_X7_122 sh_0 rfl rfl rfl rfl rfl rfl ?_
  refine pw_iload_n dX7_bottle_5 rfl ?_
  refine pw_iconst dX7_bottle_6 (v := 1) (by decide) ?_
  refine pw_sipush dX7_bottle_7 (v := 3333) (by decide) ?_
  refine pw_okS dX7_bottle_10 (sp_X7_requireNumber_ok hfl e) mi_X7_requireNumber ms_X7_requireNumber ml_X7_59 rfl rfl rfl rfl ?_
  refine pw_iload_n dX7_bottle_13 rfl ?_
  refine pw_iload dX7_bottle_14 rfl ?_
  refine pw_iload dX7_bottle_16 rfl ?_
  refine pw_iload dX7_bottle_18 rfl ?_
  refine pw_okS dX7_bottle_20 (sp_X7_requireLabel_ok hfl e1 e2 e3 e4 e5) mi_X7_requireLabel ms_X7_requireLabel ml_X7_205 rfl rfl rfl rfl ?_
  refine pw_aload_n dX7_bottle_23 rfl ?_
  refine pw_aload_n dX7_bottle_24 rfl ?_
  refine pw_getr dX7_bottle_25 lf_X7_10 sh_0 rfl ?_
  refine pw_iload_n dX7_bottle_28 rfl ?_
  refine pw_iload_n dX7_bottle_29 rfl ?_
  refine pw_iload_n dX7_bottle_30 rfl ?_
  refine pw_iload dX7_bottle_31 rfl ?_
  refine pw_iload dX7_bottle_33 rfl ?_
  refine pw_iload dX7_bottle_35 rfl ?_
  refine pw_cV dX7_bottle_37 (sp_X5_bottlingRefusal hw hlot24) mi_X5_bottlingRefusal mv_X5_bottlingRefusal ml_X7_209 sh_1 rfl rfl rfl rfl ⟨rfl, rfl⟩ rfl rfl ?_
  refine pw_flV dX7_bottle_40 (sp_X7_requireNoRefusal_no hfl e6) mi_X7_requireNoRefusal mv_X7_requireNoRefusal ml_X7_114 sh_0 rfl rfl rfl rfl rfl rfl ?_
  exact px_outT rfl rfl rfl rfl

set_option maxRecDepth 100000 in
set_option maxHeartbeats 4000000 in
theorem sp_X7_bottle_ok {l : Launch} {G : GC} {ad : Nat → Nat} (hfl : l.stackTraces = false) {h : HP} {nL nH nB nC : Nat} {np : Nat → Nat} {pl : Nat → Nat → Nat} (hw : WF h nL nH nB nC np pl) {q v g s r : Int32} {lot : Nat} (hlot : lot < nL) {k c : Nat} (hk : h 49 1 = nI k) (hk8 : k < 8) (hc : h 49 2 = nI c) (hc8 : c ≤ 8) (e : wiB q 1 3333 = true)  (e1 : wiB v (-1) 99 = true) (e2 : wiB g (-1) 4 = true) (e3 : wiB s (-1) 4 = true) (e4 : wiB r (-1) 3 = true) (e5 : s = -1 ∨ (¬ g = -1 ∧ ¬ g = s)) (e6 : brI h lot nH nB q v g s r = 0) (e7 : nB < 16) : PT l G yX7_bottle (.code yX7_bottle cX7_bottle 8 ((Option.some FieldType.int))) { frames := 8, cells := 8, slots := 48, locals := 147 } [.ref (ad 0), .int (nI lot), .int (q), .int (v), .int (g), .int (s), .int (r)] SW ad (h) (.inl (some (.int (nI nB)))) (botH (remH h 1 k c) lot nB q v g s r) := by
  refine PT.mk (L0 := [some (.ref (ad 0)), some (.int (nI lot)), some (.int (q)), some (.int (v)), some (.int (g)), some (.int (s)), some (.int (r)), none]) RX7 "bottle" 8 48 (by decide +kernel) rfl rfl ⟨rfl, rfl⟩ (by simp [Value.category]) (Nat.le_of_ble_eq_true rfl) rfl ?_
  have hb1 := hw.1.2
  have hlot24 : lot < 24 := by omega
  have hw1 : WF (remH h 1 k c) nL nH nB nC np pl := WF_o hw (fun a ha => remH_o h 1 k c hk8 (Or.inl ha))
  refine pw_aload_n dX7_bottle_0 rfl ?_
  refine pw_iload_n dX7_bottle_1 rfl ?_
  refine pw_okV dX7_bottle_2 (sp_X7_requireLot_ok hfl (wi_ok hw.1.1 hlot (by have := hw.1.2; omega))) mi_X7_requireLot mv_X7_requireLot ml_X7_122 sh_0 rfl rfl rfl rfl rfl rfl ?_
  refine pw_iload_n dX7_bottle_5 rfl ?_
  refine pw_iconst dX7_bottle_6 (v := 1) (by decide) ?_
  refine pw_sipush dX7_bottle_7 (v := 3333) (by decide) ?_
  refine pw_okS dX7_bottle_10 (sp_X7_requireNumber_ok hfl e) mi_X7_requireNumber ms_X7_requireNumber ml_X7_59 rfl rfl rfl rfl ?_
  refine pw_iload_n dX7_bottle_13 rfl ?_
  refine pw_iload dX7_bottle_14 rfl ?_
  refine pw_iload dX7_bottle_16 rfl ?_
  refine pw_iload dX7_bottle_18 rfl ?_
  refine pw_okS dX7_bottle_20 (sp_X7_requireLabel_ok hfl e1 e2 e3 e4 e5) mi_X7_requireLabel ms_X7_requireLabel ml_X7_205 rfl rfl rfl rfl ?_
  refine pw_aload_n dX7_bottle_23 rfl ?_
  refine pw_aload_n dX7_bottle_24 rfl ?_
  refine pw_getr dX7_bottle_25 lf_X7_10 sh_0 rfl ?_
  refine pw_iload_n dX7_bottle_28 rfl ?_
  refine pw_iload_n dX7_bottle_29 rfl ?_
  refine pw_iload_n dX7_bottle_30 rfl ?_
  refine pw_iload dX7_bottle_31 rfl ?_
  refine pw_iload dX7_bottle_33 rfl ?_
  refine pw_iload dX7_bottle_35 rfl ?_
  refine pw_cV dX7_bottle_37 (sp_X5_bottlingRefusal hw hlot24) mi_X5_bottlingRefusal mv_X5_bottlingRefusal ml_X7_209 sh_1 rfl rfl rfl rfl ⟨rfl, rfl⟩ rfl rfl ?_
  refine pw_okV dX7_bottle_40 (sp_X7_requireNoRefusal_ok hfl e6) mi_X7_requireNoRefusal mv_X7_requireNoRefusal ml_X7_114 sh_0 rfl rfl rfl rfl rfl rfl ?_
  refine pw_aload_n dX7_bottle_43 rfl ?_
  refine pw_getr dX7_bottle_44 lf_X7_22 sh_0 rfl ?_
  refine pw_aload_n dX7_bottle_47 rfl ?_
  refine pw_getr dX7_bottle_48 lf_X7_10 sh_0 rfl ?_
  refine pw_cVn dX7_bottle_51 (sp_X2_remember st_1 hk hk8 hc hc8) mi_X2_remember mv_X2_remember ml_X7_82 sh_49 rfl rfl rfl rfl ⟨rfl, rfl⟩ rfl rfl ?_
  refine pw_aload_n dX7_bottle_54 rfl ?_
  refine pw_getr dX7_bottle_55 lf_X7_10 sh_0 rfl ?_
  refine pw_getr dX7_bottle_58 lf_X7_63 sh_1 rfl ?_
  refine pw_iload_n dX7_bottle_61 rfl ?_
  refine pw_iload_n dX7_bottle_62 rfl ?_
  refine pw_iconst dX7_bottle_63 (v := 3) (by decide) ?_
  refine pw_imul dX7_bottle_64 ?_
  refine pw_cVn dX7_bottle_65 (sp_X4_take hlot24) mi_X4_take mv_X4_take ml_X7_135 sh_2 rfl rfl rfl rfl ⟨rfl, rfl⟩ rfl rfl ?_
  refine pw_aload_n dX7_bottle_68 rfl ?_
  refine pw_getr dX7_bottle_69 lf_X7_10 sh_0 rfl ?_
  refine pw_getr dX7_bottle_72 lf_X7_213 sh_1 rfl ?_
  refine pw_iload_n dX7_bottle_75 rfl ?_
  refine pw_iload_n dX7_bottle_76 rfl ?_
  refine pw_cV dX7_bottle_77 (sp_X0_fill (nB := nB) (by simpa [hput] using hw1.2.2.1.1) e7) mi_X0_fill mv_X0_fill ml_X7_217 sh_13 rfl rfl rfl rfl ⟨rfl, rfl⟩ rfl rfl ?_
  refine pw_istore dX7_bottle_80 (by decide) rfl ?_
  refine pw_aload_n dX7_bottle_82 rfl ?_
  refine pw_getr dX7_bottle_83 lf_X7_10 sh_0 rfl ?_
  refine pw_getr dX7_bottle_86 lf_X7_213 sh_1 rfl ?_
  refine pw_iload dX7_bottle_89 rfl ?_
  refine pw_iload_n dX7_bottle_91 rfl ?_
  refine pw_iload dX7_bottle_92 rfl ?_
  refine pw_iload dX7_bottle_94 rfl ?_
  refine pw_iload dX7_bottle_96 rfl ?_
  refine pw_cVn dX7_bottle_98 (sp_X0_putLabel e7) mi_X0_putLabel mv_X0_putLabel ml_X7_222 sh_13 rfl rfl rfl rfl ⟨rfl, rfl⟩ rfl rfl ?_
  refine pw_iload dX7_bottle_101 rfl ?_
  exact pw_iretT dX7_bottle_103 rfl rfl rfl rfl rfl

set_option maxRecDepth 100000 in
set_option maxHeartbeats 4000000 in
theorem sp_X7_forbids_no1 {l : Launch} {G : GC} {ad : Nat → Nat} (hfl : l.stackTraces = false) {h : HP} {v g s r : Int32} {n : Int32} (e1 : wiB n 0 (h 2 5 - 1) = false) : PT l G yX7_forbids (.code yX7_forbids cX7_forbids 6 ((Option.some FieldType.int))) { frames := 8, cells := 6, slots := 36, locals := 135 } [.ref (ad 0), .int (n), .int (v), .int (g), .int (s), .int (r)] SW ad (h) (.inr "java/lang/IndexOutOfBoundsException") (h) := by
  refine PT.mk (L0 := [some (.ref (ad 0)), some (.int (n)), some (.int (v)), some (.int (g)), some (.int (s)), some (.int (r))]) RX7 "forbids" 6 36 (by decide +kernel) rfl rfl ⟨rfl, rfl⟩ (by simp [Value.category]) (Nat.le_of_ble_eq_true rfl) rfl ?_
  refine pw_aload_n dX7_forbids_0 rfl ?_
  refine pw_iload_n dX7_forbids_1 rfl ?_
  refine pw_flV dX7_forbids_2 (sp_X7_requireLot_no hfl e1) mi_X7_requireLot mv_X7_requireLot ml_X7_122 sh_0 rfl rfl rfl rfl rfl rfl ?_
  exact px_outT rfl rfl rfl rfl

set_option maxRecDepth 100000 in
set_option maxHeartbeats 4000000 in
theorem sp_X7_forbids_no21 {l : Launch} {G : GC} {ad : Nat → Nat} (hfl : l.stackTraces = false) {h : HP} {nL nH nB nC : Nat} {np : Nat → Nat} {pl : Nat → Nat → Nat} (hw : WF h nL nH nB nC np pl) {v g s r : Int32} {lot : Nat} (hlot : lot < nL) (e1 : wiB v (-1) 99 = false) : PT l G yX7_forbids (.code yX7_forbids cX7_forbids 6 ((Option.some FieldType.int))) { frames := 8, cells := 6, slots := 36, locals := 135 } [.ref (ad 0), .int (nI lot), .int (v), .int (g), .int (s), .int (r)] SW ad (h) (.inr "java/lang/IllegalArgumentException") (h) := by
  refine PT.mk (L0 := [some (.ref (ad 0)), some (.int (nI lot)), some (.int (v)), some (.int (g)), some (.int (s)), some (.int (r))]) RX7 "forbids" 6 36 (by decide +kernel) rfl rfl ⟨rfl, rfl⟩ (by simp [Value.category]) (Nat.le_of_ble_eq_true rfl) rfl ?_
  have hb1 := hw.1.2
  have hlot24 : lot < 24 := by omega
  refine pw_aload_n dX7_forbids_0 rfl ?_
  refine pw_iload_n dX7_forbids_1 rfl ?_
  refine pw_okV dX7_forbids_2 (sp_X7_requireLot_ok hfl (wi_ok hw.1.1 hlot (by have := hw.1.2; omega))) mi_X7_requireLot mv_X7_requireLot ml_X7_122 sh_0 rfl rfl rfl rfl rfl rfl ?_
  refine pw_iload_n dX7_forbids_5 rfl ?_
  refine pw_iload_n dX7_forbids_6 rfl ?_
  refine pw_iload dX7_forbids_7 rfl ?_
  refine pw_iload dX7_forbids_9 rfl ?_
  refine pw_flS dX7_forbids_11 (sp_X7_requireLabel_no1 hfl e1) mi_X7_requireLabel ms_X7_requireLabel ml_X7_205 rfl rfl rfl rfl ?_
  exact px_outT rfl rfl rfl rfl

set_option maxRecDepth 100000 in
set_option maxHeartbeats 4000000 in
theorem sp_X7_forbids_no22 {l : Launch} {G : GC} {ad : Nat → Nat} (hfl : l.stackTraces = false) {h : HP} {nL nH nB nC : Nat} {np : Nat → Nat} {pl : Nat → Nat → Nat} (hw : WF h nL nH nB nC np pl) {v g s r : Int32} {lot : Nat} (hlot : lot < nL) (e1 : wiB v (-1) 99 = true) (e2 : wiB g (-1) 4 = false) : PT l G yX7_forbids (.code yX7_forbids cX7_forbids 6 ((Option.some FieldType.int))) { frames := 8, cells := 6, slots := 36, locals := 135 } [.ref (ad 0), .int (nI lot), .int (v), .int (g), .int (s), .int (r)] SW ad (h) (.inr "java/lang/IllegalArgumentException") (h) := by
  refine PT.mk (L0 := [some (.ref (ad 0)), some (.int (nI lot)), some (.int (v)), some (.int (g)), some (.int (s)), some (.int (r))]) RX7 "forbids" 6 36 (by decide +kernel) rfl rfl ⟨rfl, rfl⟩ (by simp [Value.category]) (Nat.le_of_ble_eq_true rfl) rfl ?_
  have hb1 := hw.1.2
  have hlot24 : lot < 24 := by omega
  refine pw_aload_n dX7_forbids_0 rfl ?_
  refine pw_iload_n dX7_forbids_1 rfl ?_
  refine pw_okV dX7_forbids_2 (sp_X7_requireLot_ok hfl (wi_ok hw.1.1 hlot (by have := hw.1.2; omega))) mi_X7_requireLot mv_X7_requireLot ml_X7_122 sh_0 rfl rfl rfl rfl rfl rfl ?_
  refine pw_iload_n dX7_forbids_5 rfl ?_
  refine pw_iload_n dX7_forbids_6 rfl ?_
  refine pw_iload dX7_forbids_7 rfl ?_
  refine pw_iload dX7_forbids_9 rfl ?_
  refine pw_flS dX7_forbids_11 (sp_X7_requireLabel_no2 hfl e1 e2) mi_X7_requireLabel ms_X7_requireLabel ml_X7_205 rfl rfl rfl rfl ?_
  exact px_outT rfl rfl rfl rfl

set_option maxRecDepth 100000 in
set_option maxHeartbeats 4000000 in
theorem sp_X7_forbids_no23 {l : Launch} {G : GC} {ad : Nat → Nat} (hfl : l.stackTraces = false) {h : HP} {nL nH nB nC : Nat} {np : Nat → Nat} {pl : Nat → Nat → Nat} (hw : WF h nL nH nB nC np pl) {v g s r : Int32} {lot : Nat} (hlot : lot < nL) (e1 : wiB v (-1) 99 = true) (e2 : wiB g (-1) 4 = true) (e3 : wiB s (-1) 4 = false) : PT l G yX7_forbids (.code yX7_forbids cX7_forbids 6 ((Option.some FieldType.int))) { frames := 8, cells := 6, slots := 36, locals := 135 } [.ref (ad 0), .int (nI lot), .int (v), .int (g), .int (s), .int (r)] SW ad (h) (.inr "java/lang/IllegalArgumentException") (h) := by
  refine PT.mk (L0 := [some (.ref (ad 0)), some (.int (nI lot)), some (.int (v)), some (.int (g)), some (.int (s)), some (.int (r))]) RX7 "forbids" 6 36 (by decide +kernel) rfl rfl ⟨rfl, rfl⟩ (by simp [Value.category]) (Nat.le_of_ble_eq_true rfl) rfl ?_
  have hb1 := hw.1.2
  have hlot24 : lot < 24 := by omega
  refine pw_aload_n dX7_forbids_0 rfl ?_
  refine pw_iload_n dX7_forbids_1 rfl ?_
  refine pw_okV dX7_forbids_2 (sp_X7_requireLot_ok hfl (wi_ok hw.1.1 hlot (by have := hw.1.2; omega))) mi_X7_requireLot mv_X7_requireLot ml_X7_122 sh_0 rfl rfl rfl rfl rfl rfl ?_
  refine pw_iload_n dX7_forbids_5 rfl ?_
  refine pw_iload_n dX7_forbids_6 rfl ?_
  refine pw_iload dX7_forbids_7 rfl ?_
  refine pw_iload dX7_forbids_9 rfl ?_
  refine pw_flS dX7_forbids_11 (sp_X7_requireLabel_no3 hfl e1 e2 e3) mi_X7_requireLabel ms_X7_requireLabel ml_X7_205 rfl rfl rfl rfl ?_
  exact px_outT rfl rfl rfl rfl

set_option maxRecDepth 100000 in
set_option maxHeartbeats 4000000 in
theorem sp_X7_forbids_no24 {l : Launch} {G : GC} {ad : Nat → Nat} (hfl : l.stackTraces = false) {h : HP} {nL nH nB nC : Nat} {np : Nat → Nat} {pl : Nat → Nat → Nat} (hw : WF h nL nH nB nC np pl) {v g s r : Int32} {lot : Nat} (hlot : lot < nL) (e1 : wiB v (-1) 99 = true) (e2 : wiB g (-1) 4 = true) (e3 : wiB s (-1) 4 = true) (e4 : wiB r (-1) 3 = false) : PT l G yX7_forbids (.code yX7_forbids cX7_forbids 6 ((Option.some FieldType.int))) { frames := 8, cells := 6, slots := 36, locals := 135 } [.ref (ad 0), .int (nI lot), .int (v), .int (g), .int (s), .int (r)] SW ad (h) (.inr "java/lang/IllegalArgumentException") (h) := by
  refine PT.mk (L0 := [some (.ref (ad 0)), some (.int (nI lot)), some (.int (v)), some (.int (g)), some (.int (s)), some (.int (r))]) RX7 "forbids" 6 36 (by decide +kernel) rfl rfl ⟨rfl, rfl⟩ (by simp [Value.category]) (Nat.le_of_ble_eq_true rfl) rfl ?_
  have hb1 := hw.1.2
  have hlot24 : lot < 24 := by omega
  refine pw_aload_n dX7_forbids_0 rfl ?_
  refine pw_iload_n dX7_forbids_1 rfl ?_
  refine pw_okV dX7_forbids_2 (sp_X7_requireLot_ok hfl (wi_ok hw.1.1 hlot (by have := hw.1.2; omega))) mi_X7_requireLot mv_X7_requireLot ml_X7_122 sh_0 rfl rfl rfl rfl rfl rfl ?_
  refine pw_iload_n dX7_forbids_5 rfl ?_
  refine pw_iload_n dX7_forbids_6 rfl ?_
  refine pw_iload dX7_forbids_7 rfl ?_
  refine pw_iload dX7_forbids_9 rfl ?_
  refine pw_flS dX7_forbids_11 (sp_X7_requireLabel_no4 hfl e1 e2 e3 e4) mi_X7_requireLabel ms_X7_requireLabel ml_X7_205 rfl rfl rfl rfl ?_
  exact px_outT rfl rfl rfl rfl

set_option maxRecDepth 100000 in
set_option maxHeartbeats 4000000 in
theorem sp_X7_forbids_no25 {l : Launch} {G : GC} {ad : Nat → Nat} (hfl : l.stackTraces = false) {h : HP} {nL nH nB nC : Nat} {np : Nat → Nat} {pl : Nat → Nat → Nat} (hw : WF h nL nH nB nC np pl) {v g s r : Int32} {lot : Nat} (hlot : lot < nL)  (e1 : wiB v (-1) 99 = true) (e2 : wiB g (-1) 4 = true) (e3 : wiB s (-1) 4 = true) (e4 : wiB r (-1) 3 = true) (e5 : ¬ (s = -1 ∨ (¬ g = -1 ∧ ¬ g = s))) : PT l G yX7_forbids (.code yX7_forbids cX7_forbids 6 ((Option.some FieldType.int))) { frames := 8, cells := 6, slots := 36, locals := 135 } [.ref (ad 0), .int (nI lot), .int (v), .int (g), .int (s), .int (r)] SW ad (h) (.inr "java/lang/IllegalArgumentException") (h) := by
  refine PT.mk (L0 := [some (.ref (ad 0)), some (.int (nI lot)), some (.int (v)), some (.int (g)), some (.int (s)), some (.int (r))]) RX7 "forbids" 6 36 (by decide +kernel) rfl rfl ⟨rfl, rfl⟩ (by simp [Value.category]) (Nat.le_of_ble_eq_true rfl) rfl ?_
  have hb1 := hw.1.2
  have hlot24 : lot < 24 := by omega
  refine pw_aload_n dX7_forbids_0 rfl ?_
  refine pw_iload_n dX7_forbids_1 rfl ?_
  refine pw_okV dX7_forbids_2 (sp_X7_requireLot_ok hfl (wi_ok hw.1.1 hlot (by have := hw.1.2; omega))) mi_X7_requireLot mv_X7_requireLot ml_X7_122 sh_0 rfl rfl rfl rfl rfl rfl ?_
  refine pw_iload_n dX7_forbids_5 rfl ?_
  refine pw_iload_n dX7_forbids_6 rfl ?_
  refine pw_iload dX7_forbids_7 rfl ?_
  refine pw_iload dX7_forbids_9 rfl ?_
  refine pw_flS dX7_forbids_11 (sp_X7_requireLabel_no5 hfl e1 e2 e3 e4 e5) mi_X7_requireLabel ms_X7_requireLabel ml_X7_205 rfl rfl rfl rfl ?_
  exact px_outT rfl rfl rfl rfl

set_option maxRecDepth 100000 in
set_option maxHeartbeats 4000000 in
theorem sp_X7_forbids_ok {l : Launch} {G : GC} {ad : Nat → Nat} (hfl : l.stackTraces = false) {h : HP} {nL nH nB nC : Nat} {np : Nat → Nat} {pl : Nat → Nat → Nat} (hw : WF h nL nH nB nC np pl) {v g s r : Int32} {lot : Nat} (hlot : lot < nL)  (e1 : wiB v (-1) 99 = true) (e2 : wiB g (-1) 4 = true) (e3 : wiB s (-1) 4 = true) (e4 : wiB r (-1) 3 = true) (e5 : s = -1 ∨ (¬ g = -1 ∧ ¬ g = s)) : PT l G yX7_forbids (.code yX7_forbids cX7_forbids 6 ((Option.some FieldType.int))) { frames := 8, cells := 6, slots := 36, locals := 135 } [.ref (ad 0), .int (nI lot), .int (v), .int (g), .int (s), .int (r)] SW ad (h) (.inl (some (.int (lrI h lot nH v g s r)))) (h) := by
  refine PT.mk (L0 := [some (.ref (ad 0)), some (.int (nI lot)), some (.int (v)), some (.int (g)), some (.int (s)), some (.int (r))]) RX7 "forbids" 6 36 (by decide +kernel) rfl rfl ⟨rfl, rfl⟩ (by simp [Value.category]) (Nat.le_of_ble_eq_true rfl) rfl ?_
  have hb1 := hw.1.2
  have hlot24 : lot < 24 := by omega
  refine pw_aload_n dX7_forbids_0 rfl ?_
  refine pw_iload_n dX7_forbids_1 rfl ?_
  refine pw_okV dX7_forbids_2 (sp_X7_requireLot_ok hfl (wi_ok hw.1.1 hlot (by have := hw.1.2; omega))) mi_X7_requireLot mv_X7_requireLot ml_X7_122 sh_0 rfl rfl rfl rfl rfl rfl ?_
  refine pw_iload_n dX7_forbids_5 rfl ?_
  refine pw_iload_n dX7_forbids_6 rfl ?_
  refine pw_iload dX7_forbids_7 rfl ?_
  refine pw_iload dX7_forbids_9 rfl ?_
  refine pw_okS dX7_forbids_11 (sp_X7_requireLabel_ok hfl e1 e2 e3 e4 e5) mi_X7_requireLabel ms_X7_requireLabel ml_X7_205 rfl rfl rfl rfl ?_
  refine pw_aload_n dX7_forbids_14 rfl ?_
  refine pw_getr dX7_forbids_15 lf_X7_10 sh_0 rfl ?_
  refine pw_iload_n dX7_forbids_18 rfl ?_
  refine pw_iload_n dX7_forbids_19 rfl ?_
  refine pw_iload_n dX7_forbids_20 rfl ?_
  refine pw_iload dX7_forbids_21 rfl ?_
  refine pw_iload dX7_forbids_23 rfl ?_
  refine pw_cV dX7_forbids_25 (sp_X5_labelRefusal hw hlot24) mi_X5_labelRefusal mv_X5_labelRefusal ml_X7_226 sh_1 rfl rfl rfl rfl ⟨rfl, rfl⟩ rfl rfl ?_
  exact pw_iretT dX7_forbids_28 rfl rfl rfl rfl rfl

set_option maxRecDepth 100000 in
set_option maxHeartbeats 4000000 in
theorem sp_X7_bottling_no1 {l : Launch} {G : GC} {ad : Nat → Nat} (hfl : l.stackTraces = false) {h : HP} {n m : Int32} (e : wiB n 0 (h 13 1 - 1) = false) : PT l G yX7_bottling (.code yX7_bottling cX7_bottling 3 ((Option.some FieldType.int))) { frames := 7, cells := 2, slots := 12, locals := 142 } [.ref (ad 0), .int (n), .int (m)] SW ad (h) (.inr "java/lang/IndexOutOfBoundsException") (h) := by
  refine PT.mk (L0 := [some (.ref (ad 0)), some (.int (n)), some (.int (m))]) RX7 "bottling" 2 12 (by decide +kernel) rfl rfl ⟨rfl, rfl⟩ (by simp [Value.category]) (Nat.le_of_ble_eq_true rfl) rfl ?_
  refine pw_iload_n dX7_bottling_0 rfl ?_
  refine pw_aload_n dX7_bottling_1 rfl ?_
  refine pw_getr dX7_bottling_2 lf_X7_10 sh_0 rfl ?_
  refine pw_getr dX7_bottling_5 lf_X7_213 sh_1 rfl ?_
  refine pw_geti dX7_bottling_8 lf_X7_230 sh_13 rfl ?_
  refine pw_flS dX7_bottling_11 (sp_X7_requirePlace_no hfl e) mi_X7_requirePlace ms_X7_requirePlace ml_X7_196 rfl rfl rfl rfl ?_
  exact px_outT rfl rfl rfl rfl

set_option maxRecDepth 100000 in
set_option maxHeartbeats 4000000 in
theorem sp_X7_bottling_no2 {l : Launch} {G : GC} {ad : Nat → Nat} (hfl : l.stackTraces = false) {h : HP} {nL nH nB nC : Nat} {np : Nat → Nat} {pl : Nat → Nat → Nat} (hw : WF h nL nH nB nC np pl) {b : Nat} (hb : b < nB) {m : Int32} (e : wiB m 0 8 = false) : PT l G yX7_bottling (.code yX7_bottling cX7_bottling 3 ((Option.some FieldType.int))) { frames := 7, cells := 2, slots := 12, locals := 142 } [.ref (ad 0), .int (nI b), .int (m)] SW ad (h) (.inr "java/lang/IllegalArgumentException") (h) := by
  refine PT.mk (L0 := [some (.ref (ad 0)), some (.int (nI b)), some (.int (m))]) RX7 "bottling" 2 12 (by decide +kernel) rfl rfl ⟨rfl, rfl⟩ (by simp [Value.category]) (Nat.le_of_ble_eq_true rfl) rfl ?_
  have hb3 := hw.2.2.1.2
  have hb4 := hw.2.2.2.1.2
  have hb16 : b < 16 := by omega
  refine pw_iload_n dX7_bottling_0 rfl ?_
  refine pw_aload_n dX7_bottling_1 rfl ?_
  refine pw_getr dX7_bottling_2 lf_X7_10 sh_0 rfl ?_
  refine pw_getr dX7_bottling_5 lf_X7_213 sh_1 rfl ?_
  refine pw_geti dX7_bottling_8 lf_X7_230 sh_13 rfl ?_
  refine pw_okS dX7_bottling_11 (sp_X7_requirePlace_ok hfl (wi_ok hw.2.2.1.1 hb (by have := hw.2.2.1.2; omega))) mi_X7_requirePlace ms_X7_requirePlace ml_X7_196 rfl rfl rfl rfl ?_
  refine pw_iload_n dX7_bottling_14 rfl ?_
  refine pw_iconst dX7_bottling_15 (v := 0) (by decide) ?_
  refine pw_bipush dX7_bottling_16 (v := 8) (by decide) ?_
  refine pw_flS dX7_bottling_18 (sp_X7_requireNumber_no hfl e) mi_X7_requireNumber ms_X7_requireNumber ml_X7_59 rfl rfl rfl rfl ?_
  exact px_outT rfl rfl rfl rfl

set_option maxRecDepth 100000 in
set_option maxHeartbeats 4000000 in
theorem sp_X7_bottling_k7 {l : Launch} {G : GC} {ad : Nat → Nat} (hfl : l.stackTraces = false) {h : HP} {nL nH nB nC : Nat} {np : Nat → Nat} {pl : Nat → Nat → Nat} (hw : WF h nL nH nB nC np pl) {b : Nat} (hb : b < nB)  : PT l G yX7_bottling (.code yX7_bottling cX7_bottling 3 ((Option.some FieldType.int))) { frames := 7, cells := 2, slots := 12, locals := 142 } [.ref (ad 0), .int (nI b), .int (7)] SW ad (h) (.inl (some (.int (nI (lnK h b nC 3).2)))) ((lnK h b nC 3).1) := by
  refine PT.mk (L0 := [some (.ref (ad 0)), some (.int (nI b)), some (.int (7))]) RX7 "bottling" 2 12 (by decide +kernel) rfl rfl ⟨rfl, rfl⟩ (by simp [Value.category]) (Nat.le_of_ble_eq_true rfl) rfl ?_
  have hb3 := hw.2.2.1.2
  have hb4 := hw.2.2.2.1.2
  have hb16 : b < 16 := by omega
  refine pw_iload_n dX7_bottling_0 rfl ?_
  refine pw_aload_n dX7_bottling_1 rfl ?_
  refine pw_getr dX7_bottling_2 lf_X7_10 sh_0 rfl ?_
  refine pw_getr dX7_bottling_5 lf_X7_213 sh_1 rfl ?_
  refine pw_geti dX7_bottling_8 lf_X7_230 sh_13 rfl ?_
  refine pw_okS dX7_bottling_11 (sp_X7_requirePlace_ok hfl (wi_ok hw.2.2.1.1 hb (by have := hw.2.2.1.2; omega))) mi_X7_requirePlace ms_X7_requirePlace ml_X7_196 rfl rfl rfl rfl ?_
  refine pw_iload_n dX7_bottling_14 rfl ?_
  refine pw_iconst dX7_bottling_15 (v := 0) (by decide) ?_
  refine pw_bipush dX7_bottling_16 (v := 8) (by decide) ?_
  refine pw_okS dX7_bottling_18 (sp_X7_requireNumber_ok hfl (by decide)) mi_X7_requireNumber ms_X7_requireNumber ml_X7_59 rfl rfl rfl rfl ?_
  refine pw_iload_n dX7_bottling_21 rfl ?_
  refine pw_bipush dX7_bottling_22 (v := 7) (by decide) ?_
  refine pw_icmp_ne dX7_bottling_24 (tgt := 43) (by decide) (fun c24 => absurd c24 (fun q => q rfl)) (fun c24 => ?_)
  refine pw_aload_n dX7_bottling_27 rfl ?_
  refine pw_getr dX7_bottling_28 lf_X7_10 sh_0 rfl ?_
  refine pw_getr dX7_bottling_31 lf_X7_231 sh_1 rfl ?_
  refine pw_iload_n dX7_bottling_34 rfl ?_
  refine pw_aload_n dX7_bottling_35 rfl ?_
  refine pw_getr dX7_bottling_36 lf_X7_38 sh_0 rfl ?_
  refine pw_cV dX7_bottling_39 (sp_X1_lineUp hw.2.2.2.1.1 hb4 hb16) mi_X1_lineUp mv_X1_lineUp ml_X7_235 sh_16 rfl rfl rfl rfl ⟨rfl, rfl⟩ rfl rfl ?_
  exact pw_iretT dX7_bottling_42 rfl rfl rfl rfl rfl

set_option maxRecDepth 100000 in
set_option maxHeartbeats 4000000 in
theorem sp_X7_bottling_k8 {l : Launch} {G : GC} {ad : Nat → Nat} (hfl : l.stackTraces = false) {h : HP} {nL nH nB nC : Nat} {np : Nat → Nat} {pl : Nat → Nat → Nat} (hw : WF h nL nH nB nC np pl) {b : Nat} (hb : b < nB) {lot : Nat} (hbl : h 15 (b * 7 + 0) = nI lot) (hlot : lot < 24)  : PT l G yX7_bottling (.code yX7_bottling cX7_bottling 3 ((Option.some FieldType.int))) { frames := 7, cells := 2, slots := 12, locals := 142 } [.ref (ad 0), .int (nI b), .int (8)] SW ad (h) (.inl (some (.int (b2i (decide (lrI h lot nH (h 15 (b * 7 + 3)) (h 15 (b * 7 + 4)) (h 15 (b * 7 + 5)) (h 15 (b * 7 + 6)) = 0)))))) (h) := by
  refine PT.mk (L0 := [some (.ref (ad 0)), some (.int (nI b)), some (.int (8))]) RX7 "bottling" 2 12 (by decide +kernel) rfl rfl ⟨rfl, rfl⟩ (by simp [Value.category]) (Nat.le_of_ble_eq_true rfl) rfl ?_
  have hb3 := hw.2.2.1.2
  have hb4 := hw.2.2.2.1.2
  have hb16 : b < 16 := by omega
  refine pw_iload_n dX7_bottling_0 rfl ?_
  refine pw_aload_n dX7_bottling_1 rfl ?_
  refine pw_getr dX7_bottling_2 lf_X7_10 sh_0 rfl ?_
  refine pw_getr dX7_bottling_5 lf_X7_213 sh_1 rfl ?_
  refine pw_geti dX7_bottling_8 lf_X7_230 sh_13 rfl ?_
  refine pw_okS dX7_bottling_11 (sp_X7_requirePlace_ok hfl (wi_ok hw.2.2.1.1 hb (by have := hw.2.2.1.2; omega))) mi_X7_requirePlace ms_X7_requirePlace ml_X7_196 rfl rfl rfl rfl ?_
  refine pw_iload_n dX7_bottling_14 rfl ?_
  refine pw_iconst dX7_bottling_15 (v := 0) (by decide) ?_
  refine pw_bipush dX7_bottling_16 (v := 8) (by decide) ?_
  refine pw_okS dX7_bottling_18 (sp_X7_requireNumber_ok hfl (by decide)) mi_X7_requireNumber ms_X7_requireNumber ml_X7_59 rfl rfl rfl rfl ?_
  refine pw_iload_n dX7_bottling_21 rfl ?_
  refine pw_bipush dX7_bottling_22 (v := 7) (by decide) ?_
  refine pw_icmp_ne dX7_bottling_24 (tgt := 43) (by decide) (fun c24 => ?_) (fun c24 => absurd c24 (by decide))
  refine pw_iload_n dX7_bottling_43 rfl ?_
  refine pw_bipush dX7_bottling_44 (v := 8) (by decide) ?_
  refine pw_icmp_ne dX7_bottling_46 (tgt := 66) (by decide) (fun c46 => absurd c46 (fun q => q rfl)) (fun c46 => ?_)
  refine pw_aload_n dX7_bottling_49 rfl ?_
  refine pw_getr dX7_bottling_50 lf_X7_10 sh_0 rfl ?_
  refine pw_iload_n dX7_bottling_53 rfl ?_
  refine pw_cV dX7_bottling_54 (sp_X5_isLabelAllowed hw hb16 hbl hlot) mi_X5_isLabelAllowed mv_X5_isLabelAllowed ml_X7_241 sh_1 rfl rfl rfl rfl ⟨rfl, rfl⟩ rfl rfl ?_
  refine pw_if_eq dX7_bottling_57 (tgt := 64) (by decide) (fun c57 => ?_) (fun c57 => ?_)
  · skip
    refine pw_iconst dX7_bottling_64 (v := 0) (by decide) ?_
    exact pw_iretT dX7_bottling_65 rfl rfl rfl (by rw [b2i_eq c57]; rfl) rfl
  · skip
    refine pw_iconst dX7_bottling_60 (v := 1) (by decide) ?_
    refine pw_goto dX7_bottling_61 (tgt := 65) (by decide) ?_
    exact pw_iretT dX7_bottling_65 rfl rfl rfl (by rw [b2i_ne c57]; rfl) rfl

set_option maxRecDepth 100000 in
set_option maxHeartbeats 4000000 in
theorem sp_X7_bottling_k {l : Launch} {G : GC} {ad : Nat → Nat} (hfl : l.stackTraces = false) {h : HP} {nL nH nB nC : Nat} {np : Nat → Nat} {pl : Nat → Nat → Nat} (hw : WF h nL nH nB nC np pl) {b : Nat} (hb : b < nB) {j : Nat} (hj : j < 7)  : PT l G yX7_bottling (.code yX7_bottling cX7_bottling 3 ((Option.some FieldType.int))) { frames := 7, cells := 2, slots := 12, locals := 142 } [.ref (ad 0), .int (nI b), .int (nI j)] SW ad (h) (.inl (some (.int (h 15 (b * 7 + j))))) (h) := by
  refine PT.mk (L0 := [some (.ref (ad 0)), some (.int (nI b)), some (.int (nI j))]) RX7 "bottling" 2 12 (by decide +kernel) rfl rfl ⟨rfl, rfl⟩ (by simp [Value.category]) (Nat.le_of_ble_eq_true rfl) rfl ?_
  have hb3 := hw.2.2.1.2
  have hb4 := hw.2.2.2.1.2
  have hb16 : b < 16 := by omega
  refine pw_iload_n dX7_bottling_0 rfl ?_
  refine pw_aload_n dX7_bottling_1 rfl ?_
  refine pw_getr dX7_bottling_2 lf_X7_10 sh_0 rfl ?_
  refine pw_getr dX7_bottling_5 lf_X7_213 sh_1 rfl ?_
  refine pw_geti dX7_bottling_8 lf_X7_230 sh_13 rfl ?_
  refine pw_okS dX7_bottling_11 (sp_X7_requirePlace_ok hfl (wi_ok hw.2.2.1.1 hb (by have := hw.2.2.1.2; omega))) mi_X7_requirePlace ms_X7_requirePlace ml_X7_196 rfl rfl rfl rfl ?_
  refine pw_iload_n dX7_bottling_14 rfl ?_
  refine pw_iconst dX7_bottling_15 (v := 0) (by decide) ?_
  refine pw_bipush dX7_bottling_16 (v := 8) (by decide) ?_
  refine pw_okS dX7_bottling_18 (sp_X7_requireNumber_ok hfl (wi_ok (x := 9) (N := 9) rfl (by omega) (by decide))) mi_X7_requireNumber ms_X7_requireNumber ml_X7_59 rfl rfl rfl rfl ?_
  refine pw_iload_n dX7_bottling_21 rfl ?_
  refine pw_bipush dX7_bottling_22 (v := 7) (by decide) ?_
  refine pw_icmp_ne dX7_bottling_24 (tgt := 43) (by decide) (fun c24 => ?_) (fun c24 => absurd c24 (fun q => absurd ((nI_eq (b := 7) (by omega) (by decide)).mp q) (by omega)))
  refine pw_iload_n dX7_bottling_43 rfl ?_
  refine pw_bipush dX7_bottling_44 (v := 8) (by decide) ?_
  refine pw_icmp_ne dX7_bottling_46 (tgt := 66) (by decide) (fun c46 => ?_) (fun c46 => absurd c46 (fun q => absurd ((nI_eq (b := 8) (by omega) (by decide)).mp q) (by omega)))
  refine pw_aload_n dX7_bottling_66 rfl ?_
  refine pw_getr dX7_bottling_67 lf_X7_10 sh_0 rfl ?_
  refine pw_getr dX7_bottling_70 lf_X7_213 sh_1 rfl ?_
  refine pw_getr dX7_bottling_73 lf_X7_245 sh_13 rfl ?_
  refine pw_iload_n dX7_bottling_76 rfl ?_
  refine pw_iload_n dX7_bottling_77 rfl ?_
  refine pw_cV dX7_bottling_78 (sp_X6_at tq_14 (r := b) (k := j) rfl rfl (hb16) (hj)) mi_X6_at mv_X6_at ml_X7_155 sh_14 rfl rfl rfl rfl ⟨rfl, rfl⟩ rfl rfl ?_
  exact pw_iretT dX7_bottling_81 rfl rfl rfl rfl rfl

set_option maxRecDepth 100000 in
set_option maxHeartbeats 4000000 in
theorem sp_X7_reason_no {l : Launch} {G : GC} {ad : Nat → Nat} (hfl : l.stackTraces = false) {h : HP} (e : h 0 8 = -1) : PT l G yX7_reason (.code yX7_reason cX7_reason 1 ((Option.some FieldType.int))) { frames := 6, cells := 1, slots := 6, locals := 90 } [.ref (ad 0)] SW ad (h) (.inr "java/util/NoSuchElementException") (h) := by
  refine PT.mk (L0 := [some (.ref (ad 0))]) RX7 "reason" 1 6 (by decide +kernel) rfl rfl ⟨rfl, rfl⟩ (by simp [Value.category]) (Nat.le_of_ble_eq_true rfl) rfl ?_
  refine pw_aload_n dX7_reason_0 rfl ?_
  refine pw_geti dX7_reason_1 lf_X7_52 sh_0 rfl ?_
  refine pw_iconst dX7_reason_4 (v := (-1)) (by decide) ?_
  refine pw_icmp_ne dX7_reason_5 (tgt := 18) (by decide) (fun c5 => absurd c5 (fun q => q e)) (fun c5 => ?_)
  exact pw_throwN hfl tw_165_246_169 dX7_reason_8 dX7_reason_11 dX7_reason_12 dX7_reason_14 dX7_reason_17 rfl ⟨Nat.le_of_ble_eq_true rfl, Nat.le_of_ble_eq_true rfl, Nat.le_of_ble_eq_true rfl, Nat.le_of_ble_eq_true rfl⟩ (⟨rfl, rfl⟩) (Nat.le_of_ble_eq_true rfl) (Nat.le_of_ble_eq_true rfl)

set_option maxRecDepth 100000 in
set_option maxHeartbeats 4000000 in
theorem sp_X7_reason_ok {l : Launch} {G : GC} {ad : Nat → Nat} (hfl : l.stackTraces = false) {h : HP} (e : ¬ h 0 8 = -1) : PT l G yX7_reason (.code yX7_reason cX7_reason 1 ((Option.some FieldType.int))) { frames := 6, cells := 1, slots := 6, locals := 90 } [.ref (ad 0)] SW ad (h) (.inl (some (.int (h 0 8)))) (h) := by
  refine PT.mk (L0 := [some (.ref (ad 0))]) RX7 "reason" 1 6 (by decide +kernel) rfl rfl ⟨rfl, rfl⟩ (by simp [Value.category]) (Nat.le_of_ble_eq_true rfl) rfl ?_
  refine pw_aload_n dX7_reason_0 rfl ?_
  refine pw_geti dX7_reason_1 lf_X7_52 sh_0 rfl ?_
  refine pw_iconst dX7_reason_4 (v := (-1)) (by decide) ?_
  refine pw_icmp_ne dX7_reason_5 (tgt := 18) (by decide) (fun c5 => ?_) (fun c5 => absurd c5 (e))
  refine pw_aload_n dX7_reason_18 rfl ?_
  refine pw_geti dX7_reason_19 lf_X7_52 sh_0 rfl ?_
  exact pw_iretT dX7_reason_22 rfl rfl rfl rfl rfl

set_option maxRecDepth 100000 in
set_option maxHeartbeats 4000000 in
theorem sp_X7_errorPosition_no {l : Launch} {G : GC} {ad : Nat → Nat} (hfl : l.stackTraces = false) {h : HP} (e : h 0 9 = -1) : PT l G yX7_errorPosition (.code yX7_errorPosition cX7_errorPosition 1 ((Option.some FieldType.int))) { frames := 6, cells := 1, slots := 6, locals := 90 } [.ref (ad 0)] SW ad (h) (.inr "java/util/NoSuchElementException") (h) := by
  refine PT.mk (L0 := [some (.ref (ad 0))]) RX7 "errorPosition" 1 6 (by decide +kernel) rfl rfl ⟨rfl, rfl⟩ (by simp [Value.category]) (Nat.le_of_ble_eq_true rfl) rfl ?_
  refine pw_aload_n dX7_errorPosition_0 rfl ?_
  refine pw_geti dX7_errorPosition_1 lf_X7_56 sh_0 rfl ?_
  refine pw_iconst dX7_errorPosition_4 (v := (-1)) (by decide) ?_
  refine pw_icmp_ne dX7_errorPosition_5 (tgt := 19) (by decide) (fun c5 => absurd c5 (fun q => q e)) (fun c5 => ?_)
  exact pw_throwNW hfl tw_165_324_169 dX7_errorPosition_8 dX7_errorPosition_11 dX7_errorPosition_12 dX7_errorPosition_15 dX7_errorPosition_18 rfl ⟨Nat.le_of_ble_eq_true rfl, Nat.le_of_ble_eq_true rfl, Nat.le_of_ble_eq_true rfl, Nat.le_of_ble_eq_true rfl⟩ (⟨rfl, rfl⟩) (Nat.le_of_ble_eq_true rfl) (Nat.le_of_ble_eq_true rfl)

set_option maxRecDepth 100000 in
set_option maxHeartbeats 4000000 in
theorem sp_X7_errorPosition_ok {l : Launch} {G : GC} {ad : Nat → Nat} (hfl : l.stackTraces = false) {h : HP} (e : ¬ h 0 9 = -1) : PT l G yX7_errorPosition (.code yX7_errorPosition cX7_errorPosition 1 ((Option.some FieldType.int))) { frames := 6, cells := 1, slots := 6, locals := 90 } [.ref (ad 0)] SW ad (h) (.inl (some (.int (h 0 9)))) (h) := by
  refine PT.mk (L0 := [some (.ref (ad 0))]) RX7 "errorPosition" 1 6 (by decide +kernel) rfl rfl ⟨rfl, rfl⟩ (by simp [Value.category]) (Nat.le_of_ble_eq_true rfl) rfl ?_
  refine pw_aload_n dX7_errorPosition_0 rfl ?_
  refine pw_geti dX7_errorPosition_1 lf_X7_56 sh_0 rfl ?_
  refine pw_iconst dX7_errorPosition_4 (v := (-1)) (by decide) ?_
  refine pw_icmp_ne dX7_errorPosition_5 (tgt := 19) (by decide) (fun c5 => ?_) (fun c5 => absurd c5 (e))
  refine pw_aload_n dX7_errorPosition_19 rfl ?_
  refine pw_geti dX7_errorPosition_20 lf_X7_56 sh_0 rfl ?_
  exact pw_iretT dX7_errorPosition_23 rfl rfl rfl rfl rfl

set_option maxRecDepth 100000 in
set_option maxHeartbeats 4000000 in
theorem sp_X7_addCustomer_no1 {l : Launch} {G : GC} {ad : Nat → Nat} (hfl : l.stackTraces = false) {h : HP} {nL nH nB nC : Nat} {np : Nat → Nat} {pl : Nat → Nat → Nat} (hw : WF h nL nH nB nC np pl) {q : Int32} (e : wiB q 0 2 = false) : PT l G yX7_addCustomer (.code yX7_addCustomer cX7_addCustomer 2 ((Option.some FieldType.int))) { frames := 7, cells := 2, slots := 12, locals := 125 } [.ref (ad 0), .int (q)] SW ad (h) (.inr "java/lang/IllegalArgumentException") (h) := by
  refine PT.mk (L0 := [some (.ref (ad 0)), some (.int (q))]) RX7 "addCustomer" 2 12 (by decide +kernel) rfl rfl ⟨rfl, rfl⟩ (by simp [Value.category]) (Nat.le_of_ble_eq_true rfl) rfl ?_
  refine pw_iload_n dX7_addCustomer_0 rfl ?_
  refine pw_iconst dX7_addCustomer_1 (v := 0) (by decide) ?_
  refine pw_iconst dX7_addCustomer_2 (v := 2) (by decide) ?_
  refine pw_flS dX7_addCustomer_3 (sp_X7_requireNumber_no hfl e) mi_X7_requireNumber ms_X7_requireNumber ml_X7_59 rfl rfl rfl rfl ?_
  exact px_outT rfl rfl rfl rfl

set_option maxRecDepth 100000 in
set_option maxHeartbeats 4000000 in
theorem sp_X7_addCustomer_no2 {l : Launch} {G : GC} {ad : Nat → Nat} (hfl : l.stackTraces = false) {h : HP} {nL nH nB nC : Nat} {np : Nat → Nat} {pl : Nat → Nat → Nat} (hw : WF h nL nH nB nC np pl) {q : Int32} (e : wiB q 0 2 = true) (e2 : nC = 8) : PT l G yX7_addCustomer (.code yX7_addCustomer cX7_addCustomer 2 ((Option.some FieldType.int))) { frames := 7, cells := 2, slots := 12, locals := 125 } [.ref (ad 0), .int (q)] SW ad (h) (.inr "java/lang/IllegalStateException") (h) := by
  refine PT.mk (L0 := [some (.ref (ad 0)), some (.int (q))]) RX7 "addCustomer" 2 12 (by decide +kernel) rfl rfl ⟨rfl, rfl⟩ (by simp [Value.category]) (Nat.le_of_ble_eq_true rfl) rfl ?_
  refine pw_iload_n dX7_addCustomer_0 rfl ?_
  refine pw_iconst dX7_addCustomer_1 (v := 0) (by decide) ?_
  refine pw_iconst dX7_addCustomer_2 (v := 2) (by decide) ?_
  refine pw_okS dX7_addCustomer_3 (sp_X7_requireNumber_ok hfl e) mi_X7_requireNumber ms_X7_requireNumber ml_X7_59 rfl rfl rfl rfl ?_
  refine pw_aload_n dX7_addCustomer_6 rfl ?_
  refine pw_getr dX7_addCustomer_7 lf_X7_10 sh_0 rfl ?_
  refine pw_getr dX7_addCustomer_10 lf_X7_231 sh_1 rfl ?_
  refine pw_geti dX7_addCustomer_13 lf_X7_248 sh_16 rfl ?_
  refine pw_bipush dX7_addCustomer_16 (v := 8) (by decide) ?_
  refine pw_icmp_lt dX7_addCustomer_18 (tgt := 31) (by decide) (fun c18 => absurd c18 (by rw [hw.2.2.2.1.1, e2]; decide)) (fun c18 => ?_)
  exact pw_throwS hfl tw_75_249_79 dX7_addCustomer_21 dX7_addCustomer_24 dX7_addCustomer_25 dX7_addCustomer_27 dX7_addCustomer_30 rfl ⟨Nat.le_of_ble_eq_true rfl, Nat.le_of_ble_eq_true rfl, Nat.le_of_ble_eq_true rfl, Nat.le_of_ble_eq_true rfl⟩ (⟨rfl, rfl⟩) (Nat.le_of_ble_eq_true rfl) (Nat.le_of_ble_eq_true rfl)

set_option maxRecDepth 100000 in
set_option maxHeartbeats 4000000 in
theorem sp_X7_addCustomer_ok {l : Launch} {G : GC} {ad : Nat → Nat} (hfl : l.stackTraces = false) {h : HP} {nL nH nB nC : Nat} {np : Nat → Nat} {pl : Nat → Nat → Nat} (hw : WF h nL nH nB nC np pl) {k c : Nat} (hk : h 49 1 = nI k) (hk8 : k < 8) (hc : h 49 2 = nI c) (hc8 : c ≤ 8) {q : Int32} (e : wiB q 0 2 = true) (e2 : nC < 8) : PT l G yX7_addCustomer (.code yX7_addCustomer cX7_addCustomer 2 ((Option.some FieldType.int))) { frames := 7, cells := 2, slots := 12, locals := 125 } [.ref (ad 0), .int (q)] SW ad (h) (.inl (some (.int (nI nC)))) (hput (hput (remH h 1 k c) 18 (nC * 1 + 0) q) 16 3 (nI (nC + 1))) := by
  refine PT.mk (L0 := [some (.ref (ad 0)), some (.int (q))]) RX7 "addCustomer" 2 12 (by decide +kernel) rfl rfl ⟨rfl, rfl⟩ (by simp [Value.category]) (Nat.le_of_ble_eq_true rfl) rfl ?_
  have hw1 : WF (remH h 1 k c) nL nH nB nC np pl := WF_o hw (fun a ha => remH_o h 1 k c hk8 (Or.inl ha))
  refine pw_iload_n dX7_addCustomer_0 rfl ?_
  refine pw_iconst dX7_addCustomer_1 (v := 0) (by decide) ?_
  refine pw_iconst dX7_addCustomer_2 (v := 2) (by decide) ?_
  refine pw_okS dX7_addCustomer_3 (sp_X7_requireNumber_ok hfl e) mi_X7_requireNumber ms_X7_requireNumber ml_X7_59 rfl rfl rfl rfl ?_
  refine pw_aload_n dX7_addCustomer_6 rfl ?_
  refine pw_getr dX7_addCustomer_7 lf_X7_10 sh_0 rfl ?_
  refine pw_getr dX7_addCustomer_10 lf_X7_231 sh_1 rfl ?_
  refine pw_geti dX7_addCustomer_13 lf_X7_248 sh_16 rfl ?_
  refine pw_bipush dX7_addCustomer_16 (v := 8) (by decide) ?_
  refine pw_icmp_lt dX7_addCustomer_18 (tgt := 31) (by decide) (fun c18 => ?_) (fun c18 => absurd c18 (fun q => q (by rw [hw.2.2.2.1.1]; exact nI_lt (b := 8) e2 (by decide))))
  refine pw_aload_n dX7_addCustomer_31 rfl ?_
  refine pw_getr dX7_addCustomer_32 lf_X7_22 sh_0 rfl ?_
  refine pw_aload_n dX7_addCustomer_35 rfl ?_
  refine pw_getr dX7_addCustomer_36 lf_X7_10 sh_0 rfl ?_
  refine pw_cVn dX7_addCustomer_39 (sp_X2_remember st_1 hk hk8 hc hc8) mi_X2_remember mv_X2_remember ml_X7_82 sh_49 rfl rfl rfl rfl ⟨rfl, rfl⟩ rfl rfl ?_
  refine pw_aload_n dX7_addCustomer_42 rfl ?_
  refine pw_getr dX7_addCustomer_43 lf_X7_10 sh_0 rfl ?_
  refine pw_getr dX7_addCustomer_46 lf_X7_231 sh_1 rfl ?_
  refine pw_iload_n dX7_addCustomer_49 rfl ?_
  refine pw_cV dX7_addCustomer_50 (sp_X1_enter hw1.2.2.2.1.1 e2) mi_X1_enter mv_X1_enter ml_X7_251 sh_16 rfl rfl rfl rfl ⟨rfl, rfl⟩ rfl rfl ?_
  exact pw_iretT dX7_addCustomer_53 rfl rfl rfl rfl rfl

set_option maxRecDepth 100000 in
set_option maxHeartbeats 4000000 in
theorem sp_X7_wish_no1 {l : Launch} {G : GC} {ad : Nat → Nat} (hfl : l.stackTraces = false) {h : HP} {n m q : Int32} (e : wiB n 0 (h 16 3 - 1) = false) : PT l G yX7_wish (.code yX7_wish cX7_wish 5 ((Option.some FieldType.int))) { frames := 8, cells := 3, slots := 18, locals := 133 } [.ref (ad 0), .int (n), .int (m), .int (q)] SW ad (h) (.inr "java/lang/IndexOutOfBoundsException") (h) := by
  refine PT.mk (L0 := [some (.ref (ad 0)), some (.int (n)), some (.int (m)), some (.int (q)), none]) RX7 "wish" 3 18 (by decide +kernel) rfl rfl ⟨rfl, rfl⟩ (by simp [Value.category]) (Nat.le_of_ble_eq_true rfl) rfl ?_
  refine pw_aload_n dX7_wish_0 rfl ?_
  refine pw_iload_n dX7_wish_1 rfl ?_
  refine pw_iload_n dX7_wish_2 rfl ?_
  refine pw_flV dX7_wish_3 (sp_X7_requireCustomerAndBottling_no1 hfl e) mi_X7_requireCustomerAndBottling mv_X7_requireCustomerAndBottling ml_X7_254 sh_0 rfl rfl rfl rfl rfl rfl ?_
  exact px_outT rfl rfl rfl rfl

set_option maxRecDepth 100000 in
set_option maxHeartbeats 4000000 in
theorem sp_X7_wish_no2 {l : Launch} {G : GC} {ad : Nat → Nat} (hfl : l.stackTraces = false) {h : HP} {n m q : Int32} (e : wiB n 0 (h 16 3 - 1) = true) (e2 : wiB m 0 (h 13 1 - 1) = false) : PT l G yX7_wish (.code yX7_wish cX7_wish 5 ((Option.some FieldType.int))) { frames := 8, cells := 3, slots := 18, locals := 133 } [.ref (ad 0), .int (n), .int (m), .int (q)] SW ad (h) (.inr "java/lang/IndexOutOfBoundsException") (h) := by
  refine PT.mk (L0 := [some (.ref (ad 0)), some (.int (n)), some (.int (m)), some (.int (q)), none]) RX7 "wish" 3 18 (by decide +kernel) rfl rfl ⟨rfl, rfl⟩ (by simp [Value.category]) (Nat.le_of_ble_eq_true rfl) rfl ?_
  refine pw_aload_n dX7_wish_0 rfl ?_
  refine pw_iload_n dX7_wish_1 rfl ?_
  refine pw_iload_n dX7_wish_2 rfl ?_
  refine pw_flV dX7_wish_3 (sp_X7_requireCustomerAndBottling_no2 hfl e e2) mi_X7_requireCustomerAndBottling mv_X7_requireCustomerAndBottling ml_X7_254 sh_0 rfl rfl rfl rfl rfl rfl ?_
  exact px_outT rfl rfl rfl rfl

set_option maxRecDepth 100000 in
set_option maxHeartbeats 4000000 in
theorem sp_X7_wish_no3 {l : Launch} {G : GC} {ad : Nat → Nat} (hfl : l.stackTraces = false) {h : HP} {nL nH nB nC : Nat} {np : Nat → Nat} {pl : Nat → Nat → Nat} (hw : WF h nL nH nB nC np pl) {cu b : Nat} (hcu : cu < nC) (hb : b < nB) {q : Int32} (e : wiB q 0 3333 = false) : PT l G yX7_wish (.code yX7_wish cX7_wish 5 ((Option.some FieldType.int))) { frames := 8, cells := 3, slots := 18, locals := 133 } [.ref (ad 0), .int (nI cu), .int (nI b), .int (q)] SW ad (h) (.inr "java/lang/IllegalArgumentException") (h) := by
  refine PT.mk (L0 := [some (.ref (ad 0)), some (.int (nI cu)), some (.int (nI b)), some (.int (q)), none]) RX7 "wish" 3 18 (by decide +kernel) rfl rfl ⟨rfl, rfl⟩ (by simp [Value.category]) (Nat.le_of_ble_eq_true rfl) rfl ?_
  have hb3 := hw.2.2.1.2
  have hb4 := hw.2.2.2.1.2
  have hb16 : b < 16 := by omega
  have hcu8 : cu < 8 := by omega
  refine pw_aload_n dX7_wish_0 rfl ?_
  refine pw_iload_n dX7_wish_1 rfl ?_
  refine pw_iload_n dX7_wish_2 rfl ?_
  refine pw_okV dX7_wish_3 (sp_X7_requireCustomerAndBottling_ok hfl (wi_ok hw.2.2.2.1.1 hcu (by omega)) (wi_ok hw.2.2.1.1 hb (by omega))) mi_X7_requireCustomerAndBottling mv_X7_requireCustomerAndBottling ml_X7_254 sh_0 rfl rfl rfl rfl rfl rfl ?_
  refine pw_iload_n dX7_wish_6 rfl ?_
  refine pw_iconst dX7_wish_7 (v := 0) (by decide) ?_
  refine pw_sipush dX7_wish_8 (v := 3333) (by decide) ?_
  refine pw_flS dX7_wish_11 (sp_X7_requireNumber_no hfl e) mi_X7_requireNumber ms_X7_requireNumber ml_X7_59 rfl rfl rfl rfl ?_
  exact px_outT rfl rfl rfl rfl

set_option maxRecDepth 100000 in
set_option maxHeartbeats 4000000 in
theorem sp_X7_wish_ok {l : Launch} {G : GC} {ad : Nat → Nat} (hfl : l.stackTraces = false) {h : HP} {nL nH nB nC : Nat} {np : Nat → Nat} {pl : Nat → Nat → Nat} (hw : WF h nL nH nB nC np pl) {cu b : Nat} (hcu : cu < nC) (hb : b < nB) {k c : Nat} (hk : h 49 1 = nI k) (hk8 : k < 8) (hc : h 49 2 = nI c) (hc8 : c ≤ 8) {q : Int32} (e : wiB q 0 3333 = true) : PT l G yX7_wish (.code yX7_wish cX7_wish 5 ((Option.some FieldType.int))) { frames := 8, cells := 3, slots := 18, locals := 133 } [.ref (ad 0), .int (nI cu), .int (nI b), .int (q)] SW ad (h) (.inl (some (.int (h 22 (cu * 16 + b))))) (wisH (remH h 1 k c) cu b q) := by
  refine PT.mk (L0 := [some (.ref (ad 0)), some (.int (nI cu)), some (.int (nI b)), some (.int (q)), none]) RX7 "wish" 3 18 (by decide +kernel) rfl rfl ⟨rfl, rfl⟩ (by simp [Value.category]) (Nat.le_of_ble_eq_true rfl) rfl ?_
  have hb3 := hw.2.2.1.2
  have hb4 := hw.2.2.2.1.2
  have hb16 : b < 16 := by omega
  have hcu8 : cu < 8 := by omega
  refine pw_aload_n dX7_wish_0 rfl ?_
  refine pw_iload_n dX7_wish_1 rfl ?_
  refine pw_iload_n dX7_wish_2 rfl ?_
  refine pw_okV dX7_wish_3 (sp_X7_requireCustomerAndBottling_ok hfl (wi_ok hw.2.2.2.1.1 hcu (by omega)) (wi_ok hw.2.2.1.1 hb (by omega))) mi_X7_requireCustomerAndBottling mv_X7_requireCustomerAndBottling ml_X7_254 sh_0 rfl rfl rfl rfl rfl rfl ?_
  refine pw_iload_n dX7_wish_6 rfl ?_
  refine pw_iconst dX7_wish_7 (v := 0) (by decide) ?_
  refine pw_sipush dX7_wish_8 (v := 3333) (by decide) ?_
  refine pw_okS dX7_wish_11 (sp_X7_requireNumber_ok hfl e) mi_X7_requireNumber ms_X7_requireNumber ml_X7_59 rfl rfl rfl rfl ?_
  refine pw_aload_n dX7_wish_14 rfl ?_
  refine pw_getr dX7_wish_15 lf_X7_22 sh_0 rfl ?_
  refine pw_aload_n dX7_wish_18 rfl ?_
  refine pw_getr dX7_wish_19 lf_X7_10 sh_0 rfl ?_
  refine pw_cVn dX7_wish_22 (sp_X2_remember st_1 hk hk8 hc hc8) mi_X2_remember mv_X2_remember ml_X7_82 sh_49 rfl rfl rfl rfl ⟨rfl, rfl⟩ rfl rfl ?_
  refine pw_aload_n dX7_wish_25 rfl ?_
  refine pw_getr dX7_wish_26 lf_X7_10 sh_0 rfl ?_
  refine pw_getr dX7_wish_29 lf_X7_231 sh_1 rfl ?_
  refine pw_getr dX7_wish_32 lf_X7_257 sh_16 rfl ?_
  refine pw_iload_n dX7_wish_35 rfl ?_
  refine pw_iload_n dX7_wish_36 rfl ?_
  refine pw_cV dX7_wish_37 (sp_X6_at tq_21 (r := cu) (k := b) rfl rfl (hcu8) (hb16)) mi_X6_at mv_X6_at ml_X7_155 sh_21 rfl rfl rfl rfl ⟨rfl, rfl⟩ rfl rfl ?_
  refine pw_istore dX7_wish_40 (by decide) rfl ?_
  refine pw_aload_n dX7_wish_42 rfl ?_
  refine pw_getr dX7_wish_43 lf_X7_10 sh_0 rfl ?_
  refine pw_getr dX7_wish_46 lf_X7_231 sh_1 rfl ?_
  refine pw_getr dX7_wish_49 lf_X7_257 sh_16 rfl ?_
  refine pw_iload_n dX7_wish_52 rfl ?_
  refine pw_iload_n dX7_wish_53 rfl ?_
  refine pw_iload_n dX7_wish_54 rfl ?_
  refine pw_cVn dX7_wish_55 (sp_X6_put tq_21 (r := cu) (k := b) rfl rfl (hcu8) (hb16)) mi_X6_put mv_X6_put ml_X7_202 sh_21 rfl rfl rfl rfl ⟨rfl, rfl⟩ rfl rfl ?_
  refine pw_iload dX7_wish_58 rfl ?_
  exact pw_iretT dX7_wish_60 rfl rfl rfl (by rw [remH_o h 1 k c hk8 (Or.inl (by decide))]) rfl

set_option maxRecDepth 100000 in
set_option maxHeartbeats 4000000 in
theorem sp_X7_giveBack_no1 {l : Launch} {G : GC} {ad : Nat → Nat} (hfl : l.stackTraces = false) {h : HP} {n m q : Int32} (e : wiB n 0 (h 16 3 - 1) = false) : PT l G yX7_giveBack (.code yX7_giveBack cX7_giveBack 4 ((Option.some FieldType.int))) { frames := 8, cells := 3, slots := 18, locals := 133 } [.ref (ad 0), .int (n), .int (m), .int (q)] SW ad (h) (.inr "java/lang/IndexOutOfBoundsException") (h) := by
  refine PT.mk (L0 := [some (.ref (ad 0)), some (.int (n)), some (.int (m)), some (.int (q))]) RX7 "giveBack" 3 18 (by decide +kernel) rfl rfl ⟨rfl, rfl⟩ (by simp [Value.category]) (Nat.le_of_ble_eq_true rfl) rfl ?_
  refine pw_aload_n dX7_giveBack_0 rfl ?_
  refine pw_iload_n dX7_giveBack_1 rfl ?_
  refine pw_iload_n dX7_giveBack_2 rfl ?_
  refine pw_flV dX7_giveBack_3 (sp_X7_requireCustomerAndBottling_no1 hfl e) mi_X7_requireCustomerAndBottling mv_X7_requireCustomerAndBottling ml_X7_254 sh_0 rfl rfl rfl rfl rfl rfl ?_
  exact px_outT rfl rfl rfl rfl

set_option maxRecDepth 100000 in
set_option maxHeartbeats 4000000 in
theorem sp_X7_giveBack_no2 {l : Launch} {G : GC} {ad : Nat → Nat} (hfl : l.stackTraces = false) {h : HP} {n m q : Int32} (e : wiB n 0 (h 16 3 - 1) = true) (e2 : wiB m 0 (h 13 1 - 1) = false) : PT l G yX7_giveBack (.code yX7_giveBack cX7_giveBack 4 ((Option.some FieldType.int))) { frames := 8, cells := 3, slots := 18, locals := 133 } [.ref (ad 0), .int (n), .int (m), .int (q)] SW ad (h) (.inr "java/lang/IndexOutOfBoundsException") (h) := by
  refine PT.mk (L0 := [some (.ref (ad 0)), some (.int (n)), some (.int (m)), some (.int (q))]) RX7 "giveBack" 3 18 (by decide +kernel) rfl rfl ⟨rfl, rfl⟩ (by simp [Value.category]) (Nat.le_of_ble_eq_true rfl) rfl ?_
  refine pw_aload_n dX7_giveBack_0 rfl ?_
  refine pw_iload_n dX7_giveBack_1 rfl ?_
  refine pw_iload_n dX7_giveBack_2 rfl ?_
  refine pw_flV dX7_giveBack_3 (sp_X7_requireCustomerAndBottling_no2 hfl e e2) mi_X7_requireCustomerAndBottling mv_X7_requireCustomerAndBottling ml_X7_254 sh_0 rfl rfl rfl rfl rfl rfl ?_
  exact px_outT rfl rfl rfl rfl

set_option maxRecDepth 100000 in
set_option maxHeartbeats 4000000 in
theorem sp_X7_giveBack_no3 {l : Launch} {G : GC} {ad : Nat → Nat} (hfl : l.stackTraces = false) {h : HP} {nL nH nB nC : Nat} {np : Nat → Nat} {pl : Nat → Nat → Nat} (hw : WF h nL nH nB nC np pl) {cu b : Nat} (hcu : cu < nC) (hb : b < nB) {q : Int32} (e : wiB q 1 (mnI 3333 (h 20 (cu * 16 + b))) = false) : PT l G yX7_giveBack (.code yX7_giveBack cX7_giveBack 4 ((Option.some FieldType.int))) { frames := 8, cells := 3, slots := 18, locals := 133 } [.ref (ad 0), .int (nI cu), .int (nI b), .int (q)] SW ad (h) (.inr "java/lang/IllegalArgumentException") (h) := by
  refine PT.mk (L0 := [some (.ref (ad 0)), some (.int (nI cu)), some (.int (nI b)), some (.int (q))]) RX7 "giveBack" 3 18 (by decide +kernel) rfl rfl ⟨rfl, rfl⟩ (by simp [Value.category]) (Nat.le_of_ble_eq_true rfl) rfl ?_
  have hb3 := hw.2.2.1.2
  have hb4 := hw.2.2.2.1.2
  have hb16 : b < 16 := by omega
  have hcu8 : cu < 8 := by omega
  refine pw_aload_n dX7_giveBack_0 rfl ?_
  refine pw_iload_n dX7_giveBack_1 rfl ?_
  refine pw_iload_n dX7_giveBack_2 rfl ?_
  refine pw_okV dX7_giveBack_3 (sp_X7_requireCustomerAndBottling_ok hfl (wi_ok hw.2.2.2.1.1 hcu (by omega)) (wi_ok hw.2.2.1.1 hb (by omega))) mi_X7_requireCustomerAndBottling mv_X7_requireCustomerAndBottling ml_X7_254 sh_0 rfl rfl rfl rfl rfl rfl ?_
  refine pw_iload_n dX7_giveBack_6 rfl ?_
  refine pw_iconst dX7_giveBack_7 (v := 1) (by decide) ?_
  refine pw_sipush dX7_giveBack_8 (v := 3333) (by decide) ?_
  refine pw_aload_n dX7_giveBack_11 rfl ?_
  refine pw_getr dX7_giveBack_12 lf_X7_10 sh_0 rfl ?_
  refine pw_getr dX7_giveBack_15 lf_X7_231 sh_1 rfl ?_
  refine pw_getr dX7_giveBack_18 lf_X7_270 sh_16 rfl ?_
  refine pw_iload_n dX7_giveBack_21 rfl ?_
  refine pw_iload_n dX7_giveBack_22 rfl ?_
  refine pw_cV dX7_giveBack_23 (sp_X6_at tq_19 (r := cu) (k := b) rfl rfl (hcu8) (hb16)) mi_X6_at mv_X6_at ml_X7_155 sh_19 rfl rfl rfl rfl ⟨rfl, rfl⟩ rfl rfl ?_
  refine pw_min dX7_giveBack_26 mm_X7_129 mw_min ⟨Nat.le_of_ble_eq_true rfl, Nat.le_of_ble_eq_true rfl, Nat.le_of_ble_eq_true rfl, Nat.le_of_ble_eq_true rfl⟩ ?_
  refine pw_flS dX7_giveBack_29 (sp_X7_requireNumber_no hfl e) mi_X7_requireNumber ms_X7_requireNumber ml_X7_59 rfl rfl rfl rfl ?_
  exact px_outT rfl rfl rfl rfl

set_option maxRecDepth 100000 in
set_option maxHeartbeats 4000000 in
theorem sp_X7_giveBack_ok {l : Launch} {G : GC} {ad : Nat → Nat} (hfl : l.stackTraces = false) {h : HP} {nL nH nB nC : Nat} {np : Nat → Nat} {pl : Nat → Nat → Nat} (hw : WF h nL nH nB nC np pl) {cu b : Nat} (hcu : cu < nC) (hb : b < nB) {k c : Nat} (hk : h 49 1 = nI k) (hk8 : k < 8) (hc : h 49 2 = nI c) (hc8 : c ≤ 8) {q : Int32} (e : wiB q 1 (mnI 3333 (h 20 (cu * 16 + b))) = true) : PT l G yX7_giveBack (.code yX7_giveBack cX7_giveBack 4 ((Option.some FieldType.int))) { frames := 8, cells := 3, slots := 18, locals := 133 } [.ref (ad 0), .int (nI cu), .int (nI b), .int (q)] SW ad (h) (.inl (some (.int (h 20 (cu * 16 + b) + (-q))))) (gbkH (remH h 1 k c) cu b q) := by
  refine PT.mk (L0 := [some (.ref (ad 0)), some (.int (nI cu)), some (.int (nI b)), some (.int (q))]) RX7 "giveBack" 3 18 (by decide +kernel) rfl rfl ⟨rfl, rfl⟩ (by simp [Value.category]) (Nat.le_of_ble_eq_true rfl) rfl ?_
  have hb3 := hw.2.2.1.2
  have hb4 := hw.2.2.2.1.2
  have hb16 : b < 16 := by omega
  have hcu8 : cu < 8 := by omega
  refine pw_aload_n dX7_giveBack_0 rfl ?_
  refine pw_iload_n dX7_giveBack_1 rfl ?_
  refine pw_iload_n dX7_giveBack_2 rfl ?_
  refine pw_okV dX7_giveBack_3 (sp_X7_requireCustomerAndBottling_ok hfl (wi_ok hw.2.2.2.1.1 hcu (by omega)) (wi_ok hw.2.2.1.1 hb (by omega))) mi_X7_requireCustomerAndBottling mv_X7_requireCustomerAndBottling ml_X7_254 sh_0 rfl rfl rfl rfl rfl rfl ?_
  refine pw_iload_n dX7_giveBack_6 rfl ?_
  refine pw_iconst dX7_giveBack_7 (v := 1) (by decide) ?_
  refine pw_sipush dX7_giveBack_8 (v := 3333) (by decide) ?_
  refine pw_aload_n dX7_giveBack_11 rfl ?_
  refine pw_getr dX7_giveBack_12 lf_X7_10 sh_0 rfl ?_
  refine pw_getr dX7_giveBack_15 lf_X7_231 sh_1 rfl ?_
  refine pw_getr dX7_giveBack_18 lf_X7_270 sh_16 rfl ?_
  refine pw_iload_n dX7_giveBack_21 rfl ?_
  refine pw_iload_n dX7_giveBack_22 rfl ?_
  refine pw_cV dX7_giveBack_23 (sp_X6_at tq_19 (r := cu) (k := b) rfl rfl (hcu8) (hb16)) mi_X6_at mv_X6_at ml_X7_155 sh_19 rfl rfl rfl rfl ⟨rfl, rfl⟩ rfl rfl ?_
  refine pw_min dX7_giveBack_26 mm_X7_129 mw_min ⟨Nat.le_of_ble_eq_true rfl, Nat.le_of_ble_eq_true rfl, Nat.le_of_ble_eq_true rfl, Nat.le_of_ble_eq_true rfl⟩ ?_
  refine pw_okS dX7_giveBack_29 (sp_X7_requireNumber_ok hfl e) mi_X7_requireNumber ms_X7_requireNumber ml_X7_59 rfl rfl rfl rfl ?_
  refine pw_aload_n dX7_giveBack_32 rfl ?_
  refine pw_getr dX7_giveBack_33 lf_X7_22 sh_0 rfl ?_
  refine pw_aload_n dX7_giveBack_36 rfl ?_
  refine pw_getr dX7_giveBack_37 lf_X7_10 sh_0 rfl ?_
  refine pw_cVn dX7_giveBack_40 (sp_X2_remember st_1 hk hk8 hc hc8) mi_X2_remember mv_X2_remember ml_X7_82 sh_49 rfl rfl rfl rfl ⟨rfl, rfl⟩ rfl rfl ?_
  refine pw_aload_n dX7_giveBack_43 rfl ?_
  refine pw_getr dX7_giveBack_44 lf_X7_10 sh_0 rfl ?_
  refine pw_getr dX7_giveBack_47 lf_X7_213 sh_1 rfl ?_
  refine pw_iload_n dX7_giveBack_50 rfl ?_
  refine pw_iload_n dX7_giveBack_51 rfl ?_
  refine pw_cVn dX7_giveBack_52 (sp_X0_addToStock hb16) mi_X0_addToStock mv_X0_addToStock ml_X7_267 sh_13 rfl rfl rfl rfl ⟨rfl, rfl⟩ rfl rfl ?_
  refine pw_aload_n dX7_giveBack_55 rfl ?_
  refine pw_getr dX7_giveBack_56 lf_X7_10 sh_0 rfl ?_
  refine pw_getr dX7_giveBack_59 lf_X7_231 sh_1 rfl ?_
  refine pw_iload_n dX7_giveBack_62 rfl ?_
  refine pw_iload_n dX7_giveBack_63 rfl ?_
  refine pw_iload_n dX7_giveBack_64 rfl ?_
  refine pw_cV dX7_giveBack_65 (sp_X1_handIn hcu8 hb16) mi_X1_handIn mv_X1_handIn ml_X7_273 sh_16 rfl rfl rfl rfl ⟨rfl, rfl⟩ rfl rfl ?_
  exact pw_iretT dX7_giveBack_68 rfl rfl rfl (by simp only [hput]; rw [remH_o h 1 k c hk8 (Or.inl (by decide : 20 < 49))]; rfl) rfl

set_option maxRecDepth 100000 in
set_option maxHeartbeats 4000000 in
theorem sp_X7_holds_no1 {l : Launch} {G : GC} {ad : Nat → Nat} (hfl : l.stackTraces = false) {h : HP} {n m q : Int32} (e : wiB n 0 (h 16 3 - 1) = false) : PT l G yX7_holds (.code yX7_holds cX7_holds 4 ((Option.some FieldType.int))) { frames := 8, cells := 3, slots := 18, locals := 133 } [.ref (ad 0), .int (n), .int (m), .int (q)] SW ad (h) (.inr "java/lang/IndexOutOfBoundsException") (h) := by
  refine PT.mk (L0 := [some (.ref (ad 0)), some (.int (n)), some (.int (m)), some (.int (q))]) RX7 "holds" 3 18 (by decide +kernel) rfl rfl ⟨rfl, rfl⟩ (by simp [Value.category]) (Nat.le_of_ble_eq_true rfl) rfl ?_
  refine pw_aload_n dX7_holds_0 rfl ?_
  refine pw_iload_n dX7_holds_1 rfl ?_
  refine pw_iload_n dX7_holds_2 rfl ?_
  refine pw_flV dX7_holds_3 (sp_X7_requireCustomerAndBottling_no1 hfl e) mi_X7_requireCustomerAndBottling mv_X7_requireCustomerAndBottling ml_X7_254 sh_0 rfl rfl rfl rfl rfl rfl ?_
  exact px_outT rfl rfl rfl rfl

set_option maxRecDepth 100000 in
set_option maxHeartbeats 4000000 in
theorem sp_X7_holds_no2 {l : Launch} {G : GC} {ad : Nat → Nat} (hfl : l.stackTraces = false) {h : HP} {n m q : Int32} (e : wiB n 0 (h 16 3 - 1) = true) (e2 : wiB m 0 (h 13 1 - 1) = false) : PT l G yX7_holds (.code yX7_holds cX7_holds 4 ((Option.some FieldType.int))) { frames := 8, cells := 3, slots := 18, locals := 133 } [.ref (ad 0), .int (n), .int (m), .int (q)] SW ad (h) (.inr "java/lang/IndexOutOfBoundsException") (h) := by
  refine PT.mk (L0 := [some (.ref (ad 0)), some (.int (n)), some (.int (m)), some (.int (q))]) RX7 "holds" 3 18 (by decide +kernel) rfl rfl ⟨rfl, rfl⟩ (by simp [Value.category]) (Nat.le_of_ble_eq_true rfl) rfl ?_
  refine pw_aload_n dX7_holds_0 rfl ?_
  refine pw_iload_n dX7_holds_1 rfl ?_
  refine pw_iload_n dX7_holds_2 rfl ?_
  refine pw_flV dX7_holds_3 (sp_X7_requireCustomerAndBottling_no2 hfl e e2) mi_X7_requireCustomerAndBottling mv_X7_requireCustomerAndBottling ml_X7_254 sh_0 rfl rfl rfl rfl rfl rfl ?_
  exact px_outT rfl rfl rfl rfl

set_option maxRecDepth 100000 in
set_option maxHeartbeats 4000000 in
theorem sp_X7_holds_no3 {l : Launch} {G : GC} {ad : Nat → Nat} (hfl : l.stackTraces = false) {h : HP} {nL nH nB nC : Nat} {np : Nat → Nat} {pl : Nat → Nat → Nat} (hw : WF h nL nH nB nC np pl) {cu b : Nat} (hcu : cu < nC) (hb : b < nB) {q : Int32} (e : wiB q 0 2 = false) : PT l G yX7_holds (.code yX7_holds cX7_holds 4 ((Option.some FieldType.int))) { frames := 8, cells := 3, slots := 18, locals := 133 } [.ref (ad 0), .int (nI cu), .int (nI b), .int (q)] SW ad (h) (.inr "java/lang/IllegalArgumentException") (h) := by
  refine PT.mk (L0 := [some (.ref (ad 0)), some (.int (nI cu)), some (.int (nI b)), some (.int (q))]) RX7 "holds" 3 18 (by decide +kernel) rfl rfl ⟨rfl, rfl⟩ (by simp [Value.category]) (Nat.le_of_ble_eq_true rfl) rfl ?_
  have hb3 := hw.2.2.1.2
  have hb4 := hw.2.2.2.1.2
  have hb16 : b < 16 := by omega
  have hcu8 : cu < 8 := by omega
  refine pw_aload_n dX7_holds_0 rfl ?_
  refine pw_iload_n dX7_holds_1 rfl ?_
  refine pw_iload_n dX7_holds_2 rfl ?_
  refine pw_okV dX7_holds_3 (sp_X7_requireCustomerAndBottling_ok hfl (wi_ok hw.2.2.2.1.1 hcu (by omega)) (wi_ok hw.2.2.1.1 hb (by omega))) mi_X7_requireCustomerAndBottling mv_X7_requireCustomerAndBottling ml_X7_254 sh_0 rfl rfl rfl rfl rfl rfl ?_
  refine pw_iload_n dX7_holds_6 rfl ?_
  refine pw_iconst dX7_holds_7 (v := 0) (by decide) ?_
  refine pw_iconst dX7_holds_8 (v := 2) (by decide) ?_
  refine pw_flS dX7_holds_9 (sp_X7_requireNumber_no hfl e) mi_X7_requireNumber ms_X7_requireNumber ml_X7_59 rfl rfl rfl rfl ?_
  exact px_outT rfl rfl rfl rfl

set_option maxRecDepth 100000 in
set_option maxHeartbeats 4000000 in
theorem sp_X7_holds_k0 {l : Launch} {G : GC} {ad : Nat → Nat} (hfl : l.stackTraces = false) {h : HP} {nL nH nB nC : Nat} {np : Nat → Nat} {pl : Nat → Nat → Nat} (hw : WF h nL nH nB nC np pl) {cu b : Nat} (hcu : cu < nC) (hb : b < nB)  : PT l G yX7_holds (.code yX7_holds cX7_holds 4 ((Option.some FieldType.int))) { frames := 8, cells := 3, slots := 18, locals := 133 } [.ref (ad 0), .int (nI cu), .int (nI b), .int (0)] SW ad (h) (.inl (some (.int (h 20 (cu * 16 + b))))) (h) := by
  refine PT.mk (L0 := [some (.ref (ad 0)), some (.int (nI cu)), some (.int (nI b)), some (.int (0))]) RX7 "holds" 3 18 (by decide +kernel) rfl rfl ⟨rfl, rfl⟩ (by simp [Value.category]) (Nat.le_of_ble_eq_true rfl) rfl ?_
  have hb3 := hw.2.2.1.2
  have hb4 := hw.2.2.2.1.2
  have hb16 : b < 16 := by omega
  have hcu8 : cu < 8 := by omega
  refine pw_aload_n dX7_holds_0 rfl ?_
  refine pw_iload_n dX7_holds_1 rfl ?_
  refine pw_iload_n dX7_holds_2 rfl ?_
  refine pw_okV dX7_holds_3 (sp_X7_requireCustomerAndBottling_ok hfl (wi_ok hw.2.2.2.1.1 hcu (by omega)) (wi_ok hw.2.2.1.1 hb (by omega))) mi_X7_requireCustomerAndBottling mv_X7_requireCustomerAndBottling ml_X7_254 sh_0 rfl rfl rfl rfl rfl rfl ?_
  refine pw_iload_n dX7_holds_6 rfl ?_
  refine pw_iconst dX7_holds_7 (v := 0) (by decide) ?_
  refine pw_iconst dX7_holds_8 (v := 2) (by decide) ?_
  refine pw_okS dX7_holds_9 (sp_X7_requireNumber_ok hfl (by decide)) mi_X7_requireNumber ms_X7_requireNumber ml_X7_59 rfl rfl rfl rfl ?_
  refine pw_iload_n dX7_holds_12 rfl ?_
  refine pw_if_ne dX7_holds_13 (tgt := 32) (by decide) (fun c13 => absurd c13 (fun q => q rfl)) (fun c13 => ?_)
  refine pw_aload_n dX7_holds_16 rfl ?_
  refine pw_getr dX7_holds_17 lf_X7_10 sh_0 rfl ?_
  refine pw_getr dX7_holds_20 lf_X7_231 sh_1 rfl ?_
  refine pw_getr dX7_holds_23 lf_X7_270 sh_16 rfl ?_
  refine pw_iload_n dX7_holds_26 rfl ?_
  refine pw_iload_n dX7_holds_27 rfl ?_
  refine pw_cV dX7_holds_28 (sp_X6_at tq_19 (r := cu) (k := b) rfl rfl (hcu8) (hb16)) mi_X6_at mv_X6_at ml_X7_155 sh_19 rfl rfl rfl rfl ⟨rfl, rfl⟩ rfl rfl ?_
  exact pw_iretT dX7_holds_31 rfl rfl rfl rfl rfl

set_option maxRecDepth 100000 in
set_option maxHeartbeats 4000000 in
theorem sp_X7_holds_k1 {l : Launch} {G : GC} {ad : Nat → Nat} (hfl : l.stackTraces = false) {h : HP} {nL nH nB nC : Nat} {np : Nat → Nat} {pl : Nat → Nat → Nat} (hw : WF h nL nH nB nC np pl) {cu b : Nat} (hcu : cu < nC) (hb : b < nB)  : PT l G yX7_holds (.code yX7_holds cX7_holds 4 ((Option.some FieldType.int))) { frames := 8, cells := 3, slots := 18, locals := 133 } [.ref (ad 0), .int (nI cu), .int (nI b), .int (1)] SW ad (h) (.inl (some (.int (h 22 (cu * 16 + b))))) (h) := by
  refine PT.mk (L0 := [some (.ref (ad 0)), some (.int (nI cu)), some (.int (nI b)), some (.int (1))]) RX7 "holds" 3 18 (by decide +kernel) rfl rfl ⟨rfl, rfl⟩ (by simp [Value.category]) (Nat.le_of_ble_eq_true rfl) rfl ?_
  have hb3 := hw.2.2.1.2
  have hb4 := hw.2.2.2.1.2
  have hb16 : b < 16 := by omega
  have hcu8 : cu < 8 := by omega
  refine pw_aload_n dX7_holds_0 rfl ?_
  refine pw_iload_n dX7_holds_1 rfl ?_
  refine pw_iload_n dX7_holds_2 rfl ?_
  refine pw_okV dX7_holds_3 (sp_X7_requireCustomerAndBottling_ok hfl (wi_ok hw.2.2.2.1.1 hcu (by omega)) (wi_ok hw.2.2.1.1 hb (by omega))) mi_X7_requireCustomerAndBottling mv_X7_requireCustomerAndBottling ml_X7_254 sh_0 rfl rfl rfl rfl rfl rfl ?_
  refine pw_iload_n dX7_holds_6 rfl ?_
  refine pw_iconst dX7_holds_7 (v := 0) (by decide) ?_
  refine pw_iconst dX7_holds_8 (v := 2) (by decide) ?_
  refine pw_okS dX7_holds_9 (sp_X7_requireNumber_ok hfl (by decide)) mi_X7_requireNumber ms_X7_requireNumber ml_X7_59 rfl rfl rfl rfl ?_
  refine pw_iload_n dX7_holds_12 rfl ?_
  refine pw_if_ne dX7_holds_13 (tgt := 32) (by decide) (fun c13 => ?_) (fun c13 => absurd c13 (by decide))
  refine pw_iload_n dX7_holds_32 rfl ?_
  refine pw_iconst dX7_holds_33 (v := 1) (by decide) ?_
  refine pw_icmp_ne dX7_holds_34 (tgt := 53) (by decide) (fun c34 => absurd c34 (fun q => q rfl)) (fun c34 => ?_)
  refine pw_aload_n dX7_holds_37 rfl ?_
  refine pw_getr dX7_holds_38 lf_X7_10 sh_0 rfl ?_
  refine pw_getr dX7_holds_41 lf_X7_231 sh_1 rfl ?_
  refine pw_getr dX7_holds_44 lf_X7_257 sh_16 rfl ?_
  refine pw_iload_n dX7_holds_47 rfl ?_
  refine pw_iload_n dX7_holds_48 rfl ?_
  refine pw_cV dX7_holds_49 (sp_X6_at tq_21 (r := cu) (k := b) rfl rfl (hcu8) (hb16)) mi_X6_at mv_X6_at ml_X7_155 sh_21 rfl rfl rfl rfl ⟨rfl, rfl⟩ rfl rfl ?_
  exact pw_iretT dX7_holds_52 rfl rfl rfl rfl rfl

set_option maxRecDepth 100000 in
set_option maxHeartbeats 4000000 in
theorem sp_X7_holds_k2 {l : Launch} {G : GC} {ad : Nat → Nat} (hfl : l.stackTraces = false) {h : HP} {nL nH nB nC : Nat} {np : Nat → Nat} {pl : Nat → Nat → Nat} (hw : WF h nL nH nB nC np pl) {cu b : Nat} (hcu : cu < nC) (hb : b < nB) (hl8 : (lnK h b nC 3).2 ≤ 8)  : PT l G yX7_holds (.code yX7_holds cX7_holds 4 ((Option.some FieldType.int))) { frames := 8, cells := 3, slots := 18, locals := 133 } [.ref (ad 0), .int (nI cu), .int (nI b), .int (2)] SW ad (h) (.inl (some (.int (firstF (fun j => decide ((lnK h b nC 3).1 248 j = nI cu)) 0 (lnK h b nC 3).2)))) ((lnK h b nC 3).1) := by
  refine PT.mk (L0 := [some (.ref (ad 0)), some (.int (nI cu)), some (.int (nI b)), some (.int (2))]) RX7 "holds" 3 18 (by decide +kernel) rfl rfl ⟨rfl, rfl⟩ (by simp [Value.category]) (Nat.le_of_ble_eq_true rfl) rfl ?_
  have hb3 := hw.2.2.1.2
  have hb4 := hw.2.2.2.1.2
  have hb16 : b < 16 := by omega
  have hcu8 : cu < 8 := by omega
  refine pw_aload_n dX7_holds_0 rfl ?_
  refine pw_iload_n dX7_holds_1 rfl ?_
  refine pw_iload_n dX7_holds_2 rfl ?_
  refine pw_okV dX7_holds_3 (sp_X7_requireCustomerAndBottling_ok hfl (wi_ok hw.2.2.2.1.1 hcu (by omega)) (wi_ok hw.2.2.1.1 hb (by omega))) mi_X7_requireCustomerAndBottling mv_X7_requireCustomerAndBottling ml_X7_254 sh_0 rfl rfl rfl rfl rfl rfl ?_
  refine pw_iload_n dX7_holds_6 rfl ?_
  refine pw_iconst dX7_holds_7 (v := 0) (by decide) ?_
  refine pw_iconst dX7_holds_8 (v := 2) (by decide) ?_
  refine pw_okS dX7_holds_9 (sp_X7_requireNumber_ok hfl (by decide)) mi_X7_requireNumber ms_X7_requireNumber ml_X7_59 rfl rfl rfl rfl ?_
  refine pw_iload_n dX7_holds_12 rfl ?_
  refine pw_if_ne dX7_holds_13 (tgt := 32) (by decide) (fun c13 => ?_) (fun c13 => absurd c13 (by decide))
  refine pw_iload_n dX7_holds_32 rfl ?_
  refine pw_iconst dX7_holds_33 (v := 1) (by decide) ?_
  refine pw_icmp_ne dX7_holds_34 (tgt := 53) (by decide) (fun c34 => ?_) (fun c34 => absurd c34 (by decide))
  refine pw_aload_n dX7_holds_53 rfl ?_
  refine pw_getr dX7_holds_54 lf_X7_38 sh_0 rfl ?_
  refine pw_iload_n dX7_holds_57 rfl ?_
  refine pw_aload_n dX7_holds_58 rfl ?_
  refine pw_getr dX7_holds_59 lf_X7_10 sh_0 rfl ?_
  refine pw_getr dX7_holds_62 lf_X7_231 sh_1 rfl ?_
  refine pw_iload_n dX7_holds_65 rfl ?_
  refine pw_aload_n dX7_holds_66 rfl ?_
  refine pw_getr dX7_holds_67 lf_X7_38 sh_0 rfl ?_
  refine pw_cV dX7_holds_70 (sp_X1_lineUp hw.2.2.2.1.1 hb4 hb16) mi_X1_lineUp mv_X1_lineUp ml_X7_235 sh_16 rfl rfl rfl rfl ⟨rfl, rfl⟩ rfl rfl ?_
  refine pw_cV dX7_holds_73 (sp_X6_columnOf tq_247 hl8 (by decide)) mi_X6_columnOf mv_X6_columnOf ml_X7_276 sh_247 rfl rfl rfl rfl ⟨rfl, rfl⟩ rfl rfl ?_
  exact pw_iretT dX7_holds_76 rfl rfl rfl rfl rfl

