/-! THE BOOK'S CALLS -/
theorem remH_o (h : HP) (p k c : Nat) {a : Nat} (hk : k < 8) (ha : a < 49 ∨ 242 < a) : remH h p k c a = h a := by
  have h9 : a ≠ 49 := by omega
  funext j
  rw [remH, hput_ne _ _ _ h9, hput_ne _ _ _ h9, cpS_o _ _ _ (by omega)]
theorem WF_o {h h' : HP} {nL nH nB nC : Nat} {np : Nat → Nat} {pl : Nat → Nat → Nat} (hw : WF h nL nH nB nC np pl) (ho : ∀ a, a < 49 → h' a = h a) : WF h' nL nH nB nC np pl := by
  unfold WF
  rw [ho 2 (by decide), ho 13 (by decide), ho 16 (by decide), ho 4 (by decide), ho 6 (by decide)]
  exact hw
def binH (h : HP) (nL nH : Nat) (v g r q : Int32) : HP := hput (entH (hput (hput (hput (hput h 12 (nH * 3 + 0) v) 12 (nH * 3 + 1) g) 12 (nH * 3 + 2) r) 2 6 (nI (nH + 1))) nL q 0 0 (nI nH)) 10 (nL * 12 + nH) 1000
def spiH (h : HP) (lot : Nat) (q : Int32) : HP := hput (hput h 4 (lot * 5 + 1) (h 4 (lot * 5 + 1) + (-q))) 2 7 (h 2 7 + q)
def botH (h : HP) (lot nB : Nat) (b v g s r : Int32) : HP := labH (filH (hput h 4 (lot * 5 + 1) (h 4 (lot * 5 + 1) + (-(b * 3)))) nB (nI lot) b) nB v g s r
set_option maxRecDepth 100000 in
set_option maxHeartbeats 4000000 in
theorem sp_X7_harvest_no1 {l : Launch} {G : GC} {ad : Nat → Nat} (hfl : l.stackTraces = false) {h : HP} {nL nH nB nC : Nat} {np : Nat → Nat} {pl : Nat → Nat → Nat} (hw : WF h nL nH nB nC np pl) {v g r q : Int32} (e1 : wiB v 0 99 = false) : PT l G yX7_harvest (.code yX7_harvest cX7_harvest 5 ((Option.some FieldType.int))) { frames := 7, cells := 5, slots := 30, locals := 125 } [.ref (ad 0), .int (v), .int (g), .int (r), .int (q)] SW ad (h) (.inr "java/lang/IllegalArgumentException") (h) := by
  refine PT.mk (L0 := [some (.ref (ad 0)), some (.int (v)), some (.int (g)), some (.int (r)), some (.int (q))]) RX7 "harvest" 5 30 (by decide +kernel) rfl rfl ⟨rfl, rfl⟩ (by simp [Value.category]) (Nat.le_of_ble_eq_true rfl) rfl ?_
  refine pw_iload_n dX7_harvest_0 rfl ?_
  refine pw_iconst dX7_harvest_1 (v := 0) (by decide) ?_
  refine pw_bipush dX7_harvest_2 (v := 99) (by decide) ?_
  refine pw_flS dX7_harvest_4 (sp_X7_requireNumber_no hfl e1) mi_X7_requireNumber ms_X7_requireNumber ml_X7_59 rfl rfl rfl rfl ?_
  exact px_outT rfl rfl rfl rfl

set_option maxRecDepth 100000 in
set_option maxHeartbeats 4000000 in
theorem sp_X7_harvest_no2 {l : Launch} {G : GC} {ad : Nat → Nat} (hfl : l.stackTraces = false) {h : HP} {nL nH nB nC : Nat} {np : Nat → Nat} {pl : Nat → Nat → Nat} (hw : WF h nL nH nB nC np pl) {v g r q : Int32} (e1 : wiB v 0 99 = true) (e2 : wiB g 0 4 = false) : PT l G yX7_harvest (.code yX7_harvest cX7_harvest 5 ((Option.some FieldType.int))) { frames := 7, cells := 5, slots := 30, locals := 125 } [.ref (ad 0), .int (v), .int (g), .int (r), .int (q)] SW ad (h) (.inr "java/lang/IllegalArgumentException") (h) := by
  refine PT.mk (L0 := [some (.ref (ad 0)), some (.int (v)), some (.int (g)), some (.int (r)), some (.int (q))]) RX7 "harvest" 5 30 (by decide +kernel) rfl rfl ⟨rfl, rfl⟩ (by simp [Value.category]) (Nat.le_of_ble_eq_true rfl) rfl ?_
  refine pw_iload_n dX7_harvest_0 rfl ?_
  refine pw_iconst dX7_harvest_1 (v := 0) (by decide) ?_
  refine pw_bipush dX7_harvest_2 (v := 99) (by decide) ?_
  refine pw_okS dX7_harvest_4 (sp_X7_requireNumber_ok hfl e1) mi_X7_requireNumber ms_X7_requireNumber ml_X7_59 rfl rfl rfl rfl ?_
  refine pw_iload_n dX7_harvest_7 rfl ?_
  refine pw_iconst dX7_harvest_8 (v := 0) (by decide) ?_
  refine pw_iconst dX7_harvest_9 (v := 4) (by decide) ?_
  refine pw_flS dX7_harvest_10 (sp_X7_requireNumber_no hfl e2) mi_X7_requireNumber ms_X7_requireNumber ml_X7_59 rfl rfl rfl rfl ?_
  exact px_outT rfl rfl rfl rfl

set_option maxRecDepth 100000 in
set_option maxHeartbeats 4000000 in
theorem sp_X7_harvest_no3 {l : Launch} {G : GC} {ad : Nat → Nat} (hfl : l.stackTraces = false) {h : HP} {nL nH nB nC : Nat} {np : Nat → Nat} {pl : Nat → Nat → Nat} (hw : WF h nL nH nB nC np pl) {v g r q : Int32} (e1 : wiB v 0 99 = true) (e2 : wiB g 0 4 = true) (e3 : wiB r 0 3 = false) : PT l G yX7_harvest (.code yX7_harvest cX7_harvest 5 ((Option.some FieldType.int))) { frames := 7, cells := 5, slots := 30, locals := 125 } [.ref (ad 0), .int (v), .int (g), .int (r), .int (q)] SW ad (h) (.inr "java/lang/IllegalArgumentException") (h) := by
  refine PT.mk (L0 := [some (.ref (ad 0)), some (.int (v)), some (.int (g)), some (.int (r)), some (.int (q))]) RX7 "harvest" 5 30 (by decide +kernel) rfl rfl ⟨rfl, rfl⟩ (by simp [Value.category]) (Nat.le_of_ble_eq_true rfl) rfl ?_
  refine pw_iload_n dX7_harvest_0 rfl ?_
  refine pw_iconst dX7_harvest_1 (v := 0) (by decide) ?_
  refine pw_bipush dX7_harvest_2 (v := 99) (by decide) ?_
  refine pw_okS dX7_harvest_4 (sp_X7_requireNumber_ok hfl e1) mi_X7_requireNumber ms_X7_requireNumber ml_X7_59 rfl rfl rfl rfl ?_
  refine pw_iload_n dX7_harvest_7 rfl ?_
  refine pw_iconst dX7_harvest_8 (v := 0) (by decide) ?_
  refine pw_iconst dX7_harvest_9 (v := 4) (by decide) ?_
  refine pw_okS dX7_harvest_10 (sp_X7_requireNumber_ok hfl e2) mi_X7_requireNumber ms_X7_requireNumber ml_X7_59 rfl rfl rfl rfl ?_
  refine pw_iload_n dX7_harvest_13 rfl ?_
  refine pw_iconst dX7_harvest_14 (v := 0) (by decide) ?_
  refine pw_iconst dX7_harvest_15 (v := 3) (by decide) ?_
  refine pw_flS dX7_harvest_16 (sp_X7_requireNumber_no hfl e3) mi_X7_requireNumber ms_X7_requireNumber ml_X7_59 rfl rfl rfl rfl ?_
  exact px_outT rfl rfl rfl rfl

set_option maxRecDepth 100000 in
set_option maxHeartbeats 4000000 in
theorem sp_X7_harvest_no4 {l : Launch} {G : GC} {ad : Nat → Nat} (hfl : l.stackTraces = false) {h : HP} {nL nH nB nC : Nat} {np : Nat → Nat} {pl : Nat → Nat → Nat} (hw : WF h nL nH nB nC np pl) {v g r q : Int32} (e1 : wiB v 0 99 = true) (e2 : wiB g 0 4 = true) (e3 : wiB r 0 3 = true) (e4 : wiB q 1 9999 = false) : PT l G yX7_harvest (.code yX7_harvest cX7_harvest 5 ((Option.some FieldType.int))) { frames := 7, cells := 5, slots := 30, locals := 125 } [.ref (ad 0), .int (v), .int (g), .int (r), .int (q)] SW ad (h) (.inr "java/lang/IllegalArgumentException") (h) := by
  refine PT.mk (L0 := [some (.ref (ad 0)), some (.int (v)), some (.int (g)), some (.int (r)), some (.int (q))]) RX7 "harvest" 5 30 (by decide +kernel) rfl rfl ⟨rfl, rfl⟩ (by simp [Value.category]) (Nat.le_of_ble_eq_true rfl) rfl ?_
  refine pw_iload_n dX7_harvest_0 rfl ?_
  refine pw_iconst dX7_harvest_1 (v := 0) (by decide) ?_
  refine pw_bipush dX7_harvest_2 (v := 99) (by decide) ?_
  refine pw_okS dX7_harvest_4 (sp_X7_requireNumber_ok hfl e1) mi_X7_requireNumber ms_X7_requireNumber ml_X7_59 rfl rfl rfl rfl ?_
  refine pw_iload_n dX7_harvest_7 rfl ?_
  refine pw_iconst dX7_harvest_8 (v := 0) (by decide) ?_
  refine pw_iconst dX7_harvest_9 (v := 4) (by decide) ?_
  refine pw_okS dX7_harvest_10 (sp_X7_requireNumber_ok hfl e2) mi_X7_requireNumber ms_X7_requireNumber ml_X7_59 rfl rfl rfl rfl ?_
  refine pw_iload_n dX7_harvest_13 rfl ?_
  refine pw_iconst dX7_harvest_14 (v := 0) (by decide) ?_
  refine pw_iconst dX7_harvest_15 (v := 3) (by decide) ?_
  refine pw_okS dX7_harvest_16 (sp_X7_requireNumber_ok hfl e3) mi_X7_requireNumber ms_X7_requireNumber ml_X7_59 rfl rfl rfl rfl ?_
  refine pw_iload dX7_harvest_19 rfl ?_
  refine pw_iconst dX7_harvest_21 (v := 1) (by decide) ?_
  refine pw_sipush dX7_harvest_22 (v := 9999) (by decide) ?_
  refine pw_flS dX7_harvest_25 (sp_X7_requireNumber_no hfl e4) mi_X7_requireNumber ms_X7_requireNumber ml_X7_59 rfl rfl rfl rfl ?_
  exact px_outT rfl rfl rfl rfl

set_option maxRecDepth 100000 in
set_option maxHeartbeats 4000000 in
theorem sp_X7_harvest_fl1 {l : Launch} {G : GC} {ad : Nat → Nat} (hfl : l.stackTraces = false) {h : HP} {nL nH nB nC : Nat} {np : Nat → Nat} {pl : Nat → Nat → Nat} (hw : WF h nL nH nB nC np pl) {v g r q : Int32} (e1 : wiB v 0 99 = true) (e2 : wiB g 0 4 = true) (e3 : wiB r 0 3 = true) (e4 : wiB q 1 9999 = true) (e5 : nL = 24) : PT l G yX7_harvest (.code yX7_harvest cX7_harvest 5 ((Option.some FieldType.int))) { frames := 7, cells := 5, slots := 30, locals := 125 } [.ref (ad 0), .int (v), .int (g), .int (r), .int (q)] SW ad (h) (.inr "java/lang/IllegalStateException") (h) := by
  refine PT.mk (L0 := [some (.ref (ad 0)), some (.int (v)), some (.int (g)), some (.int (r)), some (.int (q))]) RX7 "harvest" 5 30 (by decide +kernel) rfl rfl ⟨rfl, rfl⟩ (by simp [Value.category]) (Nat.le_of_ble_eq_true rfl) rfl ?_
  refine pw_iload_n dX7_harvest_0 rfl ?_
  refine pw_iconst dX7_harvest_1 (v := 0) (by decide) ?_
  refine pw_bipush dX7_harvest_2 (v := 99) (by decide) ?_
  refine pw_okS dX7_harvest_4 (sp_X7_requireNumber_ok hfl e1) mi_X7_requireNumber ms_X7_requireNumber ml_X7_59 rfl rfl rfl rfl ?_
  refine pw_iload_n dX7_harvest_7 rfl ?_
  refine pw_iconst dX7_harvest_8 (v := 0) (by decide) ?_
  refine pw_iconst dX7_harvest_9 (v := 4) (by decide) ?_
  refine pw_okS dX7_harvest_10 (sp_X7_requireNumber_ok hfl e2) mi_X7_requireNumber ms_X7_requireNumber ml_X7_59 rfl rfl rfl rfl ?_
  refine pw_iload_n dX7_harvest_13 rfl ?_
  refine pw_iconst dX7_harvest_14 (v := 0) (by decide) ?_
  refine pw_iconst dX7_harvest_15 (v := 3) (by decide) ?_
  refine pw_okS dX7_harvest_16 (sp_X7_requireNumber_ok hfl e3) mi_X7_requireNumber ms_X7_requireNumber ml_X7_59 rfl rfl rfl rfl ?_
  refine pw_iload dX7_harvest_19 rfl ?_
  refine pw_iconst dX7_harvest_21 (v := 1) (by decide) ?_
  refine pw_sipush dX7_harvest_22 (v := 9999) (by decide) ?_
  refine pw_okS dX7_harvest_25 (sp_X7_requireNumber_ok hfl e4) mi_X7_requireNumber ms_X7_requireNumber ml_X7_59 rfl rfl rfl rfl ?_
  refine pw_aload_n dX7_harvest_28 rfl ?_
  refine pw_getr dX7_harvest_29 lf_X7_10 sh_0 rfl ?_
  refine pw_getr dX7_harvest_32 lf_X7_63 sh_1 rfl ?_
  refine pw_geti dX7_harvest_35 lf_X7_67 sh_2 rfl ?_
  refine pw_bipush dX7_harvest_38 (v := 24) (by decide) ?_
  refine pw_icmp_ge dX7_harvest_40 (tgt := 58) (by decide) (fun c40 => ?_) (fun c40 => absurd c40 (fun q => q (by rw [hw.1.1, e5]; decide)))
  exact pw_throwS hfl tw_75_77_79 dX7_harvest_58 dX7_harvest_61 dX7_harvest_62 dX7_harvest_64 dX7_harvest_67 rfl ⟨Nat.le_of_ble_eq_true rfl, Nat.le_of_ble_eq_true rfl, Nat.le_of_ble_eq_true rfl, Nat.le_of_ble_eq_true rfl⟩ (⟨rfl, rfl⟩) (Nat.le_of_ble_eq_true rfl) (Nat.le_of_ble_eq_true rfl)

set_option maxRecDepth 100000 in
set_option maxHeartbeats 4000000 in
theorem sp_X7_harvest_fl2 {l : Launch} {G : GC} {ad : Nat → Nat} (hfl : l.stackTraces = false) {h : HP} {nL nH nB nC : Nat} {np : Nat → Nat} {pl : Nat → Nat → Nat} (hw : WF h nL nH nB nC np pl) {v g r q : Int32} (e1 : wiB v 0 99 = true) (e2 : wiB g 0 4 = true) (e3 : wiB r 0 3 = true) (e4 : wiB q 1 9999 = true) (e5 : nL < 24) (e6 : nH = 12) : PT l G yX7_harvest (.code yX7_harvest cX7_harvest 5 ((Option.some FieldType.int))) { frames := 7, cells := 5, slots := 30, locals := 125 } [.ref (ad 0), .int (v), .int (g), .int (r), .int (q)] SW ad (h) (.inr "java/lang/IllegalStateException") (h) := by
  refine PT.mk (L0 := [some (.ref (ad 0)), some (.int (v)), some (.int (g)), some (.int (r)), some (.int (q))]) RX7 "harvest" 5 30 (by decide +kernel) rfl rfl ⟨rfl, rfl⟩ (by simp [Value.category]) (Nat.le_of_ble_eq_true rfl) rfl ?_
  refine pw_iload_n dX7_harvest_0 rfl ?_
  refine pw_iconst dX7_harvest_1 (v := 0) (by decide) ?_
  refine pw_bipush dX7_harvest_2 (v := 99) (by decide) ?_
  refine pw_okS dX7_harvest_4 (sp_X7_requireNumber_ok hfl e1) mi_X7_requireNumber ms_X7_requireNumber ml_X7_59 rfl rfl rfl rfl ?_
  refine pw_iload_n dX7_harvest_7 rfl ?_
  refine pw_iconst dX7_harvest_8 (v := 0) (by decide) ?_
  refine pw_iconst dX7_harvest_9 (v := 4) (by decide) ?_
  refine pw_okS dX7_harvest_10 (sp_X7_requireNumber_ok hfl e2) mi_X7_requireNumber ms_X7_requireNumber ml_X7_59 rfl rfl rfl rfl ?_
  refine pw_iload_n dX7_harvest_13 rfl ?_
  refine pw_iconst dX7_harvest_14 (v := 0) (by decide) ?_
  refine pw_iconst dX7_harvest_15 (v := 3) (by decide) ?_
  refine pw_okS dX7_harvest_16 (sp_X7_requireNumber_ok hfl e3) mi_X7_requireNumber ms_X7_requireNumber ml_X7_59 rfl rfl rfl rfl ?_
  refine pw_iload dX7_harvest_19 rfl ?_
  refine pw_iconst dX7_harvest_21 (v := 1) (by decide) ?_
  refine pw_sipush dX7_harvest_22 (v := 9999) (by decide) ?_
  refine pw_okS dX7_harvest_25 (sp_X7_requireNumber_ok hfl e4) mi_X7_requireNumber ms_X7_requireNumber ml_X7_59 rfl rfl rfl rfl ?_
  refine pw_aload_n dX7_harvest_28 rfl ?_
  refine pw_getr dX7_harvest_29 lf_X7_10 sh_0 rfl ?_
  refine pw_getr dX7_harvest_32 lf_X7_63 sh_1 rfl ?_
  refine pw_geti dX7_harvest_35 lf_X7_67 sh_2 rfl ?_
  refine pw_bipush dX7_harvest_38 (v := 24) (by decide) ?_
  refine pw_icmp_ge dX7_harvest_40 (tgt := 58) (by decide) (fun c40 => absurd c40 (by rw [hw.1.1]; exact nI_ge (b := 24) e5 (by decide))) (fun c40 => ?_)
  refine pw_aload_n dX7_harvest_43 rfl ?_
  refine pw_getr dX7_harvest_44 lf_X7_10 sh_0 rfl ?_
  refine pw_getr dX7_harvest_47 lf_X7_63 sh_1 rfl ?_
  refine pw_geti dX7_harvest_50 lf_X7_72 sh_2 rfl ?_
  refine pw_bipush dX7_harvest_53 (v := 12) (by decide) ?_
  refine pw_icmp_lt dX7_harvest_55 (tgt := 68) (by decide) (fun c55 => absurd c55 (by rw [hw.2.1.1, e6]; decide)) (fun c55 => ?_)
  exact pw_throwS hfl tw_75_77_79 dX7_harvest_58 dX7_harvest_61 dX7_harvest_62 dX7_harvest_64 dX7_harvest_67 rfl ⟨Nat.le_of_ble_eq_true rfl, Nat.le_of_ble_eq_true rfl, Nat.le_of_ble_eq_true rfl, Nat.le_of_ble_eq_true rfl⟩ (⟨rfl, rfl⟩) (Nat.le_of_ble_eq_true rfl) (Nat.le_of_ble_eq_true rfl)

set_option maxRecDepth 100000 in
set_option maxHeartbeats 4000000 in
theorem sp_X7_harvest_ok {l : Launch} {G : GC} {ad : Nat → Nat} (hfl : l.stackTraces = false) {h : HP} {nL nH nB nC : Nat} {np : Nat → Nat} {pl : Nat → Nat → Nat} (hw : WF h nL nH nB nC np pl) {k c : Nat} (hk : h 49 1 = nI k) (hk8 : k < 8) (hc : h 49 2 = nI c) (hc8 : c ≤ 8) {v g r q : Int32} (e1 : wiB v 0 99 = true) (e2 : wiB g 0 4 = true) (e3 : wiB r 0 3 = true) (e4 : wiB q 1 9999 = true) (e5 : nL < 24) (e6 : nH < 12) : PT l G yX7_harvest (.code yX7_harvest cX7_harvest 5 ((Option.some FieldType.int))) { frames := 7, cells := 5, slots := 30, locals := 125 } [.ref (ad 0), .int (v), .int (g), .int (r), .int (q)] SW ad (h) (.inl (some (.int (nI nL)))) (binH (remH h 1 k c) nL nH v g r q) := by
  refine PT.mk (L0 := [some (.ref (ad 0)), some (.int (v)), some (.int (g)), some (.int (r)), some (.int (q))]) RX7 "harvest" 5 30 (by decide +kernel) rfl rfl ⟨rfl, rfl⟩ (by simp [Value.category]) (Nat.le_of_ble_eq_true rfl) rfl ?_
  have hw1 : WF (remH h 1 k c) nL nH nB nC np pl := WF_o hw (fun a ha => remH_o h 1 k c hk8 (Or.inl ha))
  refine pw_iload_n dX7_harvest_0 rfl ?_
  refine pw_iconst dX7_harvest_1 (v := 0) (by decide) ?_
  refine pw_bipush dX7_harvest_2 (v := 99) (by decide) ?_
  refine pw_okS dX7_harvest_4 (sp_X7_requireNumber_ok hfl e1) mi_X7_requireNumber ms_X7_requireNumber ml_X7_59 rfl rfl rfl rfl ?_
  refine pw_iload_n dX7_harvest_7 rfl ?_
  refine pw_iconst dX7_harvest_8 (v := 0) (by decide) ?_
  refine pw_iconst dX7_harvest_9 (v := 4) (by decide) ?_
  refine pw_okS dX7_harvest_10 (sp_X7_requireNumber_ok hfl e2) mi_X7_requireNumber ms_X7_requireNumber ml_X7_59 rfl rfl rfl rfl ?_
  refine pw_iload_n dX7_harvest_13 rfl ?_
  refine pw_iconst dX7_harvest_14 (v := 0) (by decide) ?_
  refine pw_iconst dX7_harvest_15 (v := 3) (by decide) ?_
  refine pw_okS dX7_harvest_16 (sp_X7_requireNumber_ok hfl e3) mi_X7_requireNumber ms_X7_requireNumber ml_X7_59 rfl rfl rfl rfl ?_
  refine pw_iload dX7_harvest_19 rfl ?_
  refine pw_iconst dX7_harvest_21 (v := 1) (by decide) ?_
  refine pw_sipush dX7_harvest_22 (v := 9999) (by decide) ?_
  refine pw_okS dX7_harvest_25 (sp_X7_requireNumber_ok hfl e4) mi_X7_requireNumber ms_X7_requireNumber ml_X7_59 rfl rfl rfl rfl ?_
  refine pw_aload_n dX7_harvest_28 rfl ?_
  refine pw_getr dX7_harvest_29 lf_X7_10 sh_0 rfl ?_
  refine pw_getr dX7_harvest_32 lf_X7_63 sh_1 rfl ?_
  refine pw_geti dX7_harvest_35 lf_X7_67 sh_2 rfl ?_
  refine pw_bipush dX7_harvest_38 (v := 24) (by decide) ?_
  refine pw_icmp_ge dX7_harvest_40 (tgt := 58) (by decide) (fun c40 => absurd c40 (by rw [hw.1.1]; exact nI_ge (b := 24) e5 (by decide))) (fun c40 => ?_)
  refine pw_aload_n dX7_harvest_43 rfl ?_
  refine pw_getr dX7_harvest_44 lf_X7_10 sh_0 rfl ?_
  refine pw_getr dX7_harvest_47 lf_X7_63 sh_1 rfl ?_
  refine pw_geti dX7_harvest_50 lf_X7_72 sh_2 rfl ?_
  refine pw_bipush dX7_harvest_53 (v := 12) (by decide) ?_
  refine pw_icmp_lt dX7_harvest_55 (tgt := 68) (by decide) (fun c55 => ?_) (fun c55 => absurd c55 (fun q => q (by rw [hw.2.1.1]; exact nI_lt (b := 12) e6 (by decide))))
  refine pw_aload_n dX7_harvest_68 rfl ?_
  refine pw_getr dX7_harvest_69 lf_X7_22 sh_0 rfl ?_
  refine pw_aload_n dX7_harvest_72 rfl ?_
  refine pw_getr dX7_harvest_73 lf_X7_10 sh_0 rfl ?_
  refine pw_cVn dX7_harvest_76 (sp_X2_remember st_1 hk hk8 hc hc8) mi_X2_remember mv_X2_remember ml_X7_82 sh_49 rfl rfl rfl rfl ⟨rfl, rfl⟩ rfl rfl ?_
  refine pw_aload_n dX7_harvest_79 rfl ?_
  refine pw_getr dX7_harvest_80 lf_X7_10 sh_0 rfl ?_
  refine pw_getr dX7_harvest_83 lf_X7_63 sh_1 rfl ?_
  refine pw_iload_n dX7_harvest_86 rfl ?_
  refine pw_iload_n dX7_harvest_87 rfl ?_
  refine pw_iload_n dX7_harvest_88 rfl ?_
  refine pw_iload dX7_harvest_89 rfl ?_
  refine pw_cV dX7_harvest_91 (sp_X4_bringIn hw1.1.1 e5 hw1.2.1.1 e6) mi_X4_bringIn mv_X4_bringIn ml_X7_86 sh_2 rfl rfl rfl rfl ⟨rfl, rfl⟩ rfl rfl ?_
  exact pw_iretT dX7_harvest_94 rfl rfl rfl rfl rfl

set_option maxRecDepth 100000 in
set_option maxHeartbeats 4000000 in
theorem sp_X7_spill_no1 {l : Launch} {G : GC} {ad : Nat → Nat} (hfl : l.stackTraces = false) {h : HP} {q : Int32} {n : Int32} (e1 : wiB n 0 (h 2 5 - 1) = false) : PT l G yX7_spill (.code yX7_spill cX7_spill 3 ((Option.some FieldType.int))) { frames := 8, cells := 2, slots := 12, locals := 132 } [.ref (ad 0), .int (n), .int (q)] SW ad (h) (.inr "java/lang/IndexOutOfBoundsException") (h) := by
  refine PT.mk (L0 := [some (.ref (ad 0)), some (.int (n)), some (.int (q))]) RX7 "spill" 2 12 (by decide +kernel) rfl rfl ⟨rfl, rfl⟩ (by simp [Value.category]) (Nat.le_of_ble_eq_true rfl) rfl ?_
  refine pw_aload_n dX7_spill_0 rfl ?_
  refine pw_iload_n dX7_spill_1 rfl ?_
  refine pw_flV dX7_spill_2 (sp_X7_requireLot_no hfl e1) mi_X7_requireLot mv_X7_requireLot ml_X7_122 sh_0 rfl rfl rfl rfl rfl rfl ?_
  exact px_outT rfl rfl rfl rfl

set_option maxRecDepth 100000 in
set_option maxHeartbeats 4000000 in
theorem sp_X7_spill_no2 {l : Launch} {G : GC} {ad : Nat → Nat} (hfl : l.stackTraces = false) {h : HP} {nL nH nB nC : Nat} {np : Nat → Nat} {pl : Nat → Nat → Nat} (hw : WF h nL nH nB nC np pl) {q : Int32} {lot : Nat} (hlot : lot < nL) (e : wiB q 1 (mnI 9999 (h 4 (lot * 5 + 1))) = false) : PT l G yX7_spill (.code yX7_spill cX7_spill 3 ((Option.some FieldType.int))) { frames := 8, cells := 2, slots := 12, locals := 132 } [.ref (ad 0), .int (nI lot), .int (q)] SW ad (h) (.inr "java/lang/IllegalArgumentException") (h) := by
  refine PT.mk (L0 := [some (.ref (ad 0)), some (.int (nI lot)), some (.int (q))]) RX7 "spill" 2 12 (by decide +kernel) rfl rfl ⟨rfl, rfl⟩ (by simp [Value.category]) (Nat.le_of_ble_eq_true rfl) rfl ?_
  have hb1 := hw.1.2
  have hlot24 : lot < 24 := by omega
  refine pw_aload_n dX7_spill_0 rfl ?_
  refine pw_iload_n dX7_spill_1 rfl ?_
  refine pw_okV dX7_spill_2 (sp_X7_requireLot_ok hfl (wi_ok hw.1.1 hlot (by have := hw.1.2; omega))) mi_X7_requireLot mv_X7_requireLot ml_X7_122 sh_0 rfl rfl rfl rfl rfl rfl ?_
  refine pw_iload_n dX7_spill_5 rfl ?_
  refine pw_iconst dX7_spill_6 (v := 1) (by decide) ?_
  refine pw_sipush dX7_spill_7 (v := 9999) (by decide) ?_
  refine pw_aload_n dX7_spill_10 rfl ?_
  refine pw_getr dX7_spill_11 lf_X7_10 sh_0 rfl ?_
  refine pw_getr dX7_spill_14 lf_X7_63 sh_1 rfl ?_
  refine pw_iload_n dX7_spill_17 rfl ?_
  refine pw_cV dX7_spill_18 (sp_X4_leftIn hlot24) mi_X4_leftIn mv_X4_leftIn ml_X7_125 sh_2 rfl rfl rfl rfl ⟨rfl, rfl⟩ rfl rfl ?_
  refine pw_min dX7_spill_21 mm_X7_129 mw_min ⟨Nat.le_of_ble_eq_true rfl, Nat.le_of_ble_eq_true rfl, Nat.le_of_ble_eq_true rfl, Nat.le_of_ble_eq_true rfl⟩ ?_
  refine pw_flS dX7_spill_24 (sp_X7_requireNumber_no hfl e) mi_X7_requireNumber ms_X7_requireNumber ml_X7_59 rfl rfl rfl rfl ?_
  exact px_outT rfl rfl rfl rfl

set_option maxRecDepth 100000 in
set_option maxHeartbeats 4000000 in
theorem sp_X7_spill_ok {l : Launch} {G : GC} {ad : Nat → Nat} (hfl : l.stackTraces = false) {h : HP} {nL nH nB nC : Nat} {np : Nat → Nat} {pl : Nat → Nat → Nat} (hw : WF h nL nH nB nC np pl) {k c : Nat} (hk : h 49 1 = nI k) (hk8 : k < 8) (hc : h 49 2 = nI c) (hc8 : c ≤ 8) {q : Int32} {lot : Nat} (hlot : lot < nL) (e : wiB q 1 (mnI 9999 (h 4 (lot * 5 + 1))) = true) : PT l G yX7_spill (.code yX7_spill cX7_spill 3 ((Option.some FieldType.int))) { frames := 8, cells := 2, slots := 12, locals := 132 } [.ref (ad 0), .int (nI lot), .int (q)] SW ad (h) (.inl (some (.int (h 4 (lot * 5 + 1) + (-q))))) (spiH (remH h 1 k c) lot q) := by
  refine PT.mk (L0 := [some (.ref (ad 0)), some (.int (nI lot)), some (.int (q))]) RX7 "spill" 2 12 (by decide +kernel) rfl rfl ⟨rfl, rfl⟩ (by simp [Value.category]) (Nat.le_of_ble_eq_true rfl) rfl ?_
  have hb1 := hw.1.2
  have hlot24 : lot < 24 := by omega
  have hw1 : WF (remH h 1 k c) nL nH nB nC np pl := WF_o hw (fun a ha => remH_o h 1 k c hk8 (Or.inl ha))
  refine pw_aload_n dX7_spill_0 rfl ?_
  refine pw_iload_n dX7_spill_1 rfl ?_
  refine pw_okV dX7_spill_2 (sp_X7_requireLot_ok hfl (wi_ok hw.1.1 hlot (by have := hw.1.2; omega))) mi_X7_requireLot mv_X7_requireLot ml_X7_122 sh_0 rfl rfl rfl rfl rfl rfl ?_
  refine pw_iload_n dX7_spill_5 rfl ?_
  refine pw_iconst dX7_spill_6 (v := 1) (by decide) ?_
  refine pw_sipush dX7_spill_7 (v := 9999) (by decide) ?_
  refine pw_aload_n dX7_spill_10 rfl ?_
  refine pw_getr dX7_spill_11 lf_X7_10 sh_0 rfl ?_
  refine pw_getr dX7_spill_14 lf_X7_63 sh_1 rfl ?_
  refine pw_iload_n dX7_spill_17 rfl ?_
  refine pw_cV dX7_spill_18 (sp_X4_leftIn hlot24) mi_X4_leftIn mv_X4_leftIn ml_X7_125 sh_2 rfl rfl rfl rfl ⟨rfl, rfl⟩ rfl rfl ?_
  refine pw_min dX7_spill_21 mm_X7_129 mw_min ⟨Nat.le_of_ble_eq_true rfl, Nat.le_of_ble_eq_true rfl, Nat.le_of_ble_eq_true rfl, Nat.le_of_ble_eq_true rfl⟩ ?_
  refine pw_okS dX7_spill_24 (sp_X7_requireNumber_ok hfl e) mi_X7_requireNumber ms_X7_requireNumber ml_X7_59 rfl rfl rfl rfl ?_
  refine pw_aload_n dX7_spill_27 rfl ?_
  refine pw_getr dX7_spill_28 lf_X7_22 sh_0 rfl ?_
  refine pw_aload_n dX7_spill_31 rfl ?_
  refine pw_getr dX7_spill_32 lf_X7_10 sh_0 rfl ?_
  refine pw_cVn dX7_spill_35 (sp_X2_remember st_1 hk hk8 hc hc8) mi_X2_remember mv_X2_remember ml_X7_82 sh_49 rfl rfl rfl rfl ⟨rfl, rfl⟩ rfl rfl ?_
  refine pw_aload_n dX7_spill_38 rfl ?_
  refine pw_getr dX7_spill_39 lf_X7_10 sh_0 rfl ?_
  refine pw_getr dX7_spill_42 lf_X7_63 sh_1 rfl ?_
  refine pw_iload_n dX7_spill_45 rfl ?_
  refine pw_iload_n dX7_spill_46 rfl ?_
  refine pw_cVn dX7_spill_47 (sp_X4_take hlot24) mi_X4_take mv_X4_take ml_X7_135 sh_2 rfl rfl rfl rfl ⟨rfl, rfl⟩ rfl rfl ?_
  refine pw_aload_n dX7_spill_50 rfl ?_
  refine pw_getr dX7_spill_51 lf_X7_10 sh_0 rfl ?_
  refine pw_getr dX7_spill_54 lf_X7_63 sh_1 rfl ?_
  refine pw_dup dX7_spill_57 rfl ?_
  refine pw_geti dX7_spill_58 lf_X7_138 sh_2 rfl ?_
  refine pw_iload_n dX7_spill_61 rfl ?_
  refine pw_iadd dX7_spill_62 ?_
  refine pw_puti dX7_spill_63 lf_X7_138 lp_4_7 sh_2 rfl rfl rfl ?_
  refine pw_aload_n dX7_spill_66 rfl ?_
  refine pw_getr dX7_spill_67 lf_X7_10 sh_0 rfl ?_
  refine pw_getr dX7_spill_70 lf_X7_63 sh_1 rfl ?_
  refine pw_iload_n dX7_spill_73 rfl ?_
  refine pw_cV dX7_spill_74 (sp_X4_leftIn hlot24) mi_X4_leftIn mv_X4_leftIn ml_X7_125 sh_2 rfl rfl rfl rfl ⟨rfl, rfl⟩ rfl rfl ?_
  exact pw_iretT dX7_spill_77 rfl rfl rfl (by simp [hput, remH_o h 1 k c hk8 (Or.inl (by decide : 4 < 49))]) (by simp [spiH, hput])

set_option maxRecDepth 100000 in
set_option maxHeartbeats 4000000 in
theorem sp_X7_lot_no1 {l : Launch} {G : GC} {ad : Nat → Nat} (hfl : l.stackTraces = false) {h : HP} {m : Int32} {n : Int32} (e1 : wiB n 0 (h 2 5 - 1) = false) : PT l G yX7_lot (.code yX7_lot cX7_lot 3 ((Option.some FieldType.int))) { frames := 8, cells := 2, slots := 12, locals := 132 } [.ref (ad 0), .int (n), .int (m)] SW ad (h) (.inr "java/lang/IndexOutOfBoundsException") (h) := by
  refine PT.mk (L0 := [some (.ref (ad 0)), some (.int (n)), some (.int (m))]) RX7 "lot" 2 12 (by decide +kernel) rfl rfl ⟨rfl, rfl⟩ (by simp [Value.category]) (Nat.le_of_ble_eq_true rfl) rfl ?_
  refine pw_aload_n dX7_lot_0 rfl ?_
  refine pw_iload_n dX7_lot_1 rfl ?_
  refine pw_flV dX7_lot_2 (sp_X7_requireLot_no hfl e1) mi_X7_requireLot mv_X7_requireLot ml_X7_122 sh_0 rfl rfl rfl rfl rfl rfl ?_
  exact px_outT rfl rfl rfl rfl

set_option maxRecDepth 100000 in
set_option maxHeartbeats 4000000 in
theorem sp_X7_lot_no2 {l : Launch} {G : GC} {ad : Nat → Nat} (hfl : l.stackTraces = false) {h : HP} {nL nH nB nC : Nat} {np : Nat → Nat} {pl : Nat → Nat → Nat} (hw : WF h nL nH nB nC np pl) {lot : Nat} (hlot : lot < nL) {m : Int32} (e : wiB m 0 6 = false) : PT l G yX7_lot (.code yX7_lot cX7_lot 3 ((Option.some FieldType.int))) { frames := 8, cells := 2, slots := 12, locals := 132 } [.ref (ad 0), .int (nI lot), .int (m)] SW ad (h) (.inr "java/lang/IllegalArgumentException") (h) := by
  refine PT.mk (L0 := [some (.ref (ad 0)), some (.int (nI lot)), some (.int (m))]) RX7 "lot" 2 12 (by decide +kernel) rfl rfl ⟨rfl, rfl⟩ (by simp [Value.category]) (Nat.le_of_ble_eq_true rfl) rfl ?_
  have hb1 := hw.1.2
  have hlot24 : lot < 24 := by omega
  refine pw_aload_n dX7_lot_0 rfl ?_
  refine pw_iload_n dX7_lot_1 rfl ?_
  refine pw_okV dX7_lot_2 (sp_X7_requireLot_ok hfl (wi_ok hw.1.1 hlot (by have := hw.1.2; omega))) mi_X7_requireLot mv_X7_requireLot ml_X7_122 sh_0 rfl rfl rfl rfl rfl rfl ?_
  refine pw_iload_n dX7_lot_5 rfl ?_
  refine pw_iconst dX7_lot_6 (v := 0) (by decide) ?_
  refine pw_bipush dX7_lot_7 (v := 6) (by decide) ?_
  refine pw_flS dX7_lot_9 (sp_X7_requireNumber_no hfl e) mi_X7_requireNumber ms_X7_requireNumber ml_X7_59 rfl rfl rfl rfl ?_
  exact px_outT rfl rfl rfl rfl

set_option maxRecDepth 100000 in
set_option maxHeartbeats 4000000 in
theorem sp_X7_lot_k5 {l : Launch} {G : GC} {ad : Nat → Nat} (hfl : l.stackTraces = false) {h : HP} {nL nH nB nC : Nat} {np : Nat → Nat} {pl : Nat → Nat → Nat} (hw : WF h nL nH nB nC np pl) {lot : Nat} (hlot : lot < nL)  : PT l G yX7_lot (.code yX7_lot cX7_lot 3 ((Option.some FieldType.int))) { frames := 8, cells := 2, slots := 12, locals := 132 } [.ref (ad 0), .int (nI lot), .int (5)] SW ad (h) (.inl (some (.int (nI (cntB (fun k => decide (0 < h 10 (lot * 12 + k))) nH))))) (h) := by
  refine PT.mk (L0 := [some (.ref (ad 0)), some (.int (nI lot)), some (.int (5))]) RX7 "lot" 2 12 (by decide +kernel) rfl rfl ⟨rfl, rfl⟩ (by simp [Value.category]) (Nat.le_of_ble_eq_true rfl) rfl ?_
  have hb1 := hw.1.2
  have hlot24 : lot < 24 := by omega
  refine pw_aload_n dX7_lot_0 rfl ?_
  refine pw_iload_n dX7_lot_1 rfl ?_
  refine pw_okV dX7_lot_2 (sp_X7_requireLot_ok hfl (wi_ok hw.1.1 hlot (by have := hw.1.2; omega))) mi_X7_requireLot mv_X7_requireLot ml_X7_122 sh_0 rfl rfl rfl rfl rfl rfl ?_
  refine pw_iload_n dX7_lot_5 rfl ?_
  refine pw_iconst dX7_lot_6 (v := 0) (by decide) ?_
  refine pw_bipush dX7_lot_7 (v := 6) (by decide) ?_
  refine pw_okS dX7_lot_9 (sp_X7_requireNumber_ok hfl (by decide)) mi_X7_requireNumber ms_X7_requireNumber ml_X7_59 rfl rfl rfl rfl ?_
  refine pw_iload_n dX7_lot_12 rfl ?_
  refine pw_iconst dX7_lot_13 (v := 5) (by decide) ?_
  refine pw_icmp_ne dX7_lot_14 (tgt := 29) (by decide) (fun c14 => absurd c14 (fun q => q rfl)) (fun c14 => ?_)
  refine pw_aload_n dX7_lot_17 rfl ?_
  refine pw_getr dX7_lot_18 lf_X7_10 sh_0 rfl ?_
  refine pw_getr dX7_lot_21 lf_X7_63 sh_1 rfl ?_
  refine pw_iload_n dX7_lot_24 rfl ?_
  refine pw_cV dX7_lot_25 (sp_X4_harvestsIn hw hlot24) mi_X4_harvestsIn mv_X4_harvestsIn ml_X7_141 sh_2 rfl rfl rfl rfl ⟨rfl, rfl⟩ rfl rfl ?_
  exact pw_iretT dX7_lot_28 rfl rfl rfl rfl rfl

set_option maxRecDepth 100000 in
set_option maxHeartbeats 4000000 in
theorem sp_X7_lot_k {l : Launch} {G : GC} {ad : Nat → Nat} (hfl : l.stackTraces = false) {h : HP} {nL nH nB nC : Nat} {np : Nat → Nat} {pl : Nat → Nat → Nat} (hw : WF h nL nH nB nC np pl) {lot : Nat} (hlot : lot < nL) {j : Nat} (hj : j < 5)  : PT l G yX7_lot (.code yX7_lot cX7_lot 3 ((Option.some FieldType.int))) { frames := 8, cells := 2, slots := 12, locals := 132 } [.ref (ad 0), .int (nI lot), .int (nI j)] SW ad (h) (.inl (some (.int (h 4 (lot * 5 + j))))) (h) := by
  refine PT.mk (L0 := [some (.ref (ad 0)), some (.int (nI lot)), some (.int (nI j))]) RX7 "lot" 2 12 (by decide +kernel) rfl rfl ⟨rfl, rfl⟩ (by simp [Value.category]) (Nat.le_of_ble_eq_true rfl) rfl ?_
  have hb1 := hw.1.2
  have hlot24 : lot < 24 := by omega
  refine pw_aload_n dX7_lot_0 rfl ?_
  refine pw_iload_n dX7_lot_1 rfl ?_
  refine pw_okV dX7_lot_2 (sp_X7_requireLot_ok hfl (wi_ok hw.1.1 hlot (by have := hw.1.2; omega))) mi_X7_requireLot mv_X7_requireLot ml_X7_122 sh_0 rfl rfl rfl rfl rfl rfl ?_
  refine pw_iload_n dX7_lot_5 rfl ?_
  refine pw_iconst dX7_lot_6 (v := 0) (by decide) ?_
  refine pw_bipush dX7_lot_7 (v := 6) (by decide) ?_
  refine pw_okS dX7_lot_9 (sp_X7_requireNumber_ok hfl (wi_ok (x := 7) (N := 7) rfl (by omega) (by decide))) mi_X7_requireNumber ms_X7_requireNumber ml_X7_59 rfl rfl rfl rfl ?_
  refine pw_iload_n dX7_lot_12 rfl ?_
  refine pw_iconst dX7_lot_13 (v := 5) (by decide) ?_
  refine pw_icmp_ne dX7_lot_14 (tgt := 29) (by decide) (fun c14 => ?_) (fun c14 => absurd c14 (fun q => absurd ((nI_eq (b := 5) (by omega) (by decide)).mp q) (by omega)))
  refine pw_iload_n dX7_lot_29 rfl ?_
  refine pw_bipush dX7_lot_30 (v := 6) (by decide) ?_
  refine pw_icmp_ne dX7_lot_32 (tgt := 50) (by decide) (fun c32 => ?_) (fun c32 => absurd c32 (fun q => absurd ((nI_eq (b := 6) (by omega) (by decide)).mp q) (by omega)))
  refine pw_aload_n dX7_lot_50 rfl ?_
  refine pw_getr dX7_lot_51 lf_X7_10 sh_0 rfl ?_
  refine pw_getr dX7_lot_54 lf_X7_63 sh_1 rfl ?_
  refine pw_getr dX7_lot_57 lf_X7_152 sh_2 rfl ?_
  refine pw_iload_n dX7_lot_60 rfl ?_
  refine pw_iload_n dX7_lot_61 rfl ?_
  refine pw_cV dX7_lot_62 (sp_X6_at tq_3 (r := lot) (k := j) rfl rfl (hlot24) (hj)) mi_X6_at mv_X6_at ml_X7_155 sh_3 rfl rfl rfl rfl ⟨rfl, rfl⟩ rfl rfl ?_
  exact pw_iretT dX7_lot_65 rfl rfl rfl rfl rfl

set_option maxRecDepth 100000 in
set_option maxHeartbeats 4000000 in
theorem sp_X7_part_no1 {l : Launch} {G : GC} {ad : Nat → Nat} (hfl : l.stackTraces = false) {h : HP} {m j : Int32} {n : Int32} (e1 : wiB n 0 (h 2 5 - 1) = false) : PT l G yX7_part (.code yX7_part cX7_part 4 ((Option.some FieldType.int))) { frames := 8, cells := 3, slots := 18, locals := 132 } [.ref (ad 0), .int (n), .int (m), .int (j)] SW ad (h) (.inr "java/lang/IndexOutOfBoundsException") (h) := by
  refine PT.mk (L0 := [some (.ref (ad 0)), some (.int (n)), some (.int (m)), some (.int (j))]) RX7 "part" 3 18 (by decide +kernel) rfl rfl ⟨rfl, rfl⟩ (by simp [Value.category]) (Nat.le_of_ble_eq_true rfl) rfl ?_
  refine pw_aload_n dX7_part_0 rfl ?_
  refine pw_iload_n dX7_part_1 rfl ?_
  refine pw_flV dX7_part_2 (sp_X7_requireLot_no hfl e1) mi_X7_requireLot mv_X7_requireLot ml_X7_122 sh_0 rfl rfl rfl rfl rfl rfl ?_
  exact px_outT rfl rfl rfl rfl

set_option maxRecDepth 100000 in
set_option maxHeartbeats 4000000 in
theorem sp_X7_part_no2 {l : Launch} {G : GC} {ad : Nat → Nat} (hfl : l.stackTraces = false) {h : HP} {nL nH nB nC : Nat} {np : Nat → Nat} {pl : Nat → Nat → Nat} (hw : WF h nL nH nB nC np pl) {lot : Nat} (hlot : lot < nL) {m j : Int32} (e : wiB m 0 (h 4 (lot * 5 + 2) - 1) = false) : PT l G yX7_part (.code yX7_part cX7_part 4 ((Option.some FieldType.int))) { frames := 8, cells := 3, slots := 18, locals := 132 } [.ref (ad 0), .int (nI lot), .int (m), .int (j)] SW ad (h) (.inr "java/util/NoSuchElementException") (h) := by
  refine PT.mk (L0 := [some (.ref (ad 0)), some (.int (nI lot)), some (.int (m)), some (.int (j))]) RX7 "part" 3 18 (by decide +kernel) rfl rfl ⟨rfl, rfl⟩ (by simp [Value.category]) (Nat.le_of_ble_eq_true rfl) rfl ?_
  have hb1 := hw.1.2
  have hlot24 : lot < 24 := by omega
  refine pw_aload_n dX7_part_0 rfl ?_
  refine pw_iload_n dX7_part_1 rfl ?_
  refine pw_okV dX7_part_2 (sp_X7_requireLot_ok hfl (wi_ok hw.1.1 hlot (by have := hw.1.2; omega))) mi_X7_requireLot mv_X7_requireLot ml_X7_122 sh_0 rfl rfl rfl rfl rfl rfl ?_
  refine pw_iload_n dX7_part_5 rfl ?_
  refine pw_iconst dX7_part_6 (v := 0) (by decide) ?_
  refine pw_aload_n dX7_part_7 rfl ?_
  refine pw_getr dX7_part_8 lf_X7_10 sh_0 rfl ?_
  refine pw_getr dX7_part_11 lf_X7_63 sh_1 rfl ?_
  refine pw_iload_n dX7_part_14 rfl ?_
  refine pw_cV dX7_part_15 (sp_X4_partsOf hlot24) mi_X4_partsOf mv_X4_partsOf ml_X7_158 sh_2 rfl rfl rfl rfl ⟨rfl, rfl⟩ rfl rfl ?_
  refine pw_iconst dX7_part_18 (v := 1) (by decide) ?_
  refine pw_isub dX7_part_19 ?_
  refine pw_cS dX7_part_20 (sp_X7_isWithin) mi_X7_isWithin ms_X7_isWithin ml_X7_161 rfl rfl ⟨rfl, rfl⟩ rfl rfl ?_
  refine pw_if_ne dX7_part_23 (tgt := 36) (by decide) (fun c23 => absurd c23 (by rw [show (decide (0 ≤ m) && decide (m ≤ h 4 (lot * 5 + 2) - 1)) = false from e]; decide)) (fun c23 => ?_)
  exact pw_throwN hfl tw_165_167_169 dX7_part_26 dX7_part_29 dX7_part_30 dX7_part_32 dX7_part_35 rfl ⟨Nat.le_of_ble_eq_true rfl, Nat.le_of_ble_eq_true rfl, Nat.le_of_ble_eq_true rfl, Nat.le_of_ble_eq_true rfl⟩ (⟨rfl, rfl⟩) (Nat.le_of_ble_eq_true rfl) (Nat.le_of_ble_eq_true rfl)

set_option maxRecDepth 100000 in
set_option maxHeartbeats 4000000 in
theorem sp_X7_part_no3 {l : Launch} {G : GC} {ad : Nat → Nat} (hfl : l.stackTraces = false) {h : HP} {nL nH nB nC : Nat} {np : Nat → Nat} {pl : Nat → Nat → Nat} (hw : WF h nL nH nB nC np pl) {lot : Nat} (hlot : lot < nL) {m j : Int32} (e : wiB m 0 (h 4 (lot * 5 + 2) - 1) = true) (e2 : wiB j 0 1 = false) : PT l G yX7_part (.code yX7_part cX7_part 4 ((Option.some FieldType.int))) { frames := 8, cells := 3, slots := 18, locals := 132 } [.ref (ad 0), .int (nI lot), .int (m), .int (j)] SW ad (h) (.inr "java/lang/IllegalArgumentException") (h) := by
  refine PT.mk (L0 := [some (.ref (ad 0)), some (.int (nI lot)), some (.int (m)), some (.int (j))]) RX7 "part" 3 18 (by decide +kernel) rfl rfl ⟨rfl, rfl⟩ (by simp [Value.category]) (Nat.le_of_ble_eq_true rfl) rfl ?_
  have hb1 := hw.1.2
  have hlot24 : lot < 24 := by omega
  refine pw_aload_n dX7_part_0 rfl ?_
  refine pw_iload_n dX7_part_1 rfl ?_
  refine pw_okV dX7_part_2 (sp_X7_requireLot_ok hfl (wi_ok hw.1.1 hlot (by have := hw.1.2; omega))) mi_X7_requireLot mv_X7_requireLot ml_X7_122 sh_0 rfl rfl rfl rfl rfl rfl ?_
  refine pw_iload_n dX7_part_5 rfl ?_
  refine pw_iconst dX7_part_6 (v := 0) (by decide) ?_
  refine pw_aload_n dX7_part_7 rfl ?_
  refine pw_getr dX7_part_8 lf_X7_10 sh_0 rfl ?_
  refine pw_getr dX7_part_11 lf_X7_63 sh_1 rfl ?_
  refine pw_iload_n dX7_part_14 rfl ?_
  refine pw_cV dX7_part_15 (sp_X4_partsOf hlot24) mi_X4_partsOf mv_X4_partsOf ml_X7_158 sh_2 rfl rfl rfl rfl ⟨rfl, rfl⟩ rfl rfl ?_
  refine pw_iconst dX7_part_18 (v := 1) (by decide) ?_
  refine pw_isub dX7_part_19 ?_
  refine pw_cS dX7_part_20 (sp_X7_isWithin) mi_X7_isWithin ms_X7_isWithin ml_X7_161 rfl rfl ⟨rfl, rfl⟩ rfl rfl ?_
  refine pw_if_ne dX7_part_23 (tgt := 36) (by decide) (fun c23 => ?_) (fun c23 => absurd c23 (by rw [show (decide (0 ≤ m) && decide (m ≤ h 4 (lot * 5 + 2) - 1)) = true from e]; decide))
  refine pw_iload_n dX7_part_36 rfl ?_
  refine pw_iconst dX7_part_37 (v := 0) (by decide) ?_
  refine pw_iconst dX7_part_38 (v := 1) (by decide) ?_
  refine pw_flS dX7_part_39 (sp_X7_requireNumber_no hfl e2) mi_X7_requireNumber ms_X7_requireNumber ml_X7_59 rfl rfl rfl rfl ?_
  exact px_outT rfl rfl rfl rfl

set_option maxRecDepth 100000 in
set_option maxHeartbeats 4000000 in
theorem sp_X7_part_k0 {l : Launch} {G : GC} {ad : Nat → Nat} (hfl : l.stackTraces = false) {h : HP} {nL nH nB nC : Nat} {np : Nat → Nat} {pl : Nat → Nat → Nat} (hw : WF h nL nH nB nC np pl) {lot : Nat} (hlot : lot < nL) {t : Nat} (ht : t < np lot)  : PT l G yX7_part (.code yX7_part cX7_part 4 ((Option.some FieldType.int))) { frames := 8, cells := 3, slots := 18, locals := 132 } [.ref (ad 0), .int (nI lot), .int (nI t), .int (0)] SW ad (h) (.inl (some (.int (h 6 (lot * 4 + t))))) (h) := by
  refine PT.mk (L0 := [some (.ref (ad 0)), some (.int (nI lot)), some (.int (nI t)), some (.int (0))]) RX7 "part" 3 18 (by decide +kernel) rfl rfl ⟨rfl, rfl⟩ (by simp [Value.category]) (Nat.le_of_ble_eq_true rfl) rfl ?_
  have hb1 := hw.1.2
  have hlot24 : lot < 24 := by omega
  have hp9 := hw.2.2.2.2.1 lot hlot24
  have e : wiB (nI t) 0 (h 4 (lot * 5 + 2) - 1) = true := wi_ok hp9.1 ht (by omega)
  refine pw_aload_n dX7_part_0 rfl ?_
  refine pw_iload_n dX7_part_1 rfl ?_
  refine pw_okV dX7_part_2 (sp_X7_requireLot_ok hfl (wi_ok hw.1.1 hlot (by have := hw.1.2; omega))) mi_X7_requireLot mv_X7_requireLot ml_X7_122 sh_0 rfl rfl rfl rfl rfl rfl ?_
  refine pw_iload_n dX7_part_5 rfl ?_
  refine pw_iconst dX7_part_6 (v := 0) (by decide) ?_
  refine pw_aload_n dX7_part_7 rfl ?_
  refine pw_getr dX7_part_8 lf_X7_10 sh_0 rfl ?_
  refine pw_getr dX7_part_11 lf_X7_63 sh_1 rfl ?_
  refine pw_iload_n dX7_part_14 rfl ?_
  refine pw_cV dX7_part_15 (sp_X4_partsOf hlot24) mi_X4_partsOf mv_X4_partsOf ml_X7_158 sh_2 rfl rfl rfl rfl ⟨rfl, rfl⟩ rfl rfl ?_
  refine pw_iconst dX7_part_18 (v := 1) (by decide) ?_
  refine pw_isub dX7_part_19 ?_
  refine pw_cS dX7_part_20 (sp_X7_isWithin) mi_X7_isWithin ms_X7_isWithin ml_X7_161 rfl rfl ⟨rfl, rfl⟩ rfl rfl ?_
  refine pw_if_ne dX7_part_23 (tgt := 36) (by decide) (fun c23 => ?_) (fun c23 => absurd c23 (by rw [show (decide (0 ≤ nI t) && decide (nI t ≤ h 4 (lot * 5 + 2) - 1)) = true from e]; decide))
  refine pw_iload_n dX7_part_36 rfl ?_
  refine pw_iconst dX7_part_37 (v := 0) (by decide) ?_
  refine pw_iconst dX7_part_38 (v := 1) (by decide) ?_
  refine pw_okS dX7_part_39 (sp_X7_requireNumber_ok hfl (by decide)) mi_X7_requireNumber ms_X7_requireNumber ml_X7_59 rfl rfl rfl rfl ?_
  refine pw_iload_n dX7_part_42 rfl ?_
  refine pw_if_ne dX7_part_43 (tgt := 64) (by decide) (fun c43 => absurd c43 (fun q => q rfl)) (fun c43 => ?_)
  refine pw_aload_n dX7_part_46 rfl ?_
  refine pw_getr dX7_part_47 lf_X7_10 sh_0 rfl ?_
  refine pw_getr dX7_part_50 lf_X7_63 sh_1 rfl ?_
  refine pw_getr dX7_part_53 lf_X7_170 sh_2 rfl ?_
  refine pw_iload_n dX7_part_56 rfl ?_
  refine pw_iload_n dX7_part_57 rfl ?_
  refine pw_cV dX7_part_58 (sp_X6_at tq_5 (r := lot) (k := t) rfl rfl (hlot24) (by omega)) mi_X6_at mv_X6_at ml_X7_155 sh_5 rfl rfl rfl rfl ⟨rfl, rfl⟩ rfl rfl ?_
  refine pw_goto dX7_part_61 (tgt := 79) (by decide) ?_
  exact pw_iretT dX7_part_79 rfl rfl rfl rfl rfl

set_option maxRecDepth 100000 in
set_option maxHeartbeats 4000000 in
theorem sp_X7_part_k1 {l : Launch} {G : GC} {ad : Nat → Nat} (hfl : l.stackTraces = false) {h : HP} {nL nH nB nC : Nat} {np : Nat → Nat} {pl : Nat → Nat → Nat} (hw : WF h nL nH nB nC np pl) {lot : Nat} (hlot : lot < nL) {t : Nat} (ht : t < np lot)  : PT l G yX7_part (.code yX7_part cX7_part 4 ((Option.some FieldType.int))) { frames := 8, cells := 3, slots := 18, locals := 132 } [.ref (ad 0), .int (nI lot), .int (nI t), .int (1)] SW ad (h) (.inl (some (.int (h 8 (lot * 4 + t))))) (h) := by
  refine PT.mk (L0 := [some (.ref (ad 0)), some (.int (nI lot)), some (.int (nI t)), some (.int (1))]) RX7 "part" 3 18 (by decide +kernel) rfl rfl ⟨rfl, rfl⟩ (by simp [Value.category]) (Nat.le_of_ble_eq_true rfl) rfl ?_
  have hb1 := hw.1.2
  have hlot24 : lot < 24 := by omega
  have hp9 := hw.2.2.2.2.1 lot hlot24
  have e : wiB (nI t) 0 (h 4 (lot * 5 + 2) - 1) = true := wi_ok hp9.1 ht (by omega)
  refine pw_aload_n dX7_part_0 rfl ?_
  refine pw_iload_n dX7_part_1 rfl ?_
  refine pw_okV dX7_part_2 (sp_X7_requireLot_ok hfl (wi_ok hw.1.1 hlot (by have := hw.1.2; omega))) mi_X7_requireLot mv_X7_requireLot ml_X7_122 sh_0 rfl rfl rfl rfl rfl rfl ?_
  refine pw_iload_n dX7_part_5 rfl ?_
  refine pw_iconst dX7_part_6 (v := 0) (by decide) ?_
  refine pw_aload_n dX7_part_7 rfl ?_
  refine pw_getr dX7_part_8 lf_X7_10 sh_0 rfl ?_
  refine pw_getr dX7_part_11 lf_X7_63 sh_1 rfl ?_
  refine pw_iload_n dX7_part_14 rfl ?_
  refine pw_cV dX7_part_15 (sp_X4_partsOf hlot24) mi_X4_partsOf mv_X4_partsOf ml_X7_158 sh_2 rfl rfl rfl rfl ⟨rfl, rfl⟩ rfl rfl ?_
  refine pw_iconst dX7_part_18 (v := 1) (by decide) ?_
  refine pw_isub dX7_part_19 ?_
  refine pw_cS dX7_part_20 (sp_X7_isWithin) mi_X7_isWithin ms_X7_isWithin ml_X7_161 rfl rfl ⟨rfl, rfl⟩ rfl rfl ?_
  refine pw_if_ne dX7_part_23 (tgt := 36) (by decide) (fun c23 => ?_) (fun c23 => absurd c23 (by rw [show (decide (0 ≤ nI t) && decide (nI t ≤ h 4 (lot * 5 + 2) - 1)) = true from e]; decide))
  refine pw_iload_n dX7_part_36 rfl ?_
  refine pw_iconst dX7_part_37 (v := 0) (by decide) ?_
  refine pw_iconst dX7_part_38 (v := 1) (by decide) ?_
  refine pw_okS dX7_part_39 (sp_X7_requireNumber_ok hfl (by decide)) mi_X7_requireNumber ms_X7_requireNumber ml_X7_59 rfl rfl rfl rfl ?_
  refine pw_iload_n dX7_part_42 rfl ?_
  refine pw_if_ne dX7_part_43 (tgt := 64) (by decide) (fun c43 => ?_) (fun c43 => absurd c43 (by decide))
  refine pw_aload_n dX7_part_64 rfl ?_
  refine pw_getr dX7_part_65 lf_X7_10 sh_0 rfl ?_
  refine pw_getr dX7_part_68 lf_X7_63 sh_1 rfl ?_
  refine pw_getr dX7_part_71 lf_X7_173 sh_2 rfl ?_
  refine pw_iload_n dX7_part_74 rfl ?_
  refine pw_iload_n dX7_part_75 rfl ?_
  refine pw_cV dX7_part_76 (sp_X6_at tq_7 (r := lot) (k := t) rfl rfl (hlot24) (by omega)) mi_X6_at mv_X6_at ml_X7_155 sh_7 rfl rfl rfl rfl ⟨rfl, rfl⟩ rfl rfl ?_
  exact pw_iretT dX7_part_79 rfl rfl rfl rfl rfl

set_option maxRecDepth 100000 in
set_option maxHeartbeats 4000000 in
theorem sp_X7_share_no1 {l : Launch} {G : GC} {ad : Nat → Nat} (hfl : l.stackTraces = false) {h : HP} {m j : Int32} {n : Int32} (e1 : wiB n 0 (h 2 5 - 1) = false) : PT l G yX7_share (.code yX7_share cX7_share 4 ((Option.some FieldType.int))) { frames := 8, cells := 3, slots := 18, locals := 132 } [.ref (ad 0), .int (n), .int (m), .int (j)] SW ad (h) (.inr "java/lang/IndexOutOfBoundsException") (h) := by
  refine PT.mk (L0 := [some (.ref (ad 0)), some (.int (n)), some (.int (m)), some (.int (j))]) RX7 "share" 3 18 (by decide +kernel) rfl rfl ⟨rfl, rfl⟩ (by simp [Value.category]) (Nat.le_of_ble_eq_true rfl) rfl ?_
  refine pw_aload_n dX7_share_0 rfl ?_
  refine pw_iload_n dX7_share_1 rfl ?_
  refine pw_flV dX7_share_2 (sp_X7_requireLot_no hfl e1) mi_X7_requireLot mv_X7_requireLot ml_X7_122 sh_0 rfl rfl rfl rfl rfl rfl ?_
  exact px_outT rfl rfl rfl rfl

set_option maxRecDepth 100000 in
set_option maxHeartbeats 4000000 in
theorem sp_X7_share_no2 {l : Launch} {G : GC} {ad : Nat → Nat} (hfl : l.stackTraces = false) {h : HP} {nL nH nB nC : Nat} {np : Nat → Nat} {pl : Nat → Nat → Nat} (hw : WF h nL nH nB nC np pl) {lot : Nat} (hlot : lot < nL) {m j : Int32} (e : wiB m 0 3 = false) : PT l G yX7_share (.code yX7_share cX7_share 4 ((Option.some FieldType.int))) { frames := 8, cells := 3, slots := 18, locals := 132 } [.ref (ad 0), .int (nI lot), .int (m), .int (j)] SW ad (h) (.inr "java/lang/IllegalArgumentException") (h) := by
  refine PT.mk (L0 := [some (.ref (ad 0)), some (.int (nI lot)), some (.int (m)), some (.int (j))]) RX7 "share" 3 18 (by decide +kernel) rfl rfl ⟨rfl, rfl⟩ (by simp [Value.category]) (Nat.le_of_ble_eq_true rfl) rfl ?_
  have hb1 := hw.1.2
  have hlot24 : lot < 24 := by omega
  refine pw_aload_n dX7_share_0 rfl ?_
  refine pw_iload_n dX7_share_1 rfl ?_
  refine pw_okV dX7_share_2 (sp_X7_requireLot_ok hfl (wi_ok hw.1.1 hlot (by have := hw.1.2; omega))) mi_X7_requireLot mv_X7_requireLot ml_X7_122 sh_0 rfl rfl rfl rfl rfl rfl ?_
  refine pw_iload_n dX7_share_5 rfl ?_
  refine pw_iconst dX7_share_6 (v := 0) (by decide) ?_
  refine pw_iconst dX7_share_7 (v := 3) (by decide) ?_
  refine pw_flS dX7_share_8 (sp_X7_requireNumber_no hfl e) mi_X7_requireNumber ms_X7_requireNumber ml_X7_59 rfl rfl rfl rfl ?_
  exact px_outT rfl rfl rfl rfl

set_option maxRecDepth 100000 in
set_option maxHeartbeats 4000000 in
theorem sp_X7_share_no30 {l : Launch} {G : GC} {ad : Nat → Nat} (hfl : l.stackTraces = false) {h : HP} {nL nH nB nC : Nat} {np : Nat → Nat} {pl : Nat → Nat → Nat} (hw : WF h nL nH nB nC np pl) {lot : Nat} (hlot : lot < nL) {j : Int32} (e : wiB j 0 (h 2 6 - 1) = false) : PT l G yX7_share (.code yX7_share cX7_share 4 ((Option.some FieldType.int))) { frames := 8, cells := 3, slots := 18, locals := 132 } [.ref (ad 0), .int (nI lot), .int (0), .int (j)] SW ad (h) (.inr "java/lang/IllegalArgumentException") (h) := by
  refine PT.mk (L0 := [some (.ref (ad 0)), some (.int (nI lot)), some (.int (0)), some (.int (j))]) RX7 "share" 3 18 (by decide +kernel) rfl rfl ⟨rfl, rfl⟩ (by simp [Value.category]) (Nat.le_of_ble_eq_true rfl) rfl ?_
  have hb1 := hw.1.2
  have hlot24 : lot < 24 := by omega
  refine pw_aload_n dX7_share_0 rfl ?_
  refine pw_iload_n dX7_share_1 rfl ?_
  refine pw_okV dX7_share_2 (sp_X7_requireLot_ok hfl (wi_ok hw.1.1 hlot (by have := hw.1.2; omega))) mi_X7_requireLot mv_X7_requireLot ml_X7_122 sh_0 rfl rfl rfl rfl rfl rfl ?_
  refine pw_iload_n dX7_share_5 rfl ?_
  refine pw_iconst dX7_share_6 (v := 0) (by decide) ?_
  refine pw_iconst dX7_share_7 (v := 3) (by decide) ?_
  refine pw_okS dX7_share_8 (sp_X7_requireNumber_ok hfl (by decide)) mi_X7_requireNumber ms_X7_requireNumber ml_X7_59 rfl rfl rfl rfl ?_
  refine pw_iload_n dX7_share_11 rfl ?_
  refine pw_iconst dX7_share_12 (v := 0) (by decide) ?_
  refine pw_aload_n dX7_share_13 rfl ?_
  refine pw_getr dX7_share_14 lf_X7_10 sh_0 rfl ?_
  refine pw_getr dX7_share_17 lf_X7_63 sh_1 rfl ?_
  refine pw_iload_n dX7_share_20 rfl ?_
  refine pw_cV dX7_share_21 (sp_X4_numbersBy0) mi_X4_numbersBy mv_X4_numbersBy ml_X7_176 sh_2 rfl rfl rfl rfl ⟨rfl, rfl⟩ rfl rfl ?_
  refine pw_iconst dX7_share_24 (v := 1) (by decide) ?_
  refine pw_isub dX7_share_25 ?_
  refine pw_flS dX7_share_26 (sp_X7_requireNumber_no hfl e) mi_X7_requireNumber ms_X7_requireNumber ml_X7_59 rfl rfl rfl rfl ?_
  exact px_outT rfl rfl rfl rfl

set_option maxRecDepth 100000 in
set_option maxHeartbeats 4000000 in
theorem sp_X7_share_k0 {l : Launch} {G : GC} {ad : Nat → Nat} (hfl : l.stackTraces = false) {h : HP} {nL nH nB nC : Nat} {np : Nat → Nat} {pl : Nat → Nat → Nat} (hw : WF h nL nH nB nC np pl) {lot : Nat} (hlot : lot < nL) {j : Nat} (hj : j < nH)  : PT l G yX7_share (.code yX7_share cX7_share 4 ((Option.some FieldType.int))) { frames := 8, cells := 3, slots := 18, locals := 132 } [.ref (ad 0), .int (nI lot), .int (0), .int (nI j)] SW ad (h) (.inl (some (.int (h 10 (lot * 12 + j))))) (h) := by
  refine PT.mk (L0 := [some (.ref (ad 0)), some (.int (nI lot)), some (.int (0)), some (.int (nI j))]) RX7 "share" 3 18 (by decide +kernel) rfl rfl ⟨rfl, rfl⟩ (by simp [Value.category]) (Nat.le_of_ble_eq_true rfl) rfl ?_
  have hb1 := hw.1.2
  have hlot24 : lot < 24 := by omega
  have hb2 := hw.2.1.2
  refine pw_aload_n dX7_share_0 rfl ?_
  refine pw_iload_n dX7_share_1 rfl ?_
  refine pw_okV dX7_share_2 (sp_X7_requireLot_ok hfl (wi_ok hw.1.1 hlot (by have := hw.1.2; omega))) mi_X7_requireLot mv_X7_requireLot ml_X7_122 sh_0 rfl rfl rfl rfl rfl rfl ?_
  refine pw_iload_n dX7_share_5 rfl ?_
  refine pw_iconst dX7_share_6 (v := 0) (by decide) ?_
  refine pw_iconst dX7_share_7 (v := 3) (by decide) ?_
  refine pw_okS dX7_share_8 (sp_X7_requireNumber_ok hfl (by decide)) mi_X7_requireNumber ms_X7_requireNumber ml_X7_59 rfl rfl rfl rfl ?_
  refine pw_iload_n dX7_share_11 rfl ?_
  refine pw_iconst dX7_share_12 (v := 0) (by decide) ?_
  refine pw_aload_n dX7_share_13 rfl ?_
  refine pw_getr dX7_share_14 lf_X7_10 sh_0 rfl ?_
  refine pw_getr dX7_share_17 lf_X7_63 sh_1 rfl ?_
  refine pw_iload_n dX7_share_20 rfl ?_
  refine pw_cV dX7_share_21 (sp_X4_numbersBy0) mi_X4_numbersBy mv_X4_numbersBy ml_X7_176 sh_2 rfl rfl rfl rfl ⟨rfl, rfl⟩ rfl rfl ?_
  refine pw_iconst dX7_share_24 (v := 1) (by decide) ?_
  refine pw_isub dX7_share_25 ?_
  refine pw_okS dX7_share_26 (sp_X7_requireNumber_ok hfl (wi_ok hw.2.1.1 hj (by omega))) mi_X7_requireNumber ms_X7_requireNumber ml_X7_59 rfl rfl rfl rfl ?_
  refine pw_aload_n dX7_share_29 rfl ?_
  refine pw_getr dX7_share_30 lf_X7_10 sh_0 rfl ?_
  refine pw_getr dX7_share_33 lf_X7_63 sh_1 rfl ?_
  refine pw_iload_n dX7_share_36 rfl ?_
  refine pw_iload_n dX7_share_37 rfl ?_
  refine pw_iload_n dX7_share_38 rfl ?_
  refine pw_cV dX7_share_39 (sp_X4_shareBy0 hlot24 (k := j) (by omega)) mi_X4_shareBy mv_X4_shareBy ml_X7_179 sh_2 rfl rfl rfl rfl ⟨rfl, rfl⟩ rfl rfl ?_
  exact pw_iretT dX7_share_42 rfl rfl rfl rfl rfl

set_option maxRecDepth 100000 in
set_option maxHeartbeats 4000000 in
theorem sp_X7_share_no31 {l : Launch} {G : GC} {ad : Nat → Nat} (hfl : l.stackTraces = false) {h : HP} {nL nH nB nC : Nat} {np : Nat → Nat} {pl : Nat → Nat → Nat} (hw : WF h nL nH nB nC np pl) {lot : Nat} (hlot : lot < nL) {j : Int32} (e : wiB j 0 (100 - 1) = false) : PT l G yX7_share (.code yX7_share cX7_share 4 ((Option.some FieldType.int))) { frames := 8, cells := 3, slots := 18, locals := 132 } [.ref (ad 0), .int (nI lot), .int (1), .int (j)] SW ad (h) (.inr "java/lang/IllegalArgumentException") (h) := by
  refine PT.mk (L0 := [some (.ref (ad 0)), some (.int (nI lot)), some (.int (1)), some (.int (j))]) RX7 "share" 3 18 (by decide +kernel) rfl rfl ⟨rfl, rfl⟩ (by simp [Value.category]) (Nat.le_of_ble_eq_true rfl) rfl ?_
  have hb1 := hw.1.2
  have hlot24 : lot < 24 := by omega
  refine pw_aload_n dX7_share_0 rfl ?_
  refine pw_iload_n dX7_share_1 rfl ?_
  refine pw_okV dX7_share_2 (sp_X7_requireLot_ok hfl (wi_ok hw.1.1 hlot (by have := hw.1.2; omega))) mi_X7_requireLot mv_X7_requireLot ml_X7_122 sh_0 rfl rfl rfl rfl rfl rfl ?_
  refine pw_iload_n dX7_share_5 rfl ?_
  refine pw_iconst dX7_share_6 (v := 0) (by decide) ?_
  refine pw_iconst dX7_share_7 (v := 3) (by decide) ?_
  refine pw_okS dX7_share_8 (sp_X7_requireNumber_ok hfl (by decide)) mi_X7_requireNumber ms_X7_requireNumber ml_X7_59 rfl rfl rfl rfl ?_
  refine pw_iload_n dX7_share_11 rfl ?_
  refine pw_iconst dX7_share_12 (v := 0) (by decide) ?_
  refine pw_aload_n dX7_share_13 rfl ?_
  refine pw_getr dX7_share_14 lf_X7_10 sh_0 rfl ?_
  refine pw_getr dX7_share_17 lf_X7_63 sh_1 rfl ?_
  refine pw_iload_n dX7_share_20 rfl ?_
  refine pw_cV dX7_share_21 (sp_X4_numbersBy1) mi_X4_numbersBy mv_X4_numbersBy ml_X7_176 sh_2 rfl rfl rfl rfl ⟨rfl, rfl⟩ rfl rfl ?_
  refine pw_iconst dX7_share_24 (v := 1) (by decide) ?_
  refine pw_isub dX7_share_25 ?_
  refine pw_flS dX7_share_26 (sp_X7_requireNumber_no hfl e) mi_X7_requireNumber ms_X7_requireNumber ml_X7_59 rfl rfl rfl rfl ?_
  exact px_outT rfl rfl rfl rfl

set_option maxRecDepth 100000 in
set_option maxHeartbeats 4000000 in
theorem sp_X7_share_k1 {l : Launch} {G : GC} {ad : Nat → Nat} (hfl : l.stackTraces = false) {h : HP} {nL nH nB nC : Nat} {np : Nat → Nat} {pl : Nat → Nat → Nat} (hw : WF h nL nH nB nC np pl) {lot : Nat} (hlot : lot < nL) {j : Int32} (e : wiB j 0 (100 - 1) = true) : PT l G yX7_share (.code yX7_share cX7_share 4 ((Option.some FieldType.int))) { frames := 8, cells := 3, slots := 18, locals := 132 } [.ref (ad 0), .int (nI lot), .int (1), .int (j)] SW ad (h) (.inl (some (.int (shS h lot 0 nH j)))) (h) := by
  refine PT.mk (L0 := [some (.ref (ad 0)), some (.int (nI lot)), some (.int (1)), some (.int (j))]) RX7 "share" 3 18 (by decide +kernel) rfl rfl ⟨rfl, rfl⟩ (by simp [Value.category]) (Nat.le_of_ble_eq_true rfl) rfl ?_
  have hb1 := hw.1.2
  have hlot24 : lot < 24 := by omega
  refine pw_aload_n dX7_share_0 rfl ?_
  refine pw_iload_n dX7_share_1 rfl ?_
  refine pw_okV dX7_share_2 (sp_X7_requireLot_ok hfl (wi_ok hw.1.1 hlot (by have := hw.1.2; omega))) mi_X7_requireLot mv_X7_requireLot ml_X7_122 sh_0 rfl rfl rfl rfl rfl rfl ?_
  refine pw_iload_n dX7_share_5 rfl ?_
  refine pw_iconst dX7_share_6 (v := 0) (by decide) ?_
  refine pw_iconst dX7_share_7 (v := 3) (by decide) ?_
  refine pw_okS dX7_share_8 (sp_X7_requireNumber_ok hfl (by decide)) mi_X7_requireNumber ms_X7_requireNumber ml_X7_59 rfl rfl rfl rfl ?_
  refine pw_iload_n dX7_share_11 rfl ?_
  refine pw_iconst dX7_share_12 (v := 0) (by decide) ?_
  refine pw_aload_n dX7_share_13 rfl ?_
  refine pw_getr dX7_share_14 lf_X7_10 sh_0 rfl ?_
  refine pw_getr dX7_share_17 lf_X7_63 sh_1 rfl ?_
  refine pw_iload_n dX7_share_20 rfl ?_
  refine pw_cV dX7_share_21 (sp_X4_numbersBy1) mi_X4_numbersBy mv_X4_numbersBy ml_X7_176 sh_2 rfl rfl rfl rfl ⟨rfl, rfl⟩ rfl rfl ?_
  refine pw_iconst dX7_share_24 (v := 1) (by decide) ?_
  refine pw_isub dX7_share_25 ?_
  refine pw_okS dX7_share_26 (sp_X7_requireNumber_ok hfl e) mi_X7_requireNumber ms_X7_requireNumber ml_X7_59 rfl rfl rfl rfl ?_
  refine pw_aload_n dX7_share_29 rfl ?_
  refine pw_getr dX7_share_30 lf_X7_10 sh_0 rfl ?_
  refine pw_getr dX7_share_33 lf_X7_63 sh_1 rfl ?_
  refine pw_iload_n dX7_share_36 rfl ?_
  refine pw_iload_n dX7_share_37 rfl ?_
  refine pw_iload_n dX7_share_38 rfl ?_
  refine pw_cV dX7_share_39 (sp_X4_shareBy hw hlot24 (w := 0) (by decide)) mi_X4_shareBy mv_X4_shareBy ml_X7_179 sh_2 rfl rfl rfl rfl ⟨rfl, rfl⟩ rfl rfl ?_
  exact pw_iretT dX7_share_42 rfl rfl rfl rfl rfl

set_option maxRecDepth 100000 in
set_option maxHeartbeats 4000000 in
theorem sp_X7_share_no32 {l : Launch} {G : GC} {ad : Nat → Nat} (hfl : l.stackTraces = false) {h : HP} {nL nH nB nC : Nat} {np : Nat → Nat} {pl : Nat → Nat → Nat} (hw : WF h nL nH nB nC np pl) {lot : Nat} (hlot : lot < nL) {j : Int32} (e : wiB j 0 (5 - 1) = false) : PT l G yX7_share (.code yX7_share cX7_share 4 ((Option.some FieldType.int))) { frames := 8, cells := 3, slots := 18, locals := 132 } [.ref (ad 0), .int (nI lot), .int (2), .int (j)] SW ad (h) (.inr "java/lang/IllegalArgumentException") (h) := by
  refine PT.mk (L0 := [some (.ref (ad 0)), some (.int (nI lot)), some (.int (2)), some (.int (j))]) RX7 "share" 3 18 (by decide +kernel) rfl rfl ⟨rfl, rfl⟩ (by simp [Value.category]) (Nat.le_of_ble_eq_true rfl) rfl ?_
  have hb1 := hw.1.2
  have hlot24 : lot < 24 := by omega
  refine pw_aload_n dX7_share_0 rfl ?_
  refine pw_iload_n dX7_share_1 rfl ?_
  refine pw_okV dX7_share_2 (sp_X7_requireLot_ok hfl (wi_ok hw.1.1 hlot (by have := hw.1.2; omega))) mi_X7_requireLot mv_X7_requireLot ml_X7_122 sh_0 rfl rfl rfl rfl rfl rfl ?_
  refine pw_iload_n dX7_share_5 rfl ?_
  refine pw_iconst dX7_share_6 (v := 0) (by decide) ?_
  refine pw_iconst dX7_share_7 (v := 3) (by decide) ?_
  refine pw_okS dX7_share_8 (sp_X7_requireNumber_ok hfl (by decide)) mi_X7_requireNumber ms_X7_requireNumber ml_X7_59 rfl rfl rfl rfl ?_
  refine pw_iload_n dX7_share_11 rfl ?_
  refine pw_iconst dX7_share_12 (v := 0) (by decide) ?_
  refine pw_aload_n dX7_share_13 rfl ?_
  refine pw_getr dX7_share_14 lf_X7_10 sh_0 rfl ?_
  refine pw_getr dX7_share_17 lf_X7_63 sh_1 rfl ?_
  refine pw_iload_n dX7_share_20 rfl ?_
  refine pw_cV dX7_share_21 (sp_X4_numbersBy2) mi_X4_numbersBy mv_X4_numbersBy ml_X7_176 sh_2 rfl rfl rfl rfl ⟨rfl, rfl⟩ rfl rfl ?_
  refine pw_iconst dX7_share_24 (v := 1) (by decide) ?_
  refine pw_isub dX7_share_25 ?_
  refine pw_flS dX7_share_26 (sp_X7_requireNumber_no hfl e) mi_X7_requireNumber ms_X7_requireNumber ml_X7_59 rfl rfl rfl rfl ?_
  exact px_outT rfl rfl rfl rfl

set_option maxRecDepth 100000 in
set_option maxHeartbeats 4000000 in
theorem sp_X7_share_k2 {l : Launch} {G : GC} {ad : Nat → Nat} (hfl : l.stackTraces = false) {h : HP} {nL nH nB nC : Nat} {np : Nat → Nat} {pl : Nat → Nat → Nat} (hw : WF h nL nH nB nC np pl) {lot : Nat} (hlot : lot < nL) {j : Int32} (e : wiB j 0 (5 - 1) = true) : PT l G yX7_share (.code yX7_share cX7_share 4 ((Option.some FieldType.int))) { frames := 8, cells := 3, slots := 18, locals := 132 } [.ref (ad 0), .int (nI lot), .int (2), .int (j)] SW ad (h) (.inl (some (.int (shS h lot 1 nH j)))) (h) := by
  refine PT.mk (L0 := [some (.ref (ad 0)), some (.int (nI lot)), some (.int (2)), some (.int (j))]) RX7 "share" 3 18 (by decide +kernel) rfl rfl ⟨rfl, rfl⟩ (by simp [Value.category]) (Nat.le_of_ble_eq_true rfl) rfl ?_
  have hb1 := hw.1.2
  have hlot24 : lot < 24 := by omega
  refine pw_aload_n dX7_share_0 rfl ?_
  refine pw_iload_n dX7_share_1 rfl ?_
  refine pw_okV dX7_share_2 (sp_X7_requireLot_ok hfl (wi_ok hw.1.1 hlot (by have := hw.1.2; omega))) mi_X7_requireLot mv_X7_requireLot ml_X7_122 sh_0 rfl rfl rfl rfl rfl rfl ?_
  refine pw_iload_n dX7_share_5 rfl ?_
  refine pw_iconst dX7_share_6 (v := 0) (by decide) ?_
  refine pw_iconst dX7_share_7 (v := 3) (by decide) ?_
  refine pw_okS dX7_share_8 (sp_X7_requireNumber_ok hfl (by decide)) mi_X7_requireNumber ms_X7_requireNumber ml_X7_59 rfl rfl rfl rfl ?_
  refine pw_iload_n dX7_share_11 rfl ?_
  refine pw_iconst dX7_share_12 (v := 0) (by decide) ?_
  refine pw_aload_n dX7_share_13 rfl ?_
  refine pw_getr dX7_share_14 lf_X7_10 sh_0 rfl ?_
  refine pw_getr dX7_share_17 lf_X7_63 sh_1 rfl ?_
  refine pw_iload_n dX7_share_20 rfl ?_
  refine pw_cV dX7_share_21 (sp_X4_numbersBy2) mi_X4_numbersBy mv_X4_numbersBy ml_X7_176 sh_2 rfl rfl rfl rfl ⟨rfl, rfl⟩ rfl rfl ?_
  refine pw_iconst dX7_share_24 (v := 1) (by decide) ?_
  refine pw_isub dX7_share_25 ?_
  refine pw_okS dX7_share_26 (sp_X7_requireNumber_ok hfl e) mi_X7_requireNumber ms_X7_requireNumber ml_X7_59 rfl rfl rfl rfl ?_
  refine pw_aload_n dX7_share_29 rfl ?_
  refine pw_getr dX7_share_30 lf_X7_10 sh_0 rfl ?_
  refine pw_getr dX7_share_33 lf_X7_63 sh_1 rfl ?_
  refine pw_iload_n dX7_share_36 rfl ?_
  refine pw_iload_n dX7_share_37 rfl ?_
  refine pw_iload_n dX7_share_38 rfl ?_
  refine pw_cV dX7_share_39 (sp_X4_shareBy hw hlot24 (w := 1) (by decide)) mi_X4_shareBy mv_X4_shareBy ml_X7_179 sh_2 rfl rfl rfl rfl ⟨rfl, rfl⟩ rfl rfl ?_
  exact pw_iretT dX7_share_42 rfl rfl rfl rfl rfl

set_option maxRecDepth 100000 in
set_option maxHeartbeats 4000000 in
theorem sp_X7_share_no33 {l : Launch} {G : GC} {ad : Nat → Nat} (hfl : l.stackTraces = false) {h : HP} {nL nH nB nC : Nat} {np : Nat → Nat} {pl : Nat → Nat → Nat} (hw : WF h nL nH nB nC np pl) {lot : Nat} (hlot : lot < nL) {j : Int32} (e : wiB j 0 (4 - 1) = false) : PT l G yX7_share (.code yX7_share cX7_share 4 ((Option.some FieldType.int))) { frames := 8, cells := 3, slots := 18, locals := 132 } [.ref (ad 0), .int (nI lot), .int (3), .int (j)] SW ad (h) (.inr "java/lang/IllegalArgumentException") (h) := by
  refine PT.mk (L0 := [some (.ref (ad 0)), some (.int (nI lot)), some (.int (3)), some (.int (j))]) RX7 "share" 3 18 (by decide +kernel) rfl rfl ⟨rfl, rfl⟩ (by simp [Value.category]) (Nat.le_of_ble_eq_true rfl) rfl ?_
  have hb1 := hw.1.2
  have hlot24 : lot < 24 := by omega
  refine pw_aload_n dX7_share_0 rfl ?_
  refine pw_iload_n dX7_share_1 rfl ?_
  refine pw_okV dX7_share_2 (sp_X7_requireLot_ok hfl (wi_ok hw.1.1 hlot (by have := hw.1.2; omega))) mi_X7_requireLot mv_X7_requireLot ml_X7_122 sh_0 rfl rfl rfl rfl rfl rfl ?_
  refine pw_iload_n dX7_share_5 rfl ?_
  refine pw_iconst dX7_share_6 (v := 0) (by decide) ?_
  refine pw_iconst dX7_share_7 (v := 3) (by decide) ?_
  refine pw_okS dX7_share_8 (sp_X7_requireNumber_ok hfl (by decide)) mi_X7_requireNumber ms_X7_requireNumber ml_X7_59 rfl rfl rfl rfl ?_
  refine pw_iload_n dX7_share_11 rfl ?_
  refine pw_iconst dX7_share_12 (v := 0) (by decide) ?_
  refine pw_aload_n dX7_share_13 rfl ?_
  refine pw_getr dX7_share_14 lf_X7_10 sh_0 rfl ?_
  refine pw_getr dX7_share_17 lf_X7_63 sh_1 rfl ?_
  refine pw_iload_n dX7_share_20 rfl ?_
  refine pw_cV dX7_share_21 (sp_X4_numbersBy3) mi_X4_numbersBy mv_X4_numbersBy ml_X7_176 sh_2 rfl rfl rfl rfl ⟨rfl, rfl⟩ rfl rfl ?_
  refine pw_iconst dX7_share_24 (v := 1) (by decide) ?_
  refine pw_isub dX7_share_25 ?_
  refine pw_flS dX7_share_26 (sp_X7_requireNumber_no hfl e) mi_X7_requireNumber ms_X7_requireNumber ml_X7_59 rfl rfl rfl rfl ?_
  exact px_outT rfl rfl rfl rfl

set_option maxRecDepth 100000 in
set_option maxHeartbeats 4000000 in
theorem sp_X7_share_k3 {l : Launch} {G : GC} {ad : Nat → Nat} (hfl : l.stackTraces = false) {h : HP} {nL nH nB nC : Nat} {np : Nat → Nat} {pl : Nat → Nat → Nat} (hw : WF h nL nH nB nC np pl) {lot : Nat} (hlot : lot < nL) {j : Int32} (e : wiB j 0 (4 - 1) = true) : PT l G yX7_share (.code yX7_share cX7_share 4 ((Option.some FieldType.int))) { frames := 8, cells := 3, slots := 18, locals := 132 } [.ref (ad 0), .int (nI lot), .int (3), .int (j)] SW ad (h) (.inl (some (.int (shS h lot 2 nH j)))) (h) := by
  refine PT.mk (L0 := [some (.ref (ad 0)), some (.int (nI lot)), some (.int (3)), some (.int (j))]) RX7 "share" 3 18 (by decide +kernel) rfl rfl ⟨rfl, rfl⟩ (by simp [Value.category]) (Nat.le_of_ble_eq_true rfl) rfl ?_
  have hb1 := hw.1.2
  have hlot24 : lot < 24 := by omega
  refine pw_aload_n dX7_share_0 rfl ?_
  refine pw_iload_n dX7_share_1 rfl ?_
  refine pw_okV dX7_share_2 (sp_X7_requireLot_ok hfl (wi_ok hw.1.1 hlot (by have := hw.1.2; omega))) mi_X7_requireLot mv_X7_requireLot ml_X7_122 sh_0 rfl rfl rfl rfl rfl rfl ?_
  refine pw_iload_n dX7_share_5 rfl ?_
  refine pw_iconst dX7_share_6 (v := 0) (by decide) ?_
  refine pw_iconst dX7_share_7 (v := 3) (by decide) ?_
  refine pw_okS dX7_share_8 (sp_X7_requireNumber_ok hfl (by decide)) mi_X7_requireNumber ms_X7_requireNumber ml_X7_59 rfl rfl rfl rfl ?_
  refine pw_iload_n dX7_share_11 rfl ?_
  refine pw_iconst dX7_share_12 (v := 0) (by decide) ?_
  refine pw_aload_n dX7_share_13 rfl ?_
  refine pw_getr dX7_share_14 lf_X7_10 sh_0 rfl ?_
  refine pw_getr dX7_share_17 lf_X7_63 sh_1 rfl ?_
  refine pw_iload_n dX7_share_20 rfl ?_
  refine pw_cV dX7_share_21 (sp_X4_numbersBy3) mi_X4_numbersBy mv_X4_numbersBy ml_X7_176 sh_2 rfl rfl rfl rfl ⟨rfl, rfl⟩ rfl rfl ?_
  refine pw_iconst dX7_share_24 (v := 1) (by decide) ?_
  refine pw_isub dX7_share_25 ?_
  refine pw_okS dX7_share_26 (sp_X7_requireNumber_ok hfl e) mi_X7_requireNumber ms_X7_requireNumber ml_X7_59 rfl rfl rfl rfl ?_
  refine pw_aload_n dX7_share_29 rfl ?_
  refine pw_getr dX7_share_30 lf_X7_10 sh_0 rfl ?_
  refine pw_getr dX7_share_33 lf_X7_63 sh_1 rfl ?_
  refine pw_iload_n dX7_share_36 rfl ?_
  refine pw_iload_n dX7_share_37 rfl ?_
  refine pw_iload_n dX7_share_38 rfl ?_
  refine pw_cV dX7_share_39 (sp_X4_shareBy hw hlot24 (w := 2) (by decide)) mi_X4_shareBy mv_X4_shareBy ml_X7_179 sh_2 rfl rfl rfl rfl ⟨rfl, rfl⟩ rfl rfl ?_
  exact pw_iretT dX7_share_42 rfl rfl rfl rfl rfl

set_option maxRecDepth 100000 in
set_option maxHeartbeats 4000000 in
theorem sp_X7_greatest_no1 {l : Launch} {G : GC} {ad : Nat → Nat} (hfl : l.stackTraces = false) {h : HP} {m : Int32} {n : Int32} (e1 : wiB n 0 (h 2 5 - 1) = false) : PT l G yX7_greatest (.code yX7_greatest cX7_greatest 3 ((Option.some FieldType.int))) { frames := 8, cells := 2, slots := 12, locals := 132 } [.ref (ad 0), .int (n), .int (m)] SW ad (h) (.inr "java/lang/IndexOutOfBoundsException") (h) := by
  refine PT.mk (L0 := [some (.ref (ad 0)), some (.int (n)), some (.int (m))]) RX7 "greatest" 2 12 (by decide +kernel) rfl rfl ⟨rfl, rfl⟩ (by simp [Value.category]) (Nat.le_of_ble_eq_true rfl) rfl ?_
  refine pw_aload_n dX7_greatest_0 rfl ?_
  refine pw_iload_n dX7_greatest_1 rfl ?_
  refine pw_flV dX7_greatest_2 (sp_X7_requireLot_no hfl e1) mi_X7_requireLot mv_X7_requireLot ml_X7_122 sh_0 rfl rfl rfl rfl rfl rfl ?_
  exact px_outT rfl rfl rfl rfl

set_option maxRecDepth 100000 in
set_option maxHeartbeats 4000000 in
theorem sp_X7_greatest_no2 {l : Launch} {G : GC} {ad : Nat → Nat} (hfl : l.stackTraces = false) {h : HP} {nL nH nB nC : Nat} {np : Nat → Nat} {pl : Nat → Nat → Nat} (hw : WF h nL nH nB nC np pl) {lot : Nat} (hlot : lot < nL) {m : Int32} (e : wiB m 0 (nI (cntB (fun k => decide (0 < h 10 (lot * 12 + k))) nH) - 1) = false) : PT l G yX7_greatest (.code yX7_greatest cX7_greatest 3 ((Option.some FieldType.int))) { frames := 8, cells := 2, slots := 12, locals := 132 } [.ref (ad 0), .int (nI lot), .int (m)] SW ad (h) (.inr "java/util/NoSuchElementException") (h) := by
  refine PT.mk (L0 := [some (.ref (ad 0)), some (.int (nI lot)), some (.int (m))]) RX7 "greatest" 2 12 (by decide +kernel) rfl rfl ⟨rfl, rfl⟩ (by simp [Value.category]) (Nat.le_of_ble_eq_true rfl) rfl ?_
  have hb1 := hw.1.2
  have hlot24 : lot < 24 := by omega
  refine pw_aload_n dX7_greatest_0 rfl ?_
  refine pw_iload_n dX7_greatest_1 rfl ?_
  refine pw_okV dX7_greatest_2 (sp_X7_requireLot_ok hfl (wi_ok hw.1.1 hlot (by have := hw.1.2; omega))) mi_X7_requireLot mv_X7_requireLot ml_X7_122 sh_0 rfl rfl rfl rfl rfl rfl ?_
  refine pw_iload_n dX7_greatest_5 rfl ?_
  refine pw_iconst dX7_greatest_6 (v := 0) (by decide) ?_
  refine pw_aload_n dX7_greatest_7 rfl ?_
  refine pw_getr dX7_greatest_8 lf_X7_10 sh_0 rfl ?_
  refine pw_getr dX7_greatest_11 lf_X7_63 sh_1 rfl ?_
  refine pw_iload_n dX7_greatest_14 rfl ?_
  refine pw_cV dX7_greatest_15 (sp_X4_harvestsIn hw hlot24) mi_X4_harvestsIn mv_X4_harvestsIn ml_X7_141 sh_2 rfl rfl rfl rfl ⟨rfl, rfl⟩ rfl rfl ?_
  refine pw_iconst dX7_greatest_18 (v := 1) (by decide) ?_
  refine pw_isub dX7_greatest_19 ?_
  refine pw_cS dX7_greatest_20 (sp_X7_isWithin) mi_X7_isWithin ms_X7_isWithin ml_X7_161 rfl rfl ⟨rfl, rfl⟩ rfl rfl ?_
  refine pw_if_ne dX7_greatest_23 (tgt := 36) (by decide) (fun c23 => absurd c23 (by rw [show (decide (0 ≤ m) && decide (m ≤ nI (cntB (fun k => decide (0 < h 10 (lot * 12 + k))) nH) - 1)) = false from e]; decide)) (fun c23 => ?_)
  exact pw_throwN hfl tw_165_183_169 dX7_greatest_26 dX7_greatest_29 dX7_greatest_30 dX7_greatest_32 dX7_greatest_35 rfl ⟨Nat.le_of_ble_eq_true rfl, Nat.le_of_ble_eq_true rfl, Nat.le_of_ble_eq_true rfl, Nat.le_of_ble_eq_true rfl⟩ (⟨rfl, rfl⟩) (Nat.le_of_ble_eq_true rfl) (Nat.le_of_ble_eq_true rfl)

set_option maxRecDepth 100000 in
set_option maxHeartbeats 4000000 in
theorem sp_X7_greatest_ok {l : Launch} {G : GC} {ad : Nat → Nat} (hfl : l.stackTraces = false) {h : HP} {nL nH nB nC : Nat} {np : Nat → Nat} {pl : Nat → Nat → Nat} (hw : WF h nL nH nB nC np pl) {lot : Nat} (hlot : lot < nL) {m : Int32} (e : wiB m 0 (nI (cntB (fun k => decide (0 < h 10 (lot * 12 + k))) nH) - 1) = true) : PT l G yX7_greatest (.code yX7_greatest cX7_greatest 3 ((Option.some FieldType.int))) { frames := 8, cells := 2, slots := 12, locals := 132 } [.ref (ad 0), .int (nI lot), .int (m)] SW ad (h) (.inl (some (.int (firstF (fun j => decide (nI (rk (fun o => h 10 (lot * 12 + o)) 12 j) = m)) 0 12)))) (h) := by
  refine PT.mk (L0 := [some (.ref (ad 0)), some (.int (nI lot)), some (.int (m))]) RX7 "greatest" 2 12 (by decide +kernel) rfl rfl ⟨rfl, rfl⟩ (by simp [Value.category]) (Nat.le_of_ble_eq_true rfl) rfl ?_
  have hb1 := hw.1.2
  have hlot24 : lot < 24 := by omega
  refine pw_aload_n dX7_greatest_0 rfl ?_
  refine pw_iload_n dX7_greatest_1 rfl ?_
  refine pw_okV dX7_greatest_2 (sp_X7_requireLot_ok hfl (wi_ok hw.1.1 hlot (by have := hw.1.2; omega))) mi_X7_requireLot mv_X7_requireLot ml_X7_122 sh_0 rfl rfl rfl rfl rfl rfl ?_
  refine pw_iload_n dX7_greatest_5 rfl ?_
  refine pw_iconst dX7_greatest_6 (v := 0) (by decide) ?_
  refine pw_aload_n dX7_greatest_7 rfl ?_
  refine pw_getr dX7_greatest_8 lf_X7_10 sh_0 rfl ?_
  refine pw_getr dX7_greatest_11 lf_X7_63 sh_1 rfl ?_
  refine pw_iload_n dX7_greatest_14 rfl ?_
  refine pw_cV dX7_greatest_15 (sp_X4_harvestsIn hw hlot24) mi_X4_harvestsIn mv_X4_harvestsIn ml_X7_141 sh_2 rfl rfl rfl rfl ⟨rfl, rfl⟩ rfl rfl ?_
  refine pw_iconst dX7_greatest_18 (v := 1) (by decide) ?_
  refine pw_isub dX7_greatest_19 ?_
  refine pw_cS dX7_greatest_20 (sp_X7_isWithin) mi_X7_isWithin ms_X7_isWithin ml_X7_161 rfl rfl ⟨rfl, rfl⟩ rfl rfl ?_
  refine pw_if_ne dX7_greatest_23 (tgt := 36) (by decide) (fun c23 => ?_) (fun c23 => absurd c23 (by rw [show (decide (0 ≤ m) && decide (m ≤ nI (cntB (fun k => decide (0 < h 10 (lot * 12 + k))) nH) - 1)) = true from e]; decide))
  refine pw_aload_n dX7_greatest_36 rfl ?_
  refine pw_getr dX7_greatest_37 lf_X7_10 sh_0 rfl ?_
  refine pw_getr dX7_greatest_40 lf_X7_63 sh_1 rfl ?_
  refine pw_getr dX7_greatest_43 lf_X7_185 sh_2 rfl ?_
  refine pw_iload_n dX7_greatest_46 rfl ?_
  refine pw_iload_n dX7_greatest_47 rfl ?_
  refine pw_cV dX7_greatest_48 (sp_X6_columnAtRank tq_9 (r := lot) rfl hlot24) mi_X6_columnAtRank mv_X6_columnAtRank ml_X7_188 sh_9 rfl rfl rfl rfl ⟨rfl, rfl⟩ rfl rfl ?_
  exact pw_iretT dX7_greatest_51 rfl rfl rfl rfl rfl

