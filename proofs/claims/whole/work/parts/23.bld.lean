/-! BLEND -/
set_option maxRecDepth 100000 in
set_option maxHeartbeats 4000000 in
theorem sp_X7_blend_no1 {l : Launch} {G : GC} {ad : Nat → Nat} (hfl : l.stackTraces = false) {h h2 : HP} {len : Nat} (hlen : h 243 2 = nI len) (hl40 : len ≤ 40) (eh : hput (hI (rbF (h 244) len 4 0 h 0 true false).1 (rbF (h 244) len 4 0 h 0 true false).2.1 ((rbF (h 244) len 4 0 h 0 true false).2.2.1 && (rbF (h 244) len 4 0 h 0 true false).2.2.2)) 243 2 0 = h2) (e : ((rbF (h 244) len 4 0 h 0 true false).2.2.1 && (rbF (h 244) len 4 0 h 0 true false).2.2.2) = false) : PT l G yX7_blend (.code yX7_blend cX7_blend 2 ((Option.some FieldType.int))) { frames := 7, cells := 2, slots := 12, locals := 141 } [.ref (ad 0)] SW ad (h) (.inr "java/lang/IllegalArgumentException") (hput h2 0 9 (h2 243 4)) := by
  refine PT.mk (L0 := [some (.ref (ad 0)), none]) RX7 "blend" 2 12 (by decide +kernel) rfl rfl ⟨rfl, rfl⟩ (by simp [Value.category]) (Nat.le_of_ble_eq_true rfl) rfl ?_
  refine pw_aload_n dX7_blend_0 rfl ?_
  refine pw_getr dX7_blend_1 lf_X7_29 sh_0 rfl ?_
  refine pw_cV dX7_blend_4 (sp_X3_readBlend hlen hl40) mi_X3_readBlend mv_X3_readBlend ml_X7_90 sh_243 rfl rfl rfl rfl ⟨rfl, rfl⟩ rfl rfl ?_
  refine pw_istore_n dX7_blend_7 (by decide) rfl ?_
  refine pw_aload_n dX7_blend_8 rfl ?_
  refine pw_getr dX7_blend_9 lf_X7_29 sh_0 rfl ?_
  refine pw_iconst dX7_blend_12 (v := 0) (by decide) ?_
  refine pw_puti dX7_blend_13 lf_X7_94 lp_3_2 sh_243 rfl rfl rfl ?_
  rw [eh]
  refine pw_iload_n dX7_blend_16 rfl ?_
  refine pw_if_ne dX7_blend_17 (tgt := 41) (by decide) (fun c17 => absurd c17 (fun q => q (by rw [e]; rfl))) (fun c17 => ?_)
  refine pw_aload_n dX7_blend_20 rfl ?_
  refine pw_aload_n dX7_blend_21 rfl ?_
  refine pw_getr dX7_blend_22 lf_X7_29 sh_0 rfl ?_
  refine pw_geti dX7_blend_25 lf_X7_97 sh_243 rfl ?_
  refine pw_puti dX7_blend_28 lf_X7_56 lp_7_9 sh_0 rfl rfl rfl ?_
  exact pw_throwS hfl tw_100_102_104 dX7_blend_31 dX7_blend_34 dX7_blend_35 dX7_blend_37 dX7_blend_40 rfl ⟨Nat.le_of_ble_eq_true rfl, Nat.le_of_ble_eq_true rfl, Nat.le_of_ble_eq_true rfl, Nat.le_of_ble_eq_true rfl⟩ (⟨rfl, rfl⟩) (Nat.le_of_ble_eq_true rfl) (Nat.le_of_ble_eq_true rfl)

set_option maxRecDepth 100000 in
set_option maxHeartbeats 4000000 in
theorem sp_X7_blend_no2 {l : Launch} {G : GC} {ad : Nat → Nat} (hfl : l.stackTraces = false) {h h2 : HP} {len : Nat} (hlen : h 243 2 = nI len) (hl40 : len ≤ 40) (eh : hput (hI (rbF (h 244) len 4 0 h 0 true false).1 (rbF (h 244) len 4 0 h 0 true false).2.1 ((rbF (h 244) len 4 0 h 0 true false).2.2.1 && (rbF (h 244) len 4 0 h 0 true false).2.2.2)) 243 2 0 = h2) (e : ((rbF (h 244) len 4 0 h 0 true false).2.2.1 && (rbF (h 244) len 4 0 h 0 true false).2.2.2) = true) {P : Nat} (hP : h2 243 3 = nI P) (hP4 : P ≤ 4) (e2 : anyB (fun k => decide (h2 246 (k * 2 + 1) = 0)) P = true) : PT l G yX7_blend (.code yX7_blend cX7_blend 2 ((Option.some FieldType.int))) { frames := 7, cells := 2, slots := 12, locals := 141 } [.ref (ad 0)] SW ad (h) (.inr "java/lang/IllegalArgumentException") (h2) := by
  refine PT.mk (L0 := [some (.ref (ad 0)), none]) RX7 "blend" 2 12 (by decide +kernel) rfl rfl ⟨rfl, rfl⟩ (by simp [Value.category]) (Nat.le_of_ble_eq_true rfl) rfl ?_
  refine pw_aload_n dX7_blend_0 rfl ?_
  refine pw_getr dX7_blend_1 lf_X7_29 sh_0 rfl ?_
  refine pw_cV dX7_blend_4 (sp_X3_readBlend hlen hl40) mi_X3_readBlend mv_X3_readBlend ml_X7_90 sh_243 rfl rfl rfl rfl ⟨rfl, rfl⟩ rfl rfl ?_
  refine pw_istore_n dX7_blend_7 (by decide) rfl ?_
  refine pw_aload_n dX7_blend_8 rfl ?_
  refine pw_getr dX7_blend_9 lf_X7_29 sh_0 rfl ?_
  refine pw_iconst dX7_blend_12 (v := 0) (by decide) ?_
  refine pw_puti dX7_blend_13 lf_X7_94 lp_3_2 sh_243 rfl rfl rfl ?_
  rw [eh]
  refine pw_iload_n dX7_blend_16 rfl ?_
  refine pw_if_ne dX7_blend_17 (tgt := 41) (by decide) (fun c17 => ?_) (fun c17 => absurd c17 (by rw [e]; decide))
  refine pw_aload_n dX7_blend_41 rfl ?_
  refine pw_getr dX7_blend_42 lf_X7_29 sh_0 rfl ?_
  refine pw_cV dX7_blend_45 (sp_X3_hasEmptyPart hP hP4) mi_X3_hasEmptyPart mv_X3_hasEmptyPart ml_X7_105 sh_243 rfl rfl rfl rfl ⟨rfl, rfl⟩ rfl rfl ?_
  refine pw_if_eq dX7_blend_48 (tgt := 61) (by decide) (fun c48 => absurd c48 (by rw [e2]; decide)) (fun c48 => ?_)
  exact pw_throwS hfl tw_100_108_104 dX7_blend_51 dX7_blend_54 dX7_blend_55 dX7_blend_57 dX7_blend_60 rfl ⟨Nat.le_of_ble_eq_true rfl, Nat.le_of_ble_eq_true rfl, Nat.le_of_ble_eq_true rfl, Nat.le_of_ble_eq_true rfl⟩ (⟨rfl, rfl⟩) (Nat.le_of_ble_eq_true rfl) (Nat.le_of_ble_eq_true rfl)

set_option maxRecDepth 100000 in
set_option maxHeartbeats 4000000 in
theorem sp_X7_blend_no3 {l : Launch} {G : GC} {ad : Nat → Nat} (hfl : l.stackTraces = false) {h h2 : HP} {len : Nat} (hlen : h 243 2 = nI len) (hl40 : len ≤ 40) (eh : hput (hI (rbF (h 244) len 4 0 h 0 true false).1 (rbF (h 244) len 4 0 h 0 true false).2.1 ((rbF (h 244) len 4 0 h 0 true false).2.2.1 && (rbF (h 244) len 4 0 h 0 true false).2.2.2)) 243 2 0 = h2) (e : ((rbF (h 244) len 4 0 h 0 true false).2.2.1 && (rbF (h 244) len 4 0 h 0 true false).2.2.2) = true) {P : Nat} (hP : h2 243 3 = nI P) (hP4 : P ≤ 4) (e2 : anyB (fun k => decide (h2 246 (k * 2 + 1) = 0)) P = false) {nL : Nat} (hnL : h2 2 5 = nI nL) (hn24 : nL ≤ 24) {tn : Nat → Nat} (ht : anyB (wpB (fun k => h2 246 (k * 2 + 0)) (nI nL)) P = false → ∀ k, k < P → h2 246 (k * 2 + 0) = nI (tn k) ∧ tn k < 24) (e3 : ¬ refI (anyB (wpB (fun k => h2 246 (k * 2 + 0)) (nI nL)) P) (anyB (fun k => decide (h2 4 (tn k * 5 + 1) < h2 246 (k * 2 + 1))) P) (maxF (fun k => h2 4 (tn k * 5 + 3)) P + 1) (nI nL) = 0) : PT l G yX7_blend (.code yX7_blend cX7_blend 2 ((Option.some FieldType.int))) { frames := 7, cells := 2, slots := 12, locals := 141 } [.ref (ad 0)] SW ad (h) (.inr "java/lang/IllegalStateException") (hput h2 0 8 (refI (anyB (wpB (fun k => h2 246 (k * 2 + 0)) (nI nL)) P) (anyB (fun k => decide (h2 4 (tn k * 5 + 1) < h2 246 (k * 2 + 1))) P) (maxF (fun k => h2 4 (tn k * 5 + 3)) P + 1) (nI nL))) := by
  refine PT.mk (L0 := [some (.ref (ad 0)), none]) RX7 "blend" 2 12 (by decide +kernel) rfl rfl ⟨rfl, rfl⟩ (by simp [Value.category]) (Nat.le_of_ble_eq_true rfl) rfl ?_
  refine pw_aload_n dX7_blend_0 rfl ?_
  refine pw_getr dX7_blend_1 lf_X7_29 sh_0 rfl ?_
  refine pw_cV dX7_blend_4 (sp_X3_readBlend hlen hl40) mi_X3_readBlend mv_X3_readBlend ml_X7_90 sh_243 rfl rfl rfl rfl ⟨rfl, rfl⟩ rfl rfl ?_
  refine pw_istore_n dX7_blend_7 (by decide) rfl ?_
  refine pw_aload_n dX7_blend_8 rfl ?_
  refine pw_getr dX7_blend_9 lf_X7_29 sh_0 rfl ?_
  refine pw_iconst dX7_blend_12 (v := 0) (by decide) ?_
  refine pw_puti dX7_blend_13 lf_X7_94 lp_3_2 sh_243 rfl rfl rfl ?_
  rw [eh]
  refine pw_iload_n dX7_blend_16 rfl ?_
  refine pw_if_ne dX7_blend_17 (tgt := 41) (by decide) (fun c17 => ?_) (fun c17 => absurd c17 (by rw [e]; decide))
  refine pw_aload_n dX7_blend_41 rfl ?_
  refine pw_getr dX7_blend_42 lf_X7_29 sh_0 rfl ?_
  refine pw_cV dX7_blend_45 (sp_X3_hasEmptyPart hP hP4) mi_X3_hasEmptyPart mv_X3_hasEmptyPart ml_X7_105 sh_243 rfl rfl rfl rfl ⟨rfl, rfl⟩ rfl rfl ?_
  refine pw_if_eq dX7_blend_48 (tgt := 61) (by decide) (fun c48 => ?_) (fun c48 => absurd c48 (fun q => q (by rw [e2]; rfl)))
  refine pw_aload_n dX7_blend_61 rfl ?_
  refine pw_aload_n dX7_blend_62 rfl ?_
  refine pw_getr dX7_blend_63 lf_X7_10 sh_0 rfl ?_
  refine pw_getr dX7_blend_66 lf_X7_63 sh_1 rfl ?_
  refine pw_aload_n dX7_blend_69 rfl ?_
  refine pw_getr dX7_blend_70 lf_X7_29 sh_0 rfl ?_
  refine pw_cV dX7_blend_73 (sp_X4_refusalOf hnL hn24 hP hP4 ht) mi_X4_refusalOf mv_X4_refusalOf ml_X7_110 sh_2 rfl rfl rfl rfl ⟨rfl, rfl⟩ rfl rfl ?_
  refine pw_flV dX7_blend_76 (sp_X7_requireNoRefusal_no hfl e3) mi_X7_requireNoRefusal mv_X7_requireNoRefusal ml_X7_114 sh_0 rfl rfl rfl rfl rfl rfl ?_
  exact px_outT rfl rfl rfl rfl

set_option maxRecDepth 100000 in
set_option maxHeartbeats 4000000 in
theorem sp_X7_blend_ok {l : Launch} {G : GC} {ad : Nat → Nat} (hfl : l.stackTraces = false) {h h2 : HP} {len : Nat} (hlen : h 243 2 = nI len) (hl40 : len ≤ 40) (eh : hput (hI (rbF (h 244) len 4 0 h 0 true false).1 (rbF (h 244) len 4 0 h 0 true false).2.1 ((rbF (h 244) len 4 0 h 0 true false).2.2.1 && (rbF (h 244) len 4 0 h 0 true false).2.2.2)) 243 2 0 = h2) (e : ((rbF (h 244) len 4 0 h 0 true false).2.2.1 && (rbF (h 244) len 4 0 h 0 true false).2.2.2) = true) {P : Nat} (hP : h2 243 3 = nI P) (hP4 : P ≤ 4) (e2 : anyB (fun k => decide (h2 246 (k * 2 + 1) = 0)) P = false) {nL : Nat} (hnL : h2 2 5 = nI nL) (hn24 : nL ≤ 24) {tn : Nat → Nat} (ht : anyB (wpB (fun k => h2 246 (k * 2 + 0)) (nI nL)) P = false → ∀ k, k < P → h2 246 (k * 2 + 0) = nI (tn k) ∧ tn k < 24) (e3 : refI (anyB (wpB (fun k => h2 246 (k * 2 + 0)) (nI nL)) P) (anyB (fun k => decide (h2 4 (tn k * 5 + 1) < h2 246 (k * 2 + 1))) P) (maxF (fun k => h2 4 (tn k * 5 + 3)) P + 1) (nI nL) = 0) {h3 : HP} {k c : Nat} (hk : h2 49 1 = nI k) (hk8 : k < 8) (hc : h2 49 2 = nI c) (hc8 : c ≤ 8) (eh3 : remH h2 1 k c = h3) (hnL3 : h3 2 5 = nI nL) (hn243 : nL < 24) (hP3 : h3 243 3 = nI P) (ht3 : ∀ k, k < P → h3 246 (k * 2 + 0) = nI (tn k) ∧ tn k < 24) (hT0 : 0 < sumC (fun k => h3 246 (k * 2 + 1)) P)  : PT l G yX7_blend (.code yX7_blend cX7_blend 2 ((Option.some FieldType.int))) { frames := 7, cells := 2, slots := 12, locals := 141 } [.ref (ad 0)] SW ad (h) (.inl (some (.int (nI nL)))) (mixH (hQ (entH h3 nL (sumC (fun k => h3 246 (k * 2 + 1)) P) (nI P) (maxF (fun k => h3 4 (tn k * 5 + 3)) P + 1) (-1)) tn (fun k => h3 246 (k * 2 + 0)) (fun k => h3 246 (k * 2 + 1)) nL P) tn P nL (sumC (fun k => h3 246 (k * 2 + 1)) P)) := by
  refine PT.mk (L0 := [some (.ref (ad 0)), none]) RX7 "blend" 2 12 (by decide +kernel) rfl rfl ⟨rfl, rfl⟩ (by simp [Value.category]) (Nat.le_of_ble_eq_true rfl) rfl ?_
  refine pw_aload_n dX7_blend_0 rfl ?_
  refine pw_getr dX7_blend_1 lf_X7_29 sh_0 rfl ?_
  refine pw_cV dX7_blend_4 (sp_X3_readBlend hlen hl40) mi_X3_readBlend mv_X3_readBlend ml_X7_90 sh_243 rfl rfl rfl rfl ⟨rfl, rfl⟩ rfl rfl ?_
  refine pw_istore_n dX7_blend_7 (by decide) rfl ?_
  refine pw_aload_n dX7_blend_8 rfl ?_
  refine pw_getr dX7_blend_9 lf_X7_29 sh_0 rfl ?_
  refine pw_iconst dX7_blend_12 (v := 0) (by decide) ?_
  refine pw_puti dX7_blend_13 lf_X7_94 lp_3_2 sh_243 rfl rfl rfl ?_
  rw [eh]
  refine pw_iload_n dX7_blend_16 rfl ?_
  refine pw_if_ne dX7_blend_17 (tgt := 41) (by decide) (fun c17 => ?_) (fun c17 => absurd c17 (by rw [e]; decide))
  refine pw_aload_n dX7_blend_41 rfl ?_
  refine pw_getr dX7_blend_42 lf_X7_29 sh_0 rfl ?_
  refine pw_cV dX7_blend_45 (sp_X3_hasEmptyPart hP hP4) mi_X3_hasEmptyPart mv_X3_hasEmptyPart ml_X7_105 sh_243 rfl rfl rfl rfl ⟨rfl, rfl⟩ rfl rfl ?_
  refine pw_if_eq dX7_blend_48 (tgt := 61) (by decide) (fun c48 => ?_) (fun c48 => absurd c48 (fun q => q (by rw [e2]; rfl)))
  refine pw_aload_n dX7_blend_61 rfl ?_
  refine pw_aload_n dX7_blend_62 rfl ?_
  refine pw_getr dX7_blend_63 lf_X7_10 sh_0 rfl ?_
  refine pw_getr dX7_blend_66 lf_X7_63 sh_1 rfl ?_
  refine pw_aload_n dX7_blend_69 rfl ?_
  refine pw_getr dX7_blend_70 lf_X7_29 sh_0 rfl ?_
  refine pw_cV dX7_blend_73 (sp_X4_refusalOf hnL hn24 hP hP4 ht) mi_X4_refusalOf mv_X4_refusalOf ml_X7_110 sh_2 rfl rfl rfl rfl ⟨rfl, rfl⟩ rfl rfl ?_
  refine pw_okV dX7_blend_76 (sp_X7_requireNoRefusal_ok hfl e3) mi_X7_requireNoRefusal mv_X7_requireNoRefusal ml_X7_114 sh_0 rfl rfl rfl rfl rfl rfl ?_
  refine pw_aload_n dX7_blend_79 rfl ?_
  refine pw_getr dX7_blend_80 lf_X7_22 sh_0 rfl ?_
  refine pw_aload_n dX7_blend_83 rfl ?_
  refine pw_getr dX7_blend_84 lf_X7_10 sh_0 rfl ?_
  refine pw_cVn dX7_blend_87 (sp_X2_remember st_1 hk hk8 hc hc8) mi_X2_remember mv_X2_remember ml_X7_82 sh_49 rfl rfl rfl rfl ⟨rfl, rfl⟩ rfl rfl ?_
  rw [eh3]
  refine pw_aload_n dX7_blend_90 rfl ?_
  refine pw_getr dX7_blend_91 lf_X7_10 sh_0 rfl ?_
  refine pw_getr dX7_blend_94 lf_X7_63 sh_1 rfl ?_
  refine pw_aload_n dX7_blend_97 rfl ?_
  refine pw_getr dX7_blend_98 lf_X7_29 sh_0 rfl ?_
  refine pw_aload_n dX7_blend_101 rfl ?_
  refine pw_getr dX7_blend_102 lf_X7_42 sh_0 rfl ?_
  refine pw_cV dX7_blend_105 (sp_X4_mix hnL3 hn243 hP3 hP4 ht3 hT0) mi_X4_mix mv_X4_mix ml_X7_118 sh_2 rfl rfl rfl rfl ⟨rfl, rfl⟩ rfl rfl ?_
  exact pw_iretT dX7_blend_108 rfl rfl rfl rfl rfl

