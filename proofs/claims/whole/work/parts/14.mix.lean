/-! A BLEND IS MADE; a harvest is brought in -/
theorem hQ_o (h : HP) (tn : Nat → Nat) (tl tq : Nat → Int32) (lot : Nat) : ∀ (i q j : Nat), q ≠ 4 → q ≠ 6 → q ≠ 8 → hQ h tn tl tq lot i q j = h q j
  | 0, _, _, _, _, _ => rfl
  | i + 1, q, j, h1, h2, h3 => by
    show hput (hput (hput (hQ h tn tl tq lot i) _ _ _) _ _ _) _ _ _ q j = _
    rw [hput, if_neg h1, hput, if_neg h3, hput, if_neg h2]
    exact hQ_o h tn tl tq lot i q j h1 h2 h3
theorem hQ_4 (h : HP) (tn : Nat → Nat) (tl tq : Nat → Int32) (lot : Nat) : ∀ (i j : Nat), j % 5 ≠ 1 → hQ h tn tl tq lot i 4 j = h 4 j
  | 0, _, _ => rfl
  | i + 1, j, hj => by
    show hput (hput (hput (hQ h tn tl tq lot i) 6 _ _) 8 _ _) 4 _ _ 4 j = _
    rw [hput, if_pos rfl, if_neg (by omega), hput, if_neg (by decide), hput, if_neg (by decide)]
    exact hQ_4 h tn tl tq lot i j hj
theorem hQ_6 (h : HP) (tn : Nat → Nat) (tl tq : Nat → Int32) (lot : Nat) : ∀ (i k : Nat), hQ h tn tl tq lot i 6 (lot * 4 + k) = if k < i then tl k else h 6 (lot * 4 + k)
  | 0, _ => rfl
  | i + 1, k => by
    show hput (hput (hput (hQ h tn tl tq lot i) 6 _ _) 8 _ _) 4 _ _ 6 _ = _
    rw [hput, if_neg (by decide), hput, if_neg (by decide), hput, if_pos rfl, hQ_6 h tn tl tq lot i k]
    by_cases e : k = i
    · subst e; rw [if_pos rfl, if_pos (by omega)]
    · rw [if_neg (by omega)]
      by_cases e2 : k < i
      · rw [if_pos e2, if_pos (by omega)]
      · rw [if_neg e2, if_neg (by omega)]
theorem entH_o (h : HP) (n : Nat) (q p g v : Int32) {a : Nat} (j : Nat) (h1 : a ≠ 4) (h2 : a ≠ 2) : entH h n q p g v a j = h a j := by
  simp [entH, hput, h1, h2]
set_option maxRecDepth 100000 in
set_option maxHeartbeats 4000000 in
theorem lq_X4_mix {l : Launch} {G : GC} {ad : Nat → Nat} {h : HP} {nL : Nat} (hnL : h 2 5 = nI nL) (hn24 : nL < 24) {P : Nat} (hP : h 243 3 = nI P) (hP4 : P ≤ 4) {tn : Nat → Nat} (ht : ∀ k, k < P → h 246 (k * 2 + 0) = nI (tn k) ∧ tn k < 24) (hT0 : 0 < sumC (fun k => h 246 (k * 2 + 1)) P)  : ∀ (mu9 : Nat) (i : Nat) (hi : i ≤ P) (hmu9 : P - i < mu9), PW l G cX4_mix RX4 6 ((Option.some FieldType.int)) [] { frames := 5, cells := 0, slots := 0, locals := 116 } (gNm "mix") (gME G SW ad (gR SW ad (some (.int (nI nL))) (mixH (hQ (entH h nL (sumC (fun k => h 246 (k * 2 + 1)) P) (nI P) (maxF (fun k => h 4 (tn k * 5 + 3)) P + 1) (-1)) tn (fun k => h 246 (k * 2 + 0)) (fun k => h 246 (k * 2 + 1)) nL P) tn P nL (sumC (fun k => h 246 (k * 2 + 1)) P))) gNo 0 0) 49 [some (.ref (ad 2)), some (.ref (ad 243)), some (.ref (ad 249)), some (.int (sumC (fun k => h 246 (k * 2 + 1)) P)), some (.int (nI nL)), some (.int (nI i))] [] SW ad (hQ (entH h nL (sumC (fun k => h 246 (k * 2 + 1)) P) (nI P) (maxF (fun k => h 4 (tn k * 5 + 3)) P + 1) (-1)) tn (fun k => h 246 (k * 2 + 0)) (fun k => h 246 (k * 2 + 1)) nL i) 0 0 := by
  intro mu9
  induction mu9 with
  | zero => intro i hi hmu9; exact absurd hmu9 (Nat.not_lt_zero _)
  | succ mu9 ih =>
    intro i hi hmu9
    refine pw_iload dX4_mix_49 rfl ?_
    refine pw_aload_n dX4_mix_51 rfl ?_
    refine pw_geti dX4_mix_52 lf_X4_54 sh_243 rfl ?_
    refine pw_icmp_ge dX4_mix_55 (tgt := 114) (by decide) (fun c55 => ?_) (fun c55 => ?_)
    · skip
      have hi8 : i = P := eqN (by rw [hQ_o _ _ _ _ _ _ _ _ (by decide) (by decide) (by decide), entH_o _ _ _ _ _ _ _ (by decide) (by decide)]; exact hP) hi (by omega) c55
      subst hi8
      refine pw_aload_n dX4_mix_114 rfl ?_
      refine pw_iload dX4_mix_115 rfl ?_
      refine pw_iload_n dX4_mix_117 rfl ?_
      refine pw_aload_n dX4_mix_118 rfl ?_
      refine pw_cVn dX4_mix_119 (sp_X4_mixShares (lot := nL) (P := i) (pk := tn) hn24 (by rw [hQ_4 _ _ _ _ _ _ _ (by omega)]; simp [entH, hput]) hP4 (fun k hk => ⟨by rw [hQ_6, if_pos hk]; exact (ht k hk).1, (ht k hk).2⟩) hT0) mi_X4_mixShares mv_X4_mixShares ml_X4_73 sh_2 rfl rfl rfl rfl ⟨rfl, rfl⟩ rfl rfl ?_
      refine pw_iload dX4_mix_122 rfl ?_
      exact pw_iretF dX4_mix_124 rfl rfl rfl rfl rfl
    · skip
      have hi9 : i < P := ltN (by rw [hQ_o _ _ _ _ _ _ _ _ (by decide) (by decide) (by decide), entH_o _ _ _ _ _ _ _ (by decide) (by decide)]; exact hP) hi (by omega) c55
      have e246 : ∀ j, hQ (entH h nL (sumC (fun k => h 246 (k * 2 + 1)) P) (nI P) (maxF (fun k => h 4 (tn k * 5 + 3)) P + 1) (-1)) tn (fun k => h 246 (k * 2 + 0)) (fun k => h 246 (k * 2 + 1)) nL i 246 j = h 246 j := fun j => by rw [hQ_o _ _ _ _ _ _ _ _ (by decide) (by decide) (by decide), entH_o _ _ _ _ _ _ _ (by decide) (by decide)]
      refine pw_aload_n dX4_mix_58 rfl ?_
      refine pw_getr dX4_mix_59 lf_X4_20 sh_2 rfl ?_
      refine pw_iload dX4_mix_62 rfl ?_
      refine pw_iload dX4_mix_64 rfl ?_
      refine pw_aload_n dX4_mix_66 rfl ?_
      refine pw_iload dX4_mix_67 rfl ?_
      refine pw_cV dX4_mix_69 (sp_X3_lotOf (part := i) (by omega)) mi_X3_lotOf mv_X3_lotOf ml_X4_67 sh_243 rfl rfl rfl rfl ⟨rfl, rfl⟩ rfl rfl ?_
      rw [e246]
      refine pw_cVn dX4_mix_72 (sp_X6_put tq_5 (r := nL) (k := i) rfl rfl (hn24) (by omega)) mi_X6_put mv_X6_put ml_X4_46 sh_5 rfl rfl rfl rfl ⟨rfl, rfl⟩ rfl rfl ?_
      refine pw_aload_n dX4_mix_75 rfl ?_
      refine pw_getr dX4_mix_76 lf_X4_23 sh_2 rfl ?_
      refine pw_iload dX4_mix_79 rfl ?_
      refine pw_iload dX4_mix_81 rfl ?_
      refine pw_aload_n dX4_mix_83 rfl ?_
      refine pw_iload dX4_mix_84 rfl ?_
      refine pw_cV dX4_mix_86 (sp_X3_quartersOf (part := i) (by omega)) mi_X3_quartersOf mv_X3_quartersOf ml_X4_59 sh_243 rfl rfl rfl rfl ⟨rfl, rfl⟩ rfl rfl ?_
      rw [show hput (hQ (entH h nL (sumC (fun k => h 246 (k * 2 + 1)) P) (nI P) (maxF (fun k => h 4 (tn k * 5 + 3)) P + 1) (-1)) tn (fun k => h 246 (k * 2 + 0)) (fun k => h 246 (k * 2 + 1)) nL i) 6 (nL * 4 + i) (h 246 (i * 2 + 0)) 246 (i * 2 + 1) = h 246 (i * 2 + 1) from e246 _]
      refine pw_cVn dX4_mix_89 (sp_X6_put tq_7 (r := nL) (k := i) rfl rfl (hn24) (by omega)) mi_X6_put mv_X6_put ml_X4_46 sh_7 rfl rfl rfl rfl ⟨rfl, rfl⟩ rfl rfl ?_
      refine pw_aload_n dX4_mix_92 rfl ?_
      refine pw_aload_n dX4_mix_93 rfl ?_
      refine pw_iload dX4_mix_94 rfl ?_
      refine pw_cV dX4_mix_96 (sp_X3_lotOf (part := i) (by omega)) mi_X3_lotOf mv_X3_lotOf ml_X4_67 sh_243 rfl rfl rfl rfl ⟨rfl, rfl⟩ rfl rfl ?_
      rw [show ∀ v9, hput (hput (hQ (entH h nL (sumC (fun k => h 246 (k * 2 + 1)) P) (nI P) (maxF (fun k => h 4 (tn k * 5 + 3)) P + 1) (-1)) tn (fun k => h 246 (k * 2 + 0)) (fun k => h 246 (k * 2 + 1)) nL i) 6 (nL * 4 + i) (h 246 (i * 2 + 0))) 8 (nL * 4 + i) v9 246 (i * 2 + 0) = h 246 (i * 2 + 0) from fun _ => e246 _, (ht i hi9).1]
      refine pw_aload_n dX4_mix_99 rfl ?_
      refine pw_iload dX4_mix_100 rfl ?_
      refine pw_cV dX4_mix_102 (sp_X3_quartersOf (part := i) (by omega)) mi_X3_quartersOf mv_X3_quartersOf ml_X4_59 sh_243 rfl rfl rfl rfl ⟨rfl, rfl⟩ rfl rfl ?_
      rw [show ∀ v9 z9, hput (hput (hQ (entH h nL (sumC (fun k => h 246 (k * 2 + 1)) P) (nI P) (maxF (fun k => h 4 (tn k * 5 + 3)) P + 1) (-1)) tn (fun k => h 246 (k * 2 + 0)) (fun k => h 246 (k * 2 + 1)) nL i) 6 (nL * 4 + i) z9) 8 (nL * 4 + i) v9 246 (i * 2 + 1) = h 246 (i * 2 + 1) from fun _ _ => e246 _]
      refine pw_cVn dX4_mix_105 (sp_X4_take (lot := tn i) (ht i hi9).2) mi_X4_take mv_X4_take ml_X4_70 sh_2 rfl rfl rfl rfl ⟨rfl, rfl⟩ rfl rfl ?_
      rw [show ∀ v9 z9, hput (hput (hQ (entH h nL (sumC (fun k => h 246 (k * 2 + 1)) P) (nI P) (maxF (fun k => h 4 (tn k * 5 + 3)) P + 1) (-1)) tn (fun k => h 246 (k * 2 + 0)) (fun k => h 246 (k * 2 + 1)) nL i) 6 (nL * 4 + i) z9) 8 (nL * 4 + i) v9 4 (tn i * 5 + 1) = hQ (entH h nL (sumC (fun k => h 246 (k * 2 + 1)) P) (nI P) (maxF (fun k => h 4 (tn k * 5 + 3)) P + 1) (-1)) tn (fun k => h 246 (k * 2 + 0)) (fun k => h 246 (k * 2 + 1)) nL i 4 (tn i * 5 + 1) from fun _ _ => rfl, ← (ht i hi9).1]
      refine pw_iinc dX4_mix_108 rfl (d := 1) (by decide) (by decide) rfl ?_
      rw [nI_1]
      refine pw_goto dX4_mix_111 (tgt := 49) (by decide) ?_
      exact ih (i + 1) (by omega) (by omega)

set_option maxRecDepth 100000 in
set_option maxHeartbeats 4000000 in
theorem lp_X4_mix {l : Launch} {G : GC} {ad : Nat → Nat} {h : HP} {nL : Nat} (hnL : h 2 5 = nI nL) (hn24 : nL < 24) {P : Nat} (hP : h 243 3 = nI P) (hP4 : P ≤ 4) {tn : Nat → Nat} (ht : ∀ k, k < P → h 246 (k * 2 + 0) = nI (tn k) ∧ tn k < 24) (hT0 : 0 < sumC (fun k => h 246 (k * 2 + 1)) P)  : ∀ (mu9 : Nat) (i : Nat) (x3 : Int32) (hi : i ≤ P) (hx3 : x3 = sumC (fun k => h 246 (k * 2 + 1)) i) (hmu9 : P - i < mu9), PW l G cX4_mix RX4 6 ((Option.some FieldType.int)) [] { frames := 5, cells := 0, slots := 0, locals := 116 } (gNm "mix") (gME G SW ad (gR SW ad (some (.int (nI nL))) (mixH (hQ (entH h nL (sumC (fun k => h 246 (k * 2 + 1)) P) (nI P) (maxF (fun k => h 4 (tn k * 5 + 3)) P + 1) (-1)) tn (fun k => h 246 (k * 2 + 0)) (fun k => h 246 (k * 2 + 1)) nL P) tn P nL (sumC (fun k => h 246 (k * 2 + 1)) P))) gNo 0 0) 5 [some (.ref (ad 2)), some (.ref (ad 243)), some (.ref (ad 249)), some (.int x3), some (.int (nI i)), none] [] SW ad (h) 0 0 := by
  intro mu9
  induction mu9 with
  | zero => intro i x3 hi hx3 hmu9; exact absurd hmu9 (Nat.not_lt_zero _)
  | succ mu9 ih =>
    intro i x3 hi hx3 hmu9
    refine pw_iload dX4_mix_5 rfl ?_
    refine pw_aload_n dX4_mix_7 rfl ?_
    refine pw_geti dX4_mix_8 lf_X4_54 sh_243 rfl ?_
    refine pw_icmp_ge dX4_mix_11 (tgt := 29) (by decide) (fun c11 => ?_) (fun c11 => ?_)
    · skip
      have hi8 : i = P := eqN hP hi (by omega) c11
      subst hi8
      subst hx3
      refine pw_aload_n dX4_mix_29 rfl ?_
      refine pw_iload_n dX4_mix_30 rfl ?_
      refine pw_aload_n dX4_mix_31 rfl ?_
      refine pw_geti dX4_mix_32 lf_X4_54 sh_243 rfl ?_
      rw [hP]
      refine pw_aload_n dX4_mix_35 rfl ?_
      refine pw_aload_n dX4_mix_36 rfl ?_
      refine pw_cV dX4_mix_37 (sp_X4_generationOf hP hP4 ht) mi_X4_generationOf mv_X4_generationOf ml_X4_63 sh_2 rfl rfl rfl rfl ⟨rfl, rfl⟩ rfl rfl ?_
      refine pw_iconst dX4_mix_40 (v := (-1)) (by decide) ?_
      refine pw_cV dX4_mix_41 (sp_X4_enter hnL hn24) mi_X4_enter mv_X4_enter ml_X4_50 sh_2 rfl rfl rfl rfl ⟨rfl, rfl⟩ rfl rfl ?_
      refine pw_istore dX4_mix_44 (by decide) rfl ?_
      refine pw_iconst dX4_mix_46 (v := 0) (by decide) ?_
      refine pw_istore dX4_mix_47 (by decide) rfl ?_
      exact lq_X4_mix hnL hn24 hP hP4 ht hT0 (i + 1) 0 (Nat.zero_le _) (by omega)
    · skip
      have hi9 : i < P := ltN hP hi (by omega) c11
      refine pw_iload_n dX4_mix_14 rfl ?_
      refine pw_aload_n dX4_mix_15 rfl ?_
      refine pw_iload dX4_mix_16 rfl ?_
      refine pw_cV dX4_mix_18 (sp_X3_quartersOf (part := i) (by omega)) mi_X3_quartersOf mv_X3_quartersOf ml_X4_59 sh_243 rfl rfl rfl rfl ⟨rfl, rfl⟩ rfl rfl ?_
      refine pw_iadd dX4_mix_21 ?_
      refine pw_istore_n dX4_mix_22 (by decide) rfl ?_
      refine pw_iinc dX4_mix_23 rfl (d := 1) (by decide) (by decide) rfl ?_
      rw [nI_1]
      refine pw_goto dX4_mix_26 (tgt := 5) (by decide) ?_
      refine ih (i + 1) _ (by omega) ?_ (by omega)
      rw [hx3]; rfl

set_option maxRecDepth 100000 in
set_option maxHeartbeats 4000000 in
theorem sp_X4_mix {l : Launch} {G : GC} {ad : Nat → Nat} {h : HP} {nL : Nat} (hnL : h 2 5 = nI nL) (hn24 : nL < 24) {P : Nat} (hP : h 243 3 = nI P) (hP4 : P ≤ 4) {tn : Nat → Nat} (ht : ∀ k, k < P → h 246 (k * 2 + 0) = nI (tn k) ∧ tn k < 24) (hT0 : 0 < sumC (fun k => h 246 (k * 2 + 1)) P) : PF l G yX4_mix (.code yX4_mix cX4_mix 6 ((Option.some FieldType.int))) { frames := 5, cells := 0, slots := 0, locals := 116 } [.ref (ad 2), .ref (ad 243), .ref (ad 249)] SW ad (h) (some (.int (nI nL))) (mixH (hQ (entH h nL (sumC (fun k => h 246 (k * 2 + 1)) P) (nI P) (maxF (fun k => h 4 (tn k * 5 + 3)) P + 1) (-1)) tn (fun k => h 246 (k * 2 + 0)) (fun k => h 246 (k * 2 + 1)) nL P) tn P nL (sumC (fun k => h 246 (k * 2 + 1)) P)) := by
  refine PF.mk (L0 := [some (.ref (ad 2)), some (.ref (ad 243)), some (.ref (ad 249)), none, none, none]) RX4 "mix" 0 0 (by decide +kernel) rfl rfl ⟨rfl, rfl⟩ (by simp [Value.category]) (Nat.le_of_ble_eq_true rfl) rfl ?_
  refine pw_iconst dX4_mix_0 (v := 0) (by decide) ?_
  refine pw_istore_n dX4_mix_1 (by decide) rfl ?_
  refine pw_iconst dX4_mix_2 (v := 0) (by decide) ?_
  refine pw_istore dX4_mix_3 (by decide) rfl ?_
  exact lp_X4_mix hnL hn24 hP hP4 ht hT0 (P + 1) 0 0 (Nat.zero_le _) rfl (by omega)

set_option maxRecDepth 100000 in
set_option maxHeartbeats 4000000 in
theorem sp_X4_bringIn {l : Launch} {G : GC} {ad : Nat → Nat} {h : HP} {nL nH : Nat} (hnL : h 2 5 = nI nL) (hn24 : nL < 24) (hnH : h 2 6 = nI nH) (hn12 : nH < 12) {v g r q : Int32} : PF l G yX4_bringIn (.code yX4_bringIn cX4_bringIn 7 ((Option.some FieldType.int))) { frames := 3, cells := 0, slots := 0, locals := 71 } [.ref (ad 2), .int (v), .int (g), .int (r), .int (q)] SW ad (h) (some (.int (nI nL))) (hput (entH (hput (hput (hput (hput h 12 (nH * 3 + 0) v) 12 (nH * 3 + 1) g) 12 (nH * 3 + 2) r) 2 6 (nI (nH + 1))) nL q 0 0 (nI nH)) 10 (nL * 12 + nH) 1000) := by
  refine PF.mk (L0 := [some (.ref (ad 2)), some (.int (v)), some (.int (g)), some (.int (r)), some (.int (q)), none, none]) RX4 "bringIn" 0 0 (by decide +kernel) rfl rfl ⟨rfl, rfl⟩ (by simp [Value.category]) (Nat.le_of_ble_eq_true rfl) rfl ?_
  refine pw_aload_n dX4_bringIn_0 rfl ?_
  refine pw_geti dX4_bringIn_1 lf_X4_36 sh_2 rfl ?_
  rw [hnH]
  refine pw_istore dX4_bringIn_4 (by decide) rfl ?_
  refine pw_aload_n dX4_bringIn_6 rfl ?_
  refine pw_getr dX4_bringIn_7 lf_X4_29 sh_2 rfl ?_
  refine pw_iload dX4_bringIn_10 rfl ?_
  refine pw_iconst dX4_bringIn_12 (v := 0) (by decide) ?_
  refine pw_iload_n dX4_bringIn_13 rfl ?_
  refine pw_cVn dX4_bringIn_14 (sp_X6_put tq_11 (r := nH) (k := 0) rfl rfl (hn12) (by decide)) mi_X6_put mv_X6_put ml_X4_46 sh_11 rfl rfl rfl rfl ⟨rfl, rfl⟩ rfl rfl ?_
  refine pw_aload_n dX4_bringIn_17 rfl ?_
  refine pw_getr dX4_bringIn_18 lf_X4_29 sh_2 rfl ?_
  refine pw_iload dX4_bringIn_21 rfl ?_
  refine pw_iconst dX4_bringIn_23 (v := 1) (by decide) ?_
  refine pw_iload_n dX4_bringIn_24 rfl ?_
  refine pw_cVn dX4_bringIn_25 (sp_X6_put tq_11 (r := nH) (k := 1) rfl rfl (hn12) (by decide)) mi_X6_put mv_X6_put ml_X4_46 sh_11 rfl rfl rfl rfl ⟨rfl, rfl⟩ rfl rfl ?_
  refine pw_aload_n dX4_bringIn_28 rfl ?_
  refine pw_getr dX4_bringIn_29 lf_X4_29 sh_2 rfl ?_
  refine pw_iload dX4_bringIn_32 rfl ?_
  refine pw_iconst dX4_bringIn_34 (v := 2) (by decide) ?_
  refine pw_iload_n dX4_bringIn_35 rfl ?_
  refine pw_cVn dX4_bringIn_36 (sp_X6_put tq_11 (r := nH) (k := 2) rfl rfl (hn12) (by decide)) mi_X6_put mv_X6_put ml_X4_46 sh_11 rfl rfl rfl rfl ⟨rfl, rfl⟩ rfl rfl ?_
  refine pw_aload_n dX4_bringIn_39 rfl ?_
  refine pw_dup dX4_bringIn_40 rfl ?_
  refine pw_geti dX4_bringIn_41 lf_X4_36 sh_2 rfl ?_
  refine pw_iconst dX4_bringIn_44 (v := 1) (by decide) ?_
  refine pw_iadd dX4_bringIn_45 ?_
  rw [show hput (hput (hput h 12 (nH * 3 + 0) v) 12 (nH * 3 + 1) g) 12 (nH * 3 + 2) r 2 6 = nI nH from hnH, nI_1]
  refine pw_puti dX4_bringIn_46 lf_X4_36 lp_4_6 sh_2 rfl rfl rfl ?_
  refine pw_aload_n dX4_bringIn_49 rfl ?_
  refine pw_iload dX4_bringIn_50 rfl ?_
  refine pw_iconst dX4_bringIn_52 (v := 0) (by decide) ?_
  refine pw_iconst dX4_bringIn_53 (v := 0) (by decide) ?_
  refine pw_iload dX4_bringIn_54 rfl ?_
  refine pw_cV dX4_bringIn_56 (sp_X4_enter (h := (hput (hput (hput (hput h 12 (nH * 3 + 0) v) 12 (nH * 3 + 1) g) 12 (nH * 3 + 2) r) 2 6 (nI (nH + 1)))) (nL := nL) (by simpa [hput] using hnL) hn24) mi_X4_enter mv_X4_enter ml_X4_50 sh_2 rfl rfl rfl rfl ⟨rfl, rfl⟩ rfl rfl ?_
  refine pw_istore dX4_bringIn_59 (by decide) rfl ?_
  refine pw_aload_n dX4_bringIn_61 rfl ?_
  refine pw_getr dX4_bringIn_62 lf_X4_26 sh_2 rfl ?_
  refine pw_iload dX4_bringIn_65 rfl ?_
  refine pw_iload dX4_bringIn_67 rfl ?_
  refine pw_sipush dX4_bringIn_69 (v := 1000) (by decide) ?_
  refine pw_cVn dX4_bringIn_72 (sp_X6_put tq_9 (r := nL) (k := nH) rfl rfl (hn24) (hn12)) mi_X6_put mv_X6_put ml_X4_46 sh_9 rfl rfl rfl rfl ⟨rfl, rfl⟩ rfl rfl ?_
  refine pw_iload dX4_bringIn_75 rfl ?_
  exact pw_iretF dX4_bringIn_77 rfl rfl rfl rfl rfl

