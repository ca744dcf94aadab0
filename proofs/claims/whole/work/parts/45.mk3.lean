/-! MAKERS -/
set_option maxRecDepth 100000 in
set_option maxHeartbeats 4000000 in
theorem sp_X5_init {l : Launch} {G : GC} {ad : Nat → Nat} {S S1 : List Sh} {n : Nat} {h : HP} (hS : S = S1 ++ [.inr (.inl (5, [.inr (some none), .inr (some none), .inr (some none), .inr (some none)]))]) (hn : S1.length = n) (hcl : clB S1 = true) (hz : ∀ q, n ≤ q → ∀ k, h q k = 0) : PM l G yX5_init (.code yX5_init cX5_init 1 ((Option.none : Option FieldType))) { frames := 3, cells := 23, slots := 1059, locals := 64 } [.ref (ad n)] S ad h (gC n ad (S1 ++ staD n) (stH n h)) gNo := by
  subst hS
  refine PM.mk (L0 := [some (.ref (ad n))]) RX5 "<init>" (23) (1059) (by decide +kernel) rfl rfl ⟨rfl, rfl⟩ (by simp [Value.category]) (Nat.le_of_ble_eq_true rfl) rfl ?_
  refine pw_aload_n dX5_init_0 rfl ?_
  refine pw_objI dX5_init_1 oi_X5_3 ow_i ⟨Nat.le_of_ble_eq_true rfl, Nat.le_of_ble_eq_true rfl⟩ ?_
  refine pw_aload_n dX5_init_4 rfl ?_
  refine pw_new dX5_init_5 nw_X5_9 (n := n + 1) (S' := S1 ++ ([.inr (.inl (5, [.inr (some none), .inr (some none), .inr (some none), .inr (some none)]))] ++ [.inr (.inl (4, [.inr (some none), .inr (some none), .inr (some none), .inr (some none), .inr (some none), .inr none, .inr none, .inr none]))])) (aplen hn rfl) (clB_apm (m := n + 1) hcl hn rfl (by first | rfl | (simp [shB]) | (simp [shB]; omega))) (fun k => hz (n + 1) (by omega) k) ⟨Nat.le_of_ble_eq_true rfl, Nat.le_of_ble_eq_true rfl⟩ (List.append_assoc _ _ _) (fun ad1 g1 => ?_)
  rw [← g1 n (by omega)]
  have a1 : ∀ q, q ≤ n → ad1 q = ad q := fun q hq => (g1 q (by omega)).trans (rfl)
  refine pw_dup dX5_init_8 rfl ?_
  refine pw_cI dX5_init_9 (b := n + 1) (S' := S1 ++ ([.inr (.inl (5, [.inr (some none), .inr (some none), .inr (some none), .inr (some none)]))] ++ lotsD (n + 1))) (sp_X4_init (S1 := S1 ++ ([.inr (.inl (5, [.inr (some none), .inr (some none), .inr (some none), .inr (some none)]))])) (n := n + 1) (by first | exact (List.append_assoc _ _ _).symm | simp) (aplen hn rfl) (clB_apm (m := n + 1) hcl hn rfl (by first | rfl | (simp [shB]) | (simp [shB]; omega))) (fun q hq => hz q (by omega))) mi_X4_init rfl ii_X4_init ml_X5_11 rfl ⟨Nat.le_of_ble_eq_true rfl, Nat.le_of_ble_eq_true rfl⟩ ⟨Nat.le_of_ble_eq_true rfl, Nat.le_of_ble_eq_true rfl⟩ rfl rfl (List.append_assoc _ _ _) (fun ad2 g2 => ?_)
  rw [← g2 n (by omega)]
  rw [← g2 (n + 1) (by omega)]
  have a2 : ∀ q, q ≤ n → ad2 q = ad q := fun q hq => (g2 q (by omega)).trans (a1 q hq)
  refine pw_putR dX5_init_12 (p := n) (S' := S1 ++ ([.inr (.inl (5, [.inr (some (some (n + 1))), .inr (some none), .inr (some none), .inr (some none)]))] ++ lotsD (n + 1))) lo_X5_12 (fun _ _ _ _ h9 => h9) (apx (j := 0) hn rfl) (Nat.le_of_ble_eq_true rfl) rfl rfl (apset (j := 0) hn rfl) ?_
  refine pw_aload_n dX5_init_15 rfl ?_
  refine pw_new dX5_init_16 nw_X5_18 (n := n + 12) (S' := S1 ++ ([.inr (.inl (5, [.inr (some (some (n + 1))), .inr (some none), .inr (some none), .inr (some none)]))] ++ lotsD (n + 1) ++ [.inr (.inl (0, [.inr (some none), .inr none]))])) (aplen hn rfl) (clB_apm (m := n + 12) hcl hn rfl (all_app (by first | rfl | (simp [shB]) | (simp [shB]; omega)) (sb_lotsD (by omega)))) (fun k => hz (n + 12) (by omega) k) ⟨Nat.le_of_ble_eq_true rfl, Nat.le_of_ble_eq_true rfl⟩ (List.append_assoc _ _ _) (fun ad3 g3 => ?_)
  rw [← g3 n (by omega)]
  have a3 : ∀ q, q ≤ n → ad3 q = ad q := fun q hq => (g3 q (by omega)).trans (a2 q hq)
  refine pw_dup dX5_init_19 rfl ?_
  refine pw_cI dX5_init_20 (b := n + 12) (S' := S1 ++ ([.inr (.inl (5, [.inr (some (some (n + 1))), .inr (some none), .inr (some none), .inr (some none)]))] ++ lotsD (n + 1) ++ botD (n + 12))) (sp_X0_init (S1 := S1 ++ ([.inr (.inl (5, [.inr (some (some (n + 1))), .inr (some none), .inr (some none), .inr (some none)]))] ++ lotsD (n + 1))) (n := n + 12) (by first | exact (List.append_assoc _ _ _).symm | simp) (aplen hn rfl) (clB_apm (m := n + 12) hcl hn rfl (all_app (by first | rfl | (simp [shB]) | (simp [shB]; omega)) (sb_lotsD (by omega)))) (fun q hq => hz q (by omega))) mi_X0_init rfl ii_X0_init ml_X5_20 rfl ⟨Nat.le_of_ble_eq_true rfl, Nat.le_of_ble_eq_true rfl⟩ ⟨Nat.le_of_ble_eq_true rfl, Nat.le_of_ble_eq_true rfl⟩ rfl rfl (List.append_assoc _ _ _) (fun ad4 g4 => ?_)
  rw [← g4 n (by omega)]
  rw [← g4 (n + 12) (by omega)]
  have a4 : ∀ q, q ≤ n → ad4 q = ad q := fun q hq => (g4 q (by omega)).trans (a3 q hq)
  refine pw_putR dX5_init_23 (p := n) (S' := S1 ++ ([.inr (.inl (5, [.inr (some (some (n + 1))), .inr (some (some (n + 12))), .inr (some none), .inr (some none)]))] ++ lotsD (n + 1) ++ botD (n + 12))) lo_X5_21 (fun _ _ _ _ h9 => h9) (apx (j := 0) hn rfl) (Nat.le_of_ble_eq_true rfl) rfl rfl (apset (j := 0) hn rfl) ?_
  refine pw_aload_n dX5_init_26 rfl ?_
  refine pw_new dX5_init_27 nw_X5_25 (n := n + 15) (S' := S1 ++ ([.inr (.inl (5, [.inr (some (some (n + 1))), .inr (some (some (n + 12))), .inr (some none), .inr (some none)]))] ++ lotsD (n + 1) ++ botD (n + 12) ++ [.inr (.inl (1, [.inr (some none), .inr (some none), .inr (some none), .inr none]))])) (aplen hn rfl) (clB_apm (m := n + 15) hcl hn rfl (all_app (all_app (by first | rfl | (simp [shB]) | (simp [shB]; omega)) (sb_lotsD (by omega))) (sb_botD (by omega)))) (fun k => hz (n + 15) (by omega) k) ⟨Nat.le_of_ble_eq_true rfl, Nat.le_of_ble_eq_true rfl⟩ (List.append_assoc _ _ _) (fun ad5 g5 => ?_)
  rw [← g5 n (by omega)]
  have a5 : ∀ q, q ≤ n → ad5 q = ad q := fun q hq => (g5 q (by omega)).trans (a4 q hq)
  refine pw_dup dX5_init_30 rfl ?_
  refine pw_cI dX5_init_31 (b := n + 15) (S' := S1 ++ ([.inr (.inl (5, [.inr (some (some (n + 1))), .inr (some (some (n + 12))), .inr (some none), .inr (some none)]))] ++ lotsD (n + 1) ++ botD (n + 12) ++ cusD (n + 15))) (sp_X1_init (S1 := S1 ++ ([.inr (.inl (5, [.inr (some (some (n + 1))), .inr (some (some (n + 12))), .inr (some none), .inr (some none)]))] ++ lotsD (n + 1) ++ botD (n + 12))) (n := n + 15) (by first | exact (List.append_assoc _ _ _).symm | simp) (aplen hn rfl) (clB_apm (m := n + 15) hcl hn rfl (all_app (all_app (by first | rfl | (simp [shB]) | (simp [shB]; omega)) (sb_lotsD (by omega))) (sb_botD (by omega)))) (fun q hq => hz q (by omega))) mi_X1_init rfl ii_X1_init ml_X5_27 rfl ⟨Nat.le_of_ble_eq_true rfl, Nat.le_of_ble_eq_true rfl⟩ ⟨Nat.le_of_ble_eq_true rfl, Nat.le_of_ble_eq_true rfl⟩ rfl rfl (List.append_assoc _ _ _) (fun ad6 g6 => ?_)
  rw [← g6 n (by omega)]
  rw [← g6 (n + 15) (by omega)]
  have a6 : ∀ q, q ≤ n → ad6 q = ad q := fun q hq => (g6 q (by omega)).trans (a5 q hq)
  refine pw_putR dX5_init_34 (p := n) (S' := S1 ++ ([.inr (.inl (5, [.inr (some (some (n + 1))), .inr (some (some (n + 12))), .inr (some (some (n + 15))), .inr (some none)]))] ++ lotsD (n + 1) ++ botD (n + 12) ++ cusD (n + 15))) lo_X5_28 (fun _ _ _ _ h9 => h9) (apx (j := 0) hn rfl) (Nat.le_of_ble_eq_true rfl) rfl rfl (apset (j := 0) hn rfl) ?_
  refine pw_aload_n dX5_init_37 rfl ?_
  refine pw_new dX5_init_38 nw_X5_32 (n := n + 22) (S' := S1 ++ ([.inr (.inl (5, [.inr (some (some (n + 1))), .inr (some (some (n + 12))), .inr (some (some (n + 15))), .inr (some none)]))] ++ lotsD (n + 1) ++ botD (n + 12) ++ cusD (n + 15) ++ [.inr (.inl (6, [.inr none, .inr none, .inr (some none)]))])) (aplen hn rfl) (clB_apm (m := n + 22) hcl hn rfl (all_app (all_app (all_app (by first | rfl | (simp [shB]) | (simp [shB]; omega)) (sb_lotsD (by omega))) (sb_botD (by omega))) (sb_cusD (by omega)))) (fun k => hz (n + 22) (by omega) k) ⟨Nat.le_of_ble_eq_true rfl, Nat.le_of_ble_eq_true rfl⟩ (List.append_assoc _ _ _) (fun ad7 g7 => ?_)
  rw [← g7 n (by omega)]
  have a7 : ∀ q, q ≤ n → ad7 q = ad q := fun q hq => (g7 q (by omega)).trans (a6 q hq)
  refine pw_dup dX5_init_41 rfl ?_
  refine pw_iconst dX5_init_42 (v := 1) (by decide) ?_
  refine pw_iconst dX5_init_43 (v := 3) (by decide) ?_
  refine pw_cI dX5_init_44 (b := n + 22) (S' := S1 ++ ([.inr (.inl (5, [.inr (some (some (n + 1))), .inr (some (some (n + 12))), .inr (some (some (n + 15))), .inr (some none)]))] ++ lotsD (n + 1) ++ botD (n + 12) ++ cusD (n + 15) ++ tabD 1 3 (n + 22))) (sp_X6_init (R := 1) (C := 3) (by decide) (by decide) (S1 := S1 ++ ([.inr (.inl (5, [.inr (some (some (n + 1))), .inr (some (some (n + 12))), .inr (some (some (n + 15))), .inr (some none)]))] ++ lotsD (n + 1) ++ botD (n + 12) ++ cusD (n + 15))) (n := n + 22) (by first | exact (List.append_assoc _ _ _).symm | simp) (aplen hn rfl) (clB_apm (m := n + 22) hcl hn rfl (all_app (all_app (all_app (by first | rfl | (simp [shB]) | (simp [shB]; omega)) (sb_lotsD (by omega))) (sb_botD (by omega))) (sb_cusD (by omega)))) (fun q hq => hz q (by omega))) mi_X6_init rfl ii_X6_init ml_X5_34 rfl ⟨Nat.le_of_ble_eq_true rfl, Nat.le_of_ble_eq_true rfl⟩ ⟨Nat.le_of_ble_eq_true rfl, Nat.le_of_ble_eq_true rfl⟩ rfl rfl (List.append_assoc _ _ _) (fun ad8 g8 => ?_)
  rw [← g8 n (by omega)]
  rw [← g8 (n + 22) (by omega)]
  have a8 : ∀ q, q ≤ n → ad8 q = ad q := fun q hq => (g8 q (by omega)).trans (a7 q hq)
  refine pw_putR dX5_init_47 (p := n) (S' := S1 ++ ([.inr (.inl (5, [.inr (some (some (n + 1))), .inr (some (some (n + 12))), .inr (some (some (n + 15))), .inr (some (some (n + 22)))]))] ++ lotsD (n + 1) ++ botD (n + 12) ++ cusD (n + 15) ++ tabD 1 3 (n + 22))) lo_X5_37 (fun _ _ _ _ h9 => h9) (apx (j := 0) hn rfl) (Nat.le_of_ble_eq_true rfl) rfl rfl (apset (j := 0) hn rfl) ?_
  refine pw_aload_n dX5_init_50 rfl ?_
  refine pw_getr dX5_init_51 lf_X5_37 (p := n) (q := n + 22) (apx (j := 0) hn rfl) rfl ?_
  refine pw_iconst dX5_init_54 (v := 0) (by decide) ?_
  refine pw_iconst dX5_init_55 (v := 0) (by decide) ?_
  refine pw_sipush dX5_init_56 (v := 850) (by decide) ?_
  have ht59 : isTab (S1 ++ ([.inr (.inl (5, [.inr (some (some (n + 1))), .inr (some (some (n + 12))), .inr (some (some (n + 15))), .inr (some (some (n + 22)))]))] ++ lotsD (n + 1) ++ botD (n + 12) ++ cusD (n + 15) ++ tabD 1 3 (n + 22))) (n + 22) (n + 23) 1 3 := ⟨apx (j := 22) hn rfl, apx (j := 23) hn rfl, by decide, by decide⟩
  refine pw_cVn dX5_init_59 (sp_X6_put ht59 (r := 0) (k := 0) rfl rfl (by decide) (by decide)) mi_X6_put mv_X6_put ml_X5_41 ht59.1 rfl rfl rfl rfl ⟨rfl, rfl⟩ rfl rfl ?_
  refine pw_aload_n dX5_init_62 rfl ?_
  refine pw_getr dX5_init_63 lf_X5_37 (p := n) (q := n + 22) (apx (j := 0) hn rfl) rfl ?_
  refine pw_iconst dX5_init_66 (v := 0) (by decide) ?_
  refine pw_iconst dX5_init_67 (v := 1) (by decide) ?_
  refine pw_sipush dX5_init_68 (v := 850) (by decide) ?_
  have ht71 : isTab (S1 ++ ([.inr (.inl (5, [.inr (some (some (n + 1))), .inr (some (some (n + 12))), .inr (some (some (n + 15))), .inr (some (some (n + 22)))]))] ++ lotsD (n + 1) ++ botD (n + 12) ++ cusD (n + 15) ++ tabD 1 3 (n + 22))) (n + 22) (n + 23) 1 3 := ⟨apx (j := 22) hn rfl, apx (j := 23) hn rfl, by decide, by decide⟩
  refine pw_cVn dX5_init_71 (sp_X6_put ht71 (r := 0) (k := 1) rfl rfl (by decide) (by decide)) mi_X6_put mv_X6_put ml_X5_41 ht71.1 rfl rfl rfl rfl ⟨rfl, rfl⟩ rfl rfl ?_
  refine pw_aload_n dX5_init_74 rfl ?_
  refine pw_getr dX5_init_75 lf_X5_37 (p := n) (q := n + 22) (apx (j := 0) hn rfl) rfl ?_
  refine pw_iconst dX5_init_78 (v := 0) (by decide) ?_
  refine pw_iconst dX5_init_79 (v := 2) (by decide) ?_
  refine pw_sipush dX5_init_80 (v := 750) (by decide) ?_
  have ht83 : isTab (S1 ++ ([.inr (.inl (5, [.inr (some (some (n + 1))), .inr (some (some (n + 12))), .inr (some (some (n + 15))), .inr (some (some (n + 22)))]))] ++ lotsD (n + 1) ++ botD (n + 12) ++ cusD (n + 15) ++ tabD 1 3 (n + 22))) (n + 22) (n + 23) 1 3 := ⟨apx (j := 22) hn rfl, apx (j := 23) hn rfl, by decide, by decide⟩
  refine pw_cVn dX5_init_83 (sp_X6_put ht83 (r := 0) (k := 2) rfl rfl (by decide) (by decide)) mi_X6_put mv_X6_put ml_X5_41 ht83.1 rfl rfl rfl rfl ⟨rfl, rfl⟩ rfl rfl ?_
  exact pw_endC dX5_init_86 rfl (Nat.le_of_ble_eq_true rfl) (Nat.le_of_ble_eq_true rfl) rfl a8 rfl
