/-! MAKERS -/
set_option maxRecDepth 100000 in
set_option maxHeartbeats 4000000 in
theorem sp_X4_init {l : Launch} {G : GC} {ad : Nat → Nat} {S S1 : List Sh} {n : Nat} {h : HP} (hS : S = S1 ++ [.inr (.inl (4, [.inr (some none), .inr (some none), .inr (some none), .inr (some none), .inr (some none), .inr none, .inr none, .inr none]))]) (hn : S1.length = n) (hcl : clB S1 = true) (hz : ∀ q, n ≤ q → ∀ k, h q k = 0) : PM l G yX4_init (.code yX4_init cX4_init 1 ((Option.none : Option FieldType))) { frames := 2, cells := 10, slots := 651, locals := 44 } [.ref (ad n)] S ad h (gC n ad (S1 ++ lotsD n) (h)) gNo := by
  subst hS
  refine PM.mk (L0 := [some (.ref (ad n))]) RX4 "<init>" (10) (651) (by decide +kernel) rfl rfl ⟨rfl, rfl⟩ (by simp [Value.category]) (Nat.le_of_ble_eq_true rfl) rfl ?_
  refine pw_aload_n dX4_init_0 rfl ?_
  refine pw_objI dX4_init_1 oi_X4_3 ow_i ⟨Nat.le_of_ble_eq_true rfl, Nat.le_of_ble_eq_true rfl⟩ ?_
  refine pw_aload_n dX4_init_4 rfl ?_
  refine pw_new dX4_init_5 nw_X4_9 (n := n + 1) (S' := S1 ++ ([.inr (.inl (4, [.inr (some none), .inr (some none), .inr (some none), .inr (some none), .inr (some none), .inr none, .inr none, .inr none]))] ++ [.inr (.inl (6, [.inr none, .inr none, .inr (some none)]))])) (aplen hn rfl) (clB_apm (m := n + 1) hcl hn rfl (by first | rfl | (simp [shB]) | (simp [shB]; omega))) (fun k => hz (n + 1) (by omega) k) ⟨Nat.le_of_ble_eq_true rfl, Nat.le_of_ble_eq_true rfl⟩ (List.append_assoc _ _ _) (fun ad1 g1 => ?_)
  rw [← g1 n (by omega)]
  have a1 : ∀ q, q ≤ n → ad1 q = ad q := fun q hq => (g1 q (by omega)).trans (rfl)
  refine pw_dup dX4_init_8 rfl ?_
  refine pw_bipush dX4_init_9 (v := 24) (by decide) ?_
  refine pw_iconst dX4_init_11 (v := 5) (by decide) ?_
  refine pw_cI dX4_init_12 (b := n + 1) (S' := S1 ++ ([.inr (.inl (4, [.inr (some none), .inr (some none), .inr (some none), .inr (some none), .inr (some none), .inr none, .inr none, .inr none]))] ++ tabD 24 5 (n + 1))) (sp_X6_init (R := 24) (C := 5) (by decide) (by decide) (S1 := S1 ++ ([.inr (.inl (4, [.inr (some none), .inr (some none), .inr (some none), .inr (some none), .inr (some none), .inr none, .inr none, .inr none]))])) (n := n + 1) (by first | exact (List.append_assoc _ _ _).symm | simp) (aplen hn rfl) (clB_apm (m := n + 1) hcl hn rfl (by first | rfl | (simp [shB]) | (simp [shB]; omega))) (fun q hq => hz q (by omega))) mi_X6_init rfl ii_X6_init ml_X4_11 rfl ⟨Nat.le_of_ble_eq_true rfl, Nat.le_of_ble_eq_true rfl⟩ ⟨Nat.le_of_ble_eq_true rfl, Nat.le_of_ble_eq_true rfl⟩ rfl rfl (List.append_assoc _ _ _) (fun ad2 g2 => ?_)
  rw [← g2 n (by omega)]
  rw [← g2 (n + 1) (by omega)]
  have a2 : ∀ q, q ≤ n → ad2 q = ad q := fun q hq => (g2 q (by omega)).trans (a1 q hq)
  refine pw_putR dX4_init_15 (p := n) (S' := S1 ++ ([.inr (.inl (4, [.inr (some (some (n + 1))), .inr (some none), .inr (some none), .inr (some none), .inr (some none), .inr none, .inr none, .inr none]))] ++ tabD 24 5 (n + 1))) lo_X4_14 (fun _ _ _ _ h9 => h9) (apx (j := 0) hn rfl) (Nat.le_of_ble_eq_true rfl) rfl rfl (apset (j := 0) hn rfl) ?_
  refine pw_aload_n dX4_init_18 rfl ?_
  refine pw_new dX4_init_19 nw_X4_9 (n := n + 3) (S' := S1 ++ ([.inr (.inl (4, [.inr (some (some (n + 1))), .inr (some none), .inr (some none), .inr (some none), .inr (some none), .inr none, .inr none, .inr none]))] ++ tabD 24 5 (n + 1) ++ [.inr (.inl (6, [.inr none, .inr none, .inr (some none)]))])) (aplen hn rfl) (clB_apm (m := n + 3) hcl hn rfl (all_app (by first | rfl | (simp [shB]) | (simp [shB]; omega)) (sb_tabD (by omega)))) (fun k => hz (n + 3) (by omega) k) ⟨Nat.le_of_ble_eq_true rfl, Nat.le_of_ble_eq_true rfl⟩ (List.append_assoc _ _ _) (fun ad3 g3 => ?_)
  rw [← g3 n (by omega)]
  have a3 : ∀ q, q ≤ n → ad3 q = ad q := fun q hq => (g3 q (by omega)).trans (a2 q hq)
  refine pw_dup dX4_init_22 rfl ?_
  refine pw_bipush dX4_init_23 (v := 24) (by decide) ?_
  refine pw_iconst dX4_init_25 (v := 4) (by decide) ?_
  refine pw_cI dX4_init_26 (b := n + 3) (S' := S1 ++ ([.inr (.inl (4, [.inr (some (some (n + 1))), .inr (some none), .inr (some none), .inr (some none), .inr (some none), .inr none, .inr none, .inr none]))] ++ tabD 24 5 (n + 1) ++ tabD 24 4 (n + 3))) (sp_X6_init (R := 24) (C := 4) (by decide) (by decide) (S1 := S1 ++ ([.inr (.inl (4, [.inr (some (some (n + 1))), .inr (some none), .inr (some none), .inr (some none), .inr (some none), .inr none, .inr none, .inr none]))] ++ tabD 24 5 (n + 1))) (n := n + 3) (by first | exact (List.append_assoc _ _ _).symm | simp) (aplen hn rfl) (clB_apm (m := n + 3) hcl hn rfl (all_app (by first | rfl | (simp [shB]) | (simp [shB]; omega)) (sb_tabD (by omega)))) (fun q hq => hz q (by omega))) mi_X6_init rfl ii_X6_init ml_X4_11 rfl ⟨Nat.le_of_ble_eq_true rfl, Nat.le_of_ble_eq_true rfl⟩ ⟨Nat.le_of_ble_eq_true rfl, Nat.le_of_ble_eq_true rfl⟩ rfl rfl (List.append_assoc _ _ _) (fun ad4 g4 => ?_)
  rw [← g4 n (by omega)]
  rw [← g4 (n + 3) (by omega)]
  have a4 : ∀ q, q ≤ n → ad4 q = ad q := fun q hq => (g4 q (by omega)).trans (a3 q hq)
  refine pw_putR dX4_init_29 (p := n) (S' := S1 ++ ([.inr (.inl (4, [.inr (some (some (n + 1))), .inr (some (some (n + 3))), .inr (some none), .inr (some none), .inr (some none), .inr none, .inr none, .inr none]))] ++ tabD 24 5 (n + 1) ++ tabD 24 4 (n + 3))) lo_X4_20 (fun _ _ _ _ h9 => h9) (apx (j := 0) hn rfl) (Nat.le_of_ble_eq_true rfl) rfl rfl (apset (j := 0) hn rfl) ?_
  refine pw_aload_n dX4_init_32 rfl ?_
  refine pw_new dX4_init_33 nw_X4_9 (n := n + 5) (S' := S1 ++ ([.inr (.inl (4, [.inr (some (some (n + 1))), .inr (some (some (n + 3))), .inr (some none), .inr (some none), .inr (some none), .inr none, .inr none, .inr none]))] ++ tabD 24 5 (n + 1) ++ tabD 24 4 (n + 3) ++ [.inr (.inl (6, [.inr none, .inr none, .inr (some none)]))])) (aplen hn rfl) (clB_apm (m := n + 5) hcl hn rfl (all_app (all_app (by first | rfl | (simp [shB]) | (simp [shB]; omega)) (sb_tabD (by omega))) (sb_tabD (by omega)))) (fun k => hz (n + 5) (by omega) k) ⟨Nat.le_of_ble_eq_true rfl, Nat.le_of_ble_eq_true rfl⟩ (List.append_assoc _ _ _) (fun ad5 g5 => ?_)
  rw [← g5 n (by omega)]
  have a5 : ∀ q, q ≤ n → ad5 q = ad q := fun q hq => (g5 q (by omega)).trans (a4 q hq)
  refine pw_dup dX4_init_36 rfl ?_
  refine pw_bipush dX4_init_37 (v := 24) (by decide) ?_
  refine pw_iconst dX4_init_39 (v := 4) (by decide) ?_
  refine pw_cI dX4_init_40 (b := n + 5) (S' := S1 ++ ([.inr (.inl (4, [.inr (some (some (n + 1))), .inr (some (some (n + 3))), .inr (some none), .inr (some none), .inr (some none), .inr none, .inr none, .inr none]))] ++ tabD 24 5 (n + 1) ++ tabD 24 4 (n + 3) ++ tabD 24 4 (n + 5))) (sp_X6_init (R := 24) (C := 4) (by decide) (by decide) (S1 := S1 ++ ([.inr (.inl (4, [.inr (some (some (n + 1))), .inr (some (some (n + 3))), .inr (some none), .inr (some none), .inr (some none), .inr none, .inr none, .inr none]))] ++ tabD 24 5 (n + 1) ++ tabD 24 4 (n + 3))) (n := n + 5) (by first | exact (List.append_assoc _ _ _).symm | simp) (aplen hn rfl) (clB_apm (m := n + 5) hcl hn rfl (all_app (all_app (by first | rfl | (simp [shB]) | (simp [shB]; omega)) (sb_tabD (by omega))) (sb_tabD (by omega)))) (fun q hq => hz q (by omega))) mi_X6_init rfl ii_X6_init ml_X4_11 rfl ⟨Nat.le_of_ble_eq_true rfl, Nat.le_of_ble_eq_true rfl⟩ ⟨Nat.le_of_ble_eq_true rfl, Nat.le_of_ble_eq_true rfl⟩ rfl rfl (List.append_assoc _ _ _) (fun ad6 g6 => ?_)
  rw [← g6 n (by omega)]
  rw [← g6 (n + 5) (by omega)]
  have a6 : ∀ q, q ≤ n → ad6 q = ad q := fun q hq => (g6 q (by omega)).trans (a5 q hq)
  refine pw_putR dX4_init_43 (p := n) (S' := S1 ++ ([.inr (.inl (4, [.inr (some (some (n + 1))), .inr (some (some (n + 3))), .inr (some (some (n + 5))), .inr (some none), .inr (some none), .inr none, .inr none, .inr none]))] ++ tabD 24 5 (n + 1) ++ tabD 24 4 (n + 3) ++ tabD 24 4 (n + 5))) lo_X4_23 (fun _ _ _ _ h9 => h9) (apx (j := 0) hn rfl) (Nat.le_of_ble_eq_true rfl) rfl rfl (apset (j := 0) hn rfl) ?_
  refine pw_aload_n dX4_init_46 rfl ?_
  refine pw_new dX4_init_47 nw_X4_9 (n := n + 7) (S' := S1 ++ ([.inr (.inl (4, [.inr (some (some (n + 1))), .inr (some (some (n + 3))), .inr (some (some (n + 5))), .inr (some none), .inr (some none), .inr none, .inr none, .inr none]))] ++ tabD 24 5 (n + 1) ++ tabD 24 4 (n + 3) ++ tabD 24 4 (n + 5) ++ [.inr (.inl (6, [.inr none, .inr none, .inr (some none)]))])) (aplen hn rfl) (clB_apm (m := n + 7) hcl hn rfl (all_app (all_app (all_app (by first | rfl | (simp [shB]) | (simp [shB]; omega)) (sb_tabD (by omega))) (sb_tabD (by omega))) (sb_tabD (by omega)))) (fun k => hz (n + 7) (by omega) k) ⟨Nat.le_of_ble_eq_true rfl, Nat.le_of_ble_eq_true rfl⟩ (List.append_assoc _ _ _) (fun ad7 g7 => ?_)
  rw [← g7 n (by omega)]
  have a7 : ∀ q, q ≤ n → ad7 q = ad q := fun q hq => (g7 q (by omega)).trans (a6 q hq)
  refine pw_dup dX4_init_50 rfl ?_
  refine pw_bipush dX4_init_51 (v := 24) (by decide) ?_
  refine pw_bipush dX4_init_53 (v := 12) (by decide) ?_
  refine pw_cI dX4_init_55 (b := n + 7) (S' := S1 ++ ([.inr (.inl (4, [.inr (some (some (n + 1))), .inr (some (some (n + 3))), .inr (some (some (n + 5))), .inr (some none), .inr (some none), .inr none, .inr none, .inr none]))] ++ tabD 24 5 (n + 1) ++ tabD 24 4 (n + 3) ++ tabD 24 4 (n + 5) ++ tabD 24 12 (n + 7))) (sp_X6_init (R := 24) (C := 12) (by decide) (by decide) (S1 := S1 ++ ([.inr (.inl (4, [.inr (some (some (n + 1))), .inr (some (some (n + 3))), .inr (some (some (n + 5))), .inr (some none), .inr (some none), .inr none, .inr none, .inr none]))] ++ tabD 24 5 (n + 1) ++ tabD 24 4 (n + 3) ++ tabD 24 4 (n + 5))) (n := n + 7) (by first | exact (List.append_assoc _ _ _).symm | simp) (aplen hn rfl) (clB_apm (m := n + 7) hcl hn rfl (all_app (all_app (all_app (by first | rfl | (simp [shB]) | (simp [shB]; omega)) (sb_tabD (by omega))) (sb_tabD (by omega))) (sb_tabD (by omega)))) (fun q hq => hz q (by omega))) mi_X6_init rfl ii_X6_init ml_X4_11 rfl ⟨Nat.le_of_ble_eq_true rfl, Nat.le_of_ble_eq_true rfl⟩ ⟨Nat.le_of_ble_eq_true rfl, Nat.le_of_ble_eq_true rfl⟩ rfl rfl (List.append_assoc _ _ _) (fun ad8 g8 => ?_)
  rw [← g8 n (by omega)]
  rw [← g8 (n + 7) (by omega)]
  have a8 : ∀ q, q ≤ n → ad8 q = ad q := fun q hq => (g8 q (by omega)).trans (a7 q hq)
  refine pw_putR dX4_init_58 (p := n) (S' := S1 ++ ([.inr (.inl (4, [.inr (some (some (n + 1))), .inr (some (some (n + 3))), .inr (some (some (n + 5))), .inr (some (some (n + 7))), .inr (some none), .inr none, .inr none, .inr none]))] ++ tabD 24 5 (n + 1) ++ tabD 24 4 (n + 3) ++ tabD 24 4 (n + 5) ++ tabD 24 12 (n + 7))) lo_X4_26 (fun _ _ _ _ h9 => h9) (apx (j := 0) hn rfl) (Nat.le_of_ble_eq_true rfl) rfl rfl (apset (j := 0) hn rfl) ?_
  refine pw_aload_n dX4_init_61 rfl ?_
  refine pw_new dX4_init_62 nw_X4_9 (n := n + 9) (S' := S1 ++ ([.inr (.inl (4, [.inr (some (some (n + 1))), .inr (some (some (n + 3))), .inr (some (some (n + 5))), .inr (some (some (n + 7))), .inr (some none), .inr none, .inr none, .inr none]))] ++ tabD 24 5 (n + 1) ++ tabD 24 4 (n + 3) ++ tabD 24 4 (n + 5) ++ tabD 24 12 (n + 7) ++ [.inr (.inl (6, [.inr none, .inr none, .inr (some none)]))])) (aplen hn rfl) (clB_apm (m := n + 9) hcl hn rfl (all_app (all_app (all_app (all_app (by first | rfl | (simp [shB]) | (simp [shB]; omega)) (sb_tabD (by omega))) (sb_tabD (by omega))) (sb_tabD (by omega))) (sb_tabD (by omega)))) (fun k => hz (n + 9) (by omega) k) ⟨Nat.le_of_ble_eq_true rfl, Nat.le_of_ble_eq_true rfl⟩ (List.append_assoc _ _ _) (fun ad9 g9 => ?_)
  rw [← g9 n (by omega)]
  have a9 : ∀ q, q ≤ n → ad9 q = ad q := fun q hq => (g9 q (by omega)).trans (a8 q hq)
  refine pw_dup dX4_init_65 rfl ?_
  refine pw_bipush dX4_init_66 (v := 12) (by decide) ?_
  refine pw_iconst dX4_init_68 (v := 3) (by decide) ?_
  refine pw_cI dX4_init_69 (b := n + 9) (S' := S1 ++ ([.inr (.inl (4, [.inr (some (some (n + 1))), .inr (some (some (n + 3))), .inr (some (some (n + 5))), .inr (some (some (n + 7))), .inr (some none), .inr none, .inr none, .inr none]))] ++ tabD 24 5 (n + 1) ++ tabD 24 4 (n + 3) ++ tabD 24 4 (n + 5) ++ tabD 24 12 (n + 7) ++ tabD 12 3 (n + 9))) (sp_X6_init (R := 12) (C := 3) (by decide) (by decide) (S1 := S1 ++ ([.inr (.inl (4, [.inr (some (some (n + 1))), .inr (some (some (n + 3))), .inr (some (some (n + 5))), .inr (some (some (n + 7))), .inr (some none), .inr none, .inr none, .inr none]))] ++ tabD 24 5 (n + 1) ++ tabD 24 4 (n + 3) ++ tabD 24 4 (n + 5) ++ tabD 24 12 (n + 7))) (n := n + 9) (by first | exact (List.append_assoc _ _ _).symm | simp) (aplen hn rfl) (clB_apm (m := n + 9) hcl hn rfl (all_app (all_app (all_app (all_app (by first | rfl | (simp [shB]) | (simp [shB]; omega)) (sb_tabD (by omega))) (sb_tabD (by omega))) (sb_tabD (by omega))) (sb_tabD (by omega)))) (fun q hq => hz q (by omega))) mi_X6_init rfl ii_X6_init ml_X4_11 rfl ⟨Nat.le_of_ble_eq_true rfl, Nat.le_of_ble_eq_true rfl⟩ ⟨Nat.le_of_ble_eq_true rfl, Nat.le_of_ble_eq_true rfl⟩ rfl rfl (List.append_assoc _ _ _) (fun ad10 g10 => ?_)
  rw [← g10 n (by omega)]
  rw [← g10 (n + 9) (by omega)]
  have a10 : ∀ q, q ≤ n → ad10 q = ad q := fun q hq => (g10 q (by omega)).trans (a9 q hq)
  refine pw_putR dX4_init_72 (p := n) (S' := S1 ++ ([.inr (.inl (4, [.inr (some (some (n + 1))), .inr (some (some (n + 3))), .inr (some (some (n + 5))), .inr (some (some (n + 7))), .inr (some (some (n + 9))), .inr none, .inr none, .inr none]))] ++ tabD 24 5 (n + 1) ++ tabD 24 4 (n + 3) ++ tabD 24 4 (n + 5) ++ tabD 24 12 (n + 7) ++ tabD 12 3 (n + 9))) lo_X4_29 (fun _ _ _ _ h9 => h9) (apx (j := 0) hn rfl) (Nat.le_of_ble_eq_true rfl) rfl rfl (apset (j := 0) hn rfl) ?_
  refine pw_aload_n dX4_init_75 rfl ?_
  refine pw_iconst dX4_init_76 (v := 0) (by decide) ?_
  refine pw_puti dX4_init_77 (p := n) lf_X4_32 lp_4_5 (apx (j := 0) hn rfl) rfl rfl rfl ?_
  refine pw_heq (hput_same (hz n (by omega) 5)) ?_
  refine pw_aload_n dX4_init_80 rfl ?_
  refine pw_iconst dX4_init_81 (v := 0) (by decide) ?_
  refine pw_puti dX4_init_82 (p := n) lf_X4_36 lp_4_6 (apx (j := 0) hn rfl) rfl rfl rfl ?_
  refine pw_heq (hput_same (hz n (by omega) 6)) ?_
  refine pw_aload_n dX4_init_85 rfl ?_
  refine pw_iconst dX4_init_86 (v := 0) (by decide) ?_
  refine pw_puti dX4_init_87 (p := n) lf_X4_39 lp_4_7 (apx (j := 0) hn rfl) rfl rfl rfl ?_
  refine pw_heq (hput_same (hz n (by omega) 7)) ?_
  exact pw_endC dX4_init_90 rfl (Nat.le_of_ble_eq_true rfl) (Nat.le_of_ble_eq_true rfl) rfl a10 rfl

set_option maxRecDepth 100000 in
set_option maxHeartbeats 4000000 in
theorem sp_X0_init {l : Launch} {G : GC} {ad : Nat → Nat} {S S1 : List Sh} {n : Nat} {h : HP} (hS : S = S1 ++ [.inr (.inl (0, [.inr (some none), .inr none]))]) (hn : S1.length = n) (hcl : clB S1 = true) (hz : ∀ q, n ≤ q → ∀ k, h q k = 0) : PM l G yX0_init (.code yX0_init cX0_init 1 ((Option.none : Option FieldType))) { frames := 2, cells := 2, slots := 115, locals := 44 } [.ref (ad n)] S ad h (gC n ad (S1 ++ botD n) (h)) gNo := by
  subst hS
  refine PM.mk (L0 := [some (.ref (ad n))]) RX0 "<init>" (2) (115) (by decide +kernel) rfl rfl ⟨rfl, rfl⟩ (by simp [Value.category]) (Nat.le_of_ble_eq_true rfl) rfl ?_
  refine pw_aload_n dX0_init_0 rfl ?_
  refine pw_objI dX0_init_1 oi_X0_3 ow_i ⟨Nat.le_of_ble_eq_true rfl, Nat.le_of_ble_eq_true rfl⟩ ?_
  refine pw_aload_n dX0_init_4 rfl ?_
  refine pw_new dX0_init_5 nw_X0_9 (n := n + 1) (S' := S1 ++ ([.inr (.inl (0, [.inr (some none), .inr none]))] ++ [.inr (.inl (6, [.inr none, .inr none, .inr (some none)]))])) (aplen hn rfl) (clB_apm (m := n + 1) hcl hn rfl (by first | rfl | (simp [shB]) | (simp [shB]; omega))) (fun k => hz (n + 1) (by omega) k) ⟨Nat.le_of_ble_eq_true rfl, Nat.le_of_ble_eq_true rfl⟩ (List.append_assoc _ _ _) (fun ad1 g1 => ?_)
  rw [← g1 n (by omega)]
  have a1 : ∀ q, q ≤ n → ad1 q = ad q := fun q hq => (g1 q (by omega)).trans (rfl)
  refine pw_dup dX0_init_8 rfl ?_
  refine pw_bipush dX0_init_9 (v := 16) (by decide) ?_
  refine pw_bipush dX0_init_11 (v := 7) (by decide) ?_
  refine pw_cI dX0_init_13 (b := n + 1) (S' := S1 ++ ([.inr (.inl (0, [.inr (some none), .inr none]))] ++ tabD 16 7 (n + 1))) (sp_X6_init (R := 16) (C := 7) (by decide) (by decide) (S1 := S1 ++ ([.inr (.inl (0, [.inr (some none), .inr none]))])) (n := n + 1) (by first | exact (List.append_assoc _ _ _).symm | simp) (aplen hn rfl) (clB_apm (m := n + 1) hcl hn rfl (by first | rfl | (simp [shB]) | (simp [shB]; omega))) (fun q hq => hz q (by omega))) mi_X6_init rfl ii_X6_init ml_X0_11 rfl ⟨Nat.le_of_ble_eq_true rfl, Nat.le_of_ble_eq_true rfl⟩ ⟨Nat.le_of_ble_eq_true rfl, Nat.le_of_ble_eq_true rfl⟩ rfl rfl (List.append_assoc _ _ _) (fun ad2 g2 => ?_)
  rw [← g2 n (by omega)]
  rw [← g2 (n + 1) (by omega)]
  have a2 : ∀ q, q ≤ n → ad2 q = ad q := fun q hq => (g2 q (by omega)).trans (a1 q hq)
  refine pw_putR dX0_init_16 (p := n) (S' := S1 ++ ([.inr (.inl (0, [.inr (some (some (n + 1))), .inr none]))] ++ tabD 16 7 (n + 1))) lo_X0_14 (fun _ _ _ _ h9 => h9) (apx (j := 0) hn rfl) (Nat.le_of_ble_eq_true rfl) rfl rfl (apset (j := 0) hn rfl) ?_
  refine pw_aload_n dX0_init_19 rfl ?_
  refine pw_iconst dX0_init_20 (v := 0) (by decide) ?_
  refine pw_puti dX0_init_21 (p := n) lf_X0_20 lp_0_1 (apx (j := 0) hn rfl) rfl rfl rfl ?_
  refine pw_heq (hput_same (hz n (by omega) 1)) ?_
  exact pw_endC dX0_init_24 rfl (Nat.le_of_ble_eq_true rfl) (Nat.le_of_ble_eq_true rfl) rfl a2 rfl

set_option maxRecDepth 100000 in
set_option maxHeartbeats 4000000 in
theorem sp_X1_init {l : Launch} {G : GC} {ad : Nat → Nat} {S S1 : List Sh} {n : Nat} {h : HP} (hS : S = S1 ++ [.inr (.inl (1, [.inr (some none), .inr (some none), .inr (some none), .inr none]))]) (hn : S1.length = n) (hcl : clB S1 = true) (hz : ∀ q, n ≤ q → ∀ k, h q k = 0) : PM l G yX1_init (.code yX1_init cX1_init 1 ((Option.none : Option FieldType))) { frames := 2, cells := 6, slots := 273, locals := 44 } [.ref (ad n)] S ad h (gC n ad (S1 ++ cusD n) (h)) gNo := by
  subst hS
  refine PM.mk (L0 := [some (.ref (ad n))]) RX1 "<init>" (6) (273) (by decide +kernel) rfl rfl ⟨rfl, rfl⟩ (by simp [Value.category]) (Nat.le_of_ble_eq_true rfl) rfl ?_
  refine pw_aload_n dX1_init_0 rfl ?_
  refine pw_objI dX1_init_1 oi_X1_3 ow_i ⟨Nat.le_of_ble_eq_true rfl, Nat.le_of_ble_eq_true rfl⟩ ?_
  refine pw_aload_n dX1_init_4 rfl ?_
  refine pw_new dX1_init_5 nw_X1_9 (n := n + 1) (S' := S1 ++ ([.inr (.inl (1, [.inr (some none), .inr (some none), .inr (some none), .inr none]))] ++ [.inr (.inl (6, [.inr none, .inr none, .inr (some none)]))])) (aplen hn rfl) (clB_apm (m := n + 1) hcl hn rfl (by first | rfl | (simp [shB]) | (simp [shB]; omega))) (fun k => hz (n + 1) (by omega) k) ⟨Nat.le_of_ble_eq_true rfl, Nat.le_of_ble_eq_true rfl⟩ (List.append_assoc _ _ _) (fun ad1 g1 => ?_)
  rw [← g1 n (by omega)]
  have a1 : ∀ q, q ≤ n → ad1 q = ad q := fun q hq => (g1 q (by omega)).trans (rfl)
  refine pw_dup dX1_init_8 rfl ?_
  refine pw_bipush dX1_init_9 (v := 8) (by decide) ?_
  refine pw_iconst dX1_init_11 (v := 1) (by decide) ?_
  refine pw_cI dX1_init_12 (b := n + 1) (S' := S1 ++ ([.inr (.inl (1, [.inr (some none), .inr (some none), .inr (some none), .inr none]))] ++ tabD 8 1 (n + 1))) (sp_X6_init (R := 8) (C := 1) (by decide) (by decide) (S1 := S1 ++ ([.inr (.inl (1, [.inr (some none), .inr (some none), .inr (some none), .inr none]))])) (n := n + 1) (by first | exact (List.append_assoc _ _ _).symm | simp) (aplen hn rfl) (clB_apm (m := n + 1) hcl hn rfl (by first | rfl | (simp [shB]) | (simp [shB]; omega))) (fun q hq => hz q (by omega))) mi_X6_init rfl ii_X6_init ml_X1_11 rfl ⟨Nat.le_of_ble_eq_true rfl, Nat.le_of_ble_eq_true rfl⟩ ⟨Nat.le_of_ble_eq_true rfl, Nat.le_of_ble_eq_true rfl⟩ rfl rfl (List.append_assoc _ _ _) (fun ad2 g2 => ?_)
  rw [← g2 n (by omega)]
  rw [← g2 (n + 1) (by omega)]
  have a2 : ∀ q, q ≤ n → ad2 q = ad q := fun q hq => (g2 q (by omega)).trans (a1 q hq)
  refine pw_putR dX1_init_15 (p := n) (S' := S1 ++ ([.inr (.inl (1, [.inr (some (some (n + 1))), .inr (some none), .inr (some none), .inr none]))] ++ tabD 8 1 (n + 1))) lo_X1_14 (fun _ _ _ _ h9 => h9) (apx (j := 0) hn rfl) (Nat.le_of_ble_eq_true rfl) rfl rfl (apset (j := 0) hn rfl) ?_
  refine pw_aload_n dX1_init_18 rfl ?_
  refine pw_new dX1_init_19 nw_X1_9 (n := n + 3) (S' := S1 ++ ([.inr (.inl (1, [.inr (some (some (n + 1))), .inr (some none), .inr (some none), .inr none]))] ++ tabD 8 1 (n + 1) ++ [.inr (.inl (6, [.inr none, .inr none, .inr (some none)]))])) (aplen hn rfl) (clB_apm (m := n + 3) hcl hn rfl (all_app (by first | rfl | (simp [shB]) | (simp [shB]; omega)) (sb_tabD (by omega)))) (fun k => hz (n + 3) (by omega) k) ⟨Nat.le_of_ble_eq_true rfl, Nat.le_of_ble_eq_true rfl⟩ (List.append_assoc _ _ _) (fun ad3 g3 => ?_)
  rw [← g3 n (by omega)]
  have a3 : ∀ q, q ≤ n → ad3 q = ad q := fun q hq => (g3 q (by omega)).trans (a2 q hq)
  refine pw_dup dX1_init_22 rfl ?_
  refine pw_bipush dX1_init_23 (v := 8) (by decide) ?_
  refine pw_bipush dX1_init_25 (v := 16) (by decide) ?_
  refine pw_cI dX1_init_27 (b := n + 3) (S' := S1 ++ ([.inr (.inl (1, [.inr (some (some (n + 1))), .inr (some none), .inr (some none), .inr none]))] ++ tabD 8 1 (n + 1) ++ tabD 8 16 (n + 3))) (sp_X6_init (R := 8) (C := 16) (by decide) (by decide) (S1 := S1 ++ ([.inr (.inl (1, [.inr (some (some (n + 1))), .inr (some none), .inr (some none), .inr none]))] ++ tabD 8 1 (n + 1))) (n := n + 3) (by first | exact (List.append_assoc _ _ _).symm | simp) (aplen hn rfl) (clB_apm (m := n + 3) hcl hn rfl (all_app (by first | rfl | (simp [shB]) | (simp [shB]; omega)) (sb_tabD (by omega)))) (fun q hq => hz q (by omega))) mi_X6_init rfl ii_X6_init ml_X1_11 rfl ⟨Nat.le_of_ble_eq_true rfl, Nat.le_of_ble_eq_true rfl⟩ ⟨Nat.le_of_ble_eq_true rfl, Nat.le_of_ble_eq_true rfl⟩ rfl rfl (List.append_assoc _ _ _) (fun ad4 g4 => ?_)
  rw [← g4 n (by omega)]
  rw [← g4 (n + 3) (by omega)]
  have a4 : ∀ q, q ≤ n → ad4 q = ad q := fun q hq => (g4 q (by omega)).trans (a3 q hq)
  refine pw_putR dX1_init_30 (p := n) (S' := S1 ++ ([.inr (.inl (1, [.inr (some (some (n + 1))), .inr (some (some (n + 3))), .inr (some none), .inr none]))] ++ tabD 8 1 (n + 1) ++ tabD 8 16 (n + 3))) lo_X1_20 (fun _ _ _ _ h9 => h9) (apx (j := 0) hn rfl) (Nat.le_of_ble_eq_true rfl) rfl rfl (apset (j := 0) hn rfl) ?_
  refine pw_aload_n dX1_init_33 rfl ?_
  refine pw_new dX1_init_34 nw_X1_9 (n := n + 5) (S' := S1 ++ ([.inr (.inl (1, [.inr (some (some (n + 1))), .inr (some (some (n + 3))), .inr (some none), .inr none]))] ++ tabD 8 1 (n + 1) ++ tabD 8 16 (n + 3) ++ [.inr (.inl (6, [.inr none, .inr none, .inr (some none)]))])) (aplen hn rfl) (clB_apm (m := n + 5) hcl hn rfl (all_app (all_app (by first | rfl | (simp [shB]) | (simp [shB]; omega)) (sb_tabD (by omega))) (sb_tabD (by omega)))) (fun k => hz (n + 5) (by omega) k) ⟨Nat.le_of_ble_eq_true rfl, Nat.le_of_ble_eq_true rfl⟩ (List.append_assoc _ _ _) (fun ad5 g5 => ?_)
  rw [← g5 n (by omega)]
  have a5 : ∀ q, q ≤ n → ad5 q = ad q := fun q hq => (g5 q (by omega)).trans (a4 q hq)
  refine pw_dup dX1_init_37 rfl ?_
  refine pw_bipush dX1_init_38 (v := 8) (by decide) ?_
  refine pw_bipush dX1_init_40 (v := 16) (by decide) ?_
  refine pw_cI dX1_init_42 (b := n + 5) (S' := S1 ++ ([.inr (.inl (1, [.inr (some (some (n + 1))), .inr (some (some (n + 3))), .inr (some none), .inr none]))] ++ tabD 8 1 (n + 1) ++ tabD 8 16 (n + 3) ++ tabD 8 16 (n + 5))) (sp_X6_init (R := 8) (C := 16) (by decide) (by decide) (S1 := S1 ++ ([.inr (.inl (1, [.inr (some (some (n + 1))), .inr (some (some (n + 3))), .inr (some none), .inr none]))] ++ tabD 8 1 (n + 1) ++ tabD 8 16 (n + 3))) (n := n + 5) (by first | exact (List.append_assoc _ _ _).symm | simp) (aplen hn rfl) (clB_apm (m := n + 5) hcl hn rfl (all_app (all_app (by first | rfl | (simp [shB]) | (simp [shB]; omega)) (sb_tabD (by omega))) (sb_tabD (by omega)))) (fun q hq => hz q (by omega))) mi_X6_init rfl ii_X6_init ml_X1_11 rfl ⟨Nat.le_of_ble_eq_true rfl, Nat.le_of_ble_eq_true rfl⟩ ⟨Nat.le_of_ble_eq_true rfl, Nat.le_of_ble_eq_true rfl⟩ rfl rfl (List.append_assoc _ _ _) (fun ad6 g6 => ?_)
  rw [← g6 n (by omega)]
  rw [← g6 (n + 5) (by omega)]
  have a6 : ∀ q, q ≤ n → ad6 q = ad q := fun q hq => (g6 q (by omega)).trans (a5 q hq)
  refine pw_putR dX1_init_45 (p := n) (S' := S1 ++ ([.inr (.inl (1, [.inr (some (some (n + 1))), .inr (some (some (n + 3))), .inr (some (some (n + 5))), .inr none]))] ++ tabD 8 1 (n + 1) ++ tabD 8 16 (n + 3) ++ tabD 8 16 (n + 5))) lo_X1_23 (fun _ _ _ _ h9 => h9) (apx (j := 0) hn rfl) (Nat.le_of_ble_eq_true rfl) rfl rfl (apset (j := 0) hn rfl) ?_
  refine pw_aload_n dX1_init_48 rfl ?_
  refine pw_iconst dX1_init_49 (v := 0) (by decide) ?_
  refine pw_puti dX1_init_50 (p := n) lf_X1_26 lp_1_3 (apx (j := 0) hn rfl) rfl rfl rfl ?_
  refine pw_heq (hput_same (hz n (by omega) 3)) ?_
  exact pw_endC dX1_init_53 rfl (Nat.le_of_ble_eq_true rfl) (Nat.le_of_ble_eq_true rfl) rfl a6 rfl

set_option maxRecDepth 100000 in
set_option maxHeartbeats 4000000 in
theorem sp_X3_init {l : Launch} {G : GC} {ad : Nat → Nat} {S S1 : List Sh} {n : Nat} {h : HP} (hS : S = S1 ++ [.inr (.inl (3, [.inr (some none), .inr (some none), .inr none, .inr none, .inr none, .inr none]))]) (hn : S1.length = n) (hcl : clB S1 = true) (hz : ∀ q, n ≤ q → ∀ k, h q k = 0) : PM l G yX3_init (.code yX3_init cX3_init 1 ((Option.none : Option FieldType))) { frames := 2, cells := 3, slots := 51, locals := 44 } [.ref (ad n)] S ad h (gC n ad (S1 ++ inpD n) (inH n h)) gNo := by
  subst hS
  refine PM.mk (L0 := [some (.ref (ad n))]) RX3 "<init>" (3) (51) (by decide +kernel) rfl rfl ⟨rfl, rfl⟩ (by simp [Value.category]) (Nat.le_of_ble_eq_true rfl) rfl ?_
  refine pw_aload_n dX3_init_0 rfl ?_
  refine pw_objI dX3_init_1 oi_X3_3 ow_i ⟨Nat.le_of_ble_eq_true rfl, Nat.le_of_ble_eq_true rfl⟩ ?_
  refine pw_aload_n dX3_init_4 rfl ?_
  refine pw_bipush dX3_init_5 (v := 40) (by decide) ?_
  refine pw_newaC dX3_init_7 ar_C (n := n + 1) (S' := S1 ++ ([.inr (.inl (3, [.inr (some none), .inr (some none), .inr none, .inr none, .inr none, .inr none]))] ++ [.inl (1, 40)])) (nI_pos (n := 40) (by omega)) (nI_cl (n := 40) (by omega)) (by omega) (aplen hn rfl) (clB_apm (m := n + 1) hcl hn rfl (by first | rfl | (simp [shB]) | (simp [shB]; omega))) (fun k => hz (n + 1) (by omega) k) ⟨Nat.le_of_ble_eq_true rfl, Nat.le_of_ble_eq_true rfl⟩ (List.append_assoc _ _ _) (fun ad1 g1 => ?_)
  rw [← g1 n (by omega)]
  have a1 : ∀ q, q ≤ n → ad1 q = ad q := fun q hq => (g1 q (by omega)).trans (rfl)
  refine pw_putR dX3_init_9 (p := n) (S' := S1 ++ ([.inr (.inl (3, [.inr (some (some (n + 1))), .inr (some none), .inr none, .inr none, .inr none, .inr none]))] ++ [.inl (1, 40)])) lo_X3_9 (fun _ _ _ _ h9 => h9) (apx (j := 0) hn rfl) (Nat.le_of_ble_eq_true rfl) rfl rfl (apset (j := 0) hn rfl) ?_
  refine pw_aload_n dX3_init_12 rfl ?_
  refine pw_new dX3_init_13 nw_X3_15 (n := n + 2) (S' := S1 ++ ([.inr (.inl (3, [.inr (some (some (n + 1))), .inr (some none), .inr none, .inr none, .inr none, .inr none]))] ++ [.inl (1, 40)] ++ [.inr (.inl (6, [.inr none, .inr none, .inr (some none)]))])) (aplen hn rfl) (clB_apm (m := n + 2) hcl hn rfl (all_app (by first | rfl | (simp [shB]) | (simp [shB]; omega)) (by first | rfl | (simp [shB]) | (simp [shB]; omega)))) (fun k => hz (n + 2) (by omega) k) ⟨Nat.le_of_ble_eq_true rfl, Nat.le_of_ble_eq_true rfl⟩ (List.append_assoc _ _ _) (fun ad2 g2 => ?_)
  rw [← g2 n (by omega)]
  have a2 : ∀ q, q ≤ n → ad2 q = ad q := fun q hq => (g2 q (by omega)).trans (a1 q hq)
  refine pw_dup dX3_init_16 rfl ?_
  refine pw_iconst dX3_init_17 (v := 4) (by decide) ?_
  refine pw_iconst dX3_init_18 (v := 2) (by decide) ?_
  refine pw_cI dX3_init_19 (b := n + 2) (S' := S1 ++ ([.inr (.inl (3, [.inr (some (some (n + 1))), .inr (some none), .inr none, .inr none, .inr none, .inr none]))] ++ [.inl (1, 40)] ++ tabD 4 2 (n + 2))) (sp_X6_init (R := 4) (C := 2) (by decide) (by decide) (S1 := S1 ++ ([.inr (.inl (3, [.inr (some (some (n + 1))), .inr (some none), .inr none, .inr none, .inr none, .inr none]))] ++ [.inl (1, 40)])) (n := n + 2) (by first | exact (List.append_assoc _ _ _).symm | simp) (aplen hn rfl) (clB_apm (m := n + 2) hcl hn rfl (all_app (by first | rfl | (simp [shB]) | (simp [shB]; omega)) (by first | rfl | (simp [shB]) | (simp [shB]; omega)))) (fun q hq => hz q (by omega))) mi_X6_init rfl ii_X6_init ml_X3_17 rfl ⟨Nat.le_of_ble_eq_true rfl, Nat.le_of_ble_eq_true rfl⟩ ⟨Nat.le_of_ble_eq_true rfl, Nat.le_of_ble_eq_true rfl⟩ rfl rfl (List.append_assoc _ _ _) (fun ad3 g3 => ?_)
  rw [← g3 n (by omega)]
  rw [← g3 (n + 2) (by omega)]
  have a3 : ∀ q, q ≤ n → ad3 q = ad q := fun q hq => (g3 q (by omega)).trans (a2 q hq)
  refine pw_putR dX3_init_22 (p := n) (S' := S1 ++ ([.inr (.inl (3, [.inr (some (some (n + 1))), .inr (some (some (n + 2))), .inr none, .inr none, .inr none, .inr none]))] ++ [.inl (1, 40)] ++ tabD 4 2 (n + 2))) lo_X3_20 (fun _ _ _ _ h9 => h9) (apx (j := 0) hn rfl) (Nat.le_of_ble_eq_true rfl) rfl rfl (apset (j := 0) hn rfl) ?_
  refine pw_aload_n dX3_init_25 rfl ?_
  refine pw_iconst dX3_init_26 (v := 0) (by decide) ?_
  refine pw_puti dX3_init_27 (p := n) lf_X3_24 lp_3_2 (apx (j := 0) hn rfl) rfl rfl rfl ?_
  refine pw_heq (hput_same (hz n (by omega) 2)) ?_
  refine pw_aload_n dX3_init_30 rfl ?_
  refine pw_iconst dX3_init_31 (v := 0) (by decide) ?_
  refine pw_puti dX3_init_32 (p := n) lf_X3_28 lp_3_3 (apx (j := 0) hn rfl) rfl rfl rfl ?_
  refine pw_heq (hput_same (hz n (by omega) 3)) ?_
  refine pw_aload_n dX3_init_35 rfl ?_
  refine pw_iconst dX3_init_36 (v := 0) (by decide) ?_
  refine pw_puti dX3_init_37 (p := n) lf_X3_31 lp_3_4 (apx (j := 0) hn rfl) rfl rfl rfl ?_
  refine pw_heq (hput_same (hz n (by omega) 4)) ?_
  refine pw_aload_n dX3_init_40 rfl ?_
  refine pw_iconst dX3_init_41 (v := 1) (by decide) ?_
  refine pw_puti dX3_init_42 (p := n) lf_X3_34 lp_3_5 (apx (j := 0) hn rfl) rfl rfl rfl ?_
  have z1 : ∀ q, n + 4 ≤ q → ∀ k, hput (h) n 5 (1) q k = 0 := fun q hq k => by rw [hput_ne _ _ _ (by omega)]; exact hz q (by omega) k
  exact pw_endC dX3_init_45 rfl (Nat.le_of_ble_eq_true rfl) (Nat.le_of_ble_eq_true rfl) rfl a3 rfl
