/-! MAKERS -/
set_option maxRecDepth 100000 in
set_option maxHeartbeats 4000000 in
theorem sp_X2_init {l : Launch} {G : GC} {ad : Nat → Nat} {S S1 : List Sh} {n : Nat} {h : HP} (hS : S = S1 ++ [.inr (.inl (2, [.inr (some none), .inr none, .inr none]))]) (hn : S1.length = n) (hcl : clB S1 = true) (hz : ∀ q, n ≤ q → ∀ k, h q k = 0) : PMA l G yX2_init (.code yX2_init cX2_init 2 ((Option.none : Option FieldType))) { frames := 4, cells := 193, slots := 8512, locals := 84 } [.ref (ad n)] S ad h (gC n ad (S1 ++ hisD n) (hisH n h)) gNo := by
  subst hS
  refine PMA.mk (L0 := [some (.ref (ad n)), none]) RX2 "<init>" (193) (8512) (by decide +kernel) rfl rfl ⟨rfl, rfl⟩ (by simp [Value.category]) (Nat.le_of_ble_eq_true rfl) rfl ?_
  refine pw_aload_n dX2_init_0 rfl ?_
  refine pw_objI dX2_init_1 oi_X2_3 ow_i ⟨Nat.le_of_ble_eq_true rfl, Nat.le_of_ble_eq_true rfl⟩ ?_
  refine pw_aload_n dX2_init_4 rfl ?_
  refine pw_bipush dX2_init_5 (v := 8) (by decide) ?_
  refine pw_newq dX2_init_7 cl_X2_9 (fun _ _ _ _ h9 => h9.2) (n := n + 1) (S' := S1 ++ ([.inr (.inl (2, [.inr (some none), .inr none, .inr none]))] ++ [.inr (.inr (List.replicate 8 none))])) (by decide) (by decide) (by decide) (aplen hn rfl) (clB_apm (m := n + 1) hcl hn rfl (by first | rfl | (simp [shB]) | (simp [shB]; omega))) ⟨Nat.le_of_ble_eq_true rfl, Nat.le_of_ble_eq_true rfl⟩ (List.append_assoc _ _ _) (fun ad1 g1 => ?_)
  rw [← g1 n (by omega)]
  have a1 : ∀ q, q ≤ n → ad1 q = ad q := fun q hq => (g1 q (by omega)).trans (rfl)
  refine pw_seq (S' := S1 ++ ([.inr (.inl (2, [.inr (some none), .inr none, .inr none]))] ++ [.inr (.inr [none, none, none, none, none, none, none, none])])) rfl ?_
  refine pw_putR dX2_init_10 (p := n) (S' := S1 ++ ([.inr (.inl (2, [.inr (some (some (n + 1))), .inr none, .inr none]))] ++ [.inr (.inr [none, none, none, none, none, none, none, none])])) lo_X2_11 (fun _ _ _ _ h9 => h9.1) (apx (j := 0) hn rfl) (Nat.le_of_ble_eq_true rfl) rfl rfl (apset (j := 0) hn rfl) ?_
  refine pw_aload_n dX2_init_13 rfl ?_
  refine pw_iconst dX2_init_14 (v := 0) (by decide) ?_
  refine pw_puti dX2_init_15 (p := n) lf_X2_17 lp_2_1 (apx (j := 0) hn rfl) rfl rfl rfl ?_
  refine pw_heq (hput_same (hz n (by omega) 1)) ?_
  refine pw_aload_n dX2_init_18 rfl ?_
  refine pw_iconst dX2_init_19 (v := 0) (by decide) ?_
  refine pw_puti dX2_init_20 (p := n) lf_X2_21 lp_2_2 (apx (j := 0) hn rfl) rfl rfl rfl ?_
  refine pw_heq (hput_same (hz n (by omega) 2)) ?_
  refine pw_iconst dX2_init_23 (v := 0) (by decide) ?_
  refine pw_istore_n dX2_init_24 (by decide) rfl ?_
  refine pw_iload_n dX2_init_25 rfl ?_
  refine pw_aload_n dX2_init_26 rfl ?_
  refine pw_getr dX2_init_27 lf_X2_11 (p := n) (q := n + 1) (apx (j := 0) hn rfl) rfl ?_
  refine pw_alenR dX2_init_30 (p := n + 1) (apx (j := 1) hn rfl) ?_
  refine pw_icmp_ge dX2_init_31 (tgt := 53) (by decide) (fun c => absurd c (show ¬ (8 : Int32) ≤ 0 from by decide)) (fun _ => ?_)
  refine pw_aload_n dX2_init_34 rfl ?_
  refine pw_getr dX2_init_35 lf_X2_11 (p := n) (q := n + 1) (apx (j := 0) hn rfl) rfl ?_
  refine pw_iload_n dX2_init_38 rfl ?_
  refine pw_new dX2_init_39 nw_X2_9 (n := n + 2) (S' := S1 ++ ([.inr (.inl (2, [.inr (some (some (n + 1))), .inr none, .inr none]))] ++ [.inr (.inr [none, none, none, none, none, none, none, none])] ++ [.inr (.inl (5, [.inr (some none), .inr (some none), .inr (some none), .inr (some none)]))])) (aplen hn rfl) (clB_apm (m := n + 2) hcl hn rfl (all_app (by first | rfl | (simp [shB]) | (simp [shB]; omega)) (by first | rfl | (simp [shB]) | (simp [shB]; omega)))) (fun k => hz (n + 2) (by omega) k) ⟨Nat.le_of_ble_eq_true rfl, Nat.le_of_ble_eq_true rfl⟩ (List.append_assoc _ _ _) (fun ad2 g2 => ?_)
  rw [← g2 n (by omega)]
  rw [← g2 (n + 1) (by omega)]
  have a2 : ∀ q, q ≤ n → ad2 q = ad q := fun q hq => (g2 q (by omega)).trans (a1 q hq)
  refine pw_dup dX2_init_42 rfl ?_
  refine pw_cI dX2_init_43 (b := n + 2) (S' := S1 ++ ([.inr (.inl (2, [.inr (some (some (n + 1))), .inr none, .inr none]))] ++ [.inr (.inr [none, none, none, none, none, none, none, none])] ++ staD (n + 2))) (sp_X5_init (S1 := S1 ++ ([.inr (.inl (2, [.inr (some (some (n + 1))), .inr none, .inr none]))] ++ [.inr (.inr [none, none, none, none, none, none, none, none])])) (n := n + 2) (by first | exact (List.append_assoc _ _ _).symm | simp) (aplen hn rfl) (clB_apm (m := n + 2) hcl hn rfl (all_app (by first | rfl | (simp [shB]) | (simp [shB]; omega)) (by first | rfl | (simp [shB]) | (simp [shB]; omega)))) (fun q hq => hz q (by omega))) mi_X5_init rfl ii_X5_init ml_X2_24 rfl ⟨Nat.le_of_ble_eq_true rfl, Nat.le_of_ble_eq_true rfl⟩ ⟨Nat.le_of_ble_eq_true rfl, Nat.le_of_ble_eq_true rfl⟩ rfl rfl (List.append_assoc _ _ _) (fun ad3 g3 => ?_)
  rw [← g3 n (by omega)]
  rw [← g3 (n + 1) (by omega)]
  rw [← g3 (n + 2) (by omega)]
  have a3 : ∀ q, q ≤ n → ad3 q = ad q := fun q hq => (g3 q (by omega)).trans (a2 q hq)
  have z1 : ∀ q, n + 26 ≤ q → ∀ k, stH (n + 2) (h) q k = 0 := stH_z (n := n + 2) (fun q hq => hz q (by omega)) (by omega)
  refine pw_aast dX2_init_46 (p := n + 1) (q := n + 2) (k := 0) (S' := S1 ++ ([.inr (.inl (2, [.inr (some (some (n + 1))), .inr none, .inr none]))] ++ [.inr (.inr [some (n + 2), none, none, none, none, none, none, none])] ++ staD (n + 2))) (apx (j := 1) hn rfl) (apx (j := 2) hn rfl) (by decide) (show vp_in (nI 0) 8 from vpin (by decide) (by decide)) (apset (j := 1) hn rfl) ?_
  refine pw_iinc dX2_init_47 rfl (d := 1) (by decide) (by decide) rfl ?_
  refine pw_goto dX2_init_50 (tgt := 25) (by decide) ?_
  refine pw_iload_n dX2_init_25 rfl ?_
  refine pw_aload_n dX2_init_26 rfl ?_
  refine pw_getr dX2_init_27 lf_X2_11 (p := n) (q := n + 1) (apx (j := 0) hn rfl) rfl ?_
  refine pw_alenR dX2_init_30 (p := n + 1) (apx (j := 1) hn rfl) ?_
  refine pw_icmp_ge dX2_init_31 (tgt := 53) (by decide) (fun c => absurd c (show ¬ (8 : Int32) ≤ 1 from by decide)) (fun _ => ?_)
  refine pw_aload_n dX2_init_34 rfl ?_
  refine pw_getr dX2_init_35 lf_X2_11 (p := n) (q := n + 1) (apx (j := 0) hn rfl) rfl ?_
  refine pw_iload_n dX2_init_38 rfl ?_
  refine pw_new dX2_init_39 nw_X2_9 (n := n + 26) (S' := S1 ++ ([.inr (.inl (2, [.inr (some (some (n + 1))), .inr none, .inr none]))] ++ [.inr (.inr [some (n + 2), none, none, none, none, none, none, none])] ++ staD (n + 2) ++ [.inr (.inl (5, [.inr (some none), .inr (some none), .inr (some none), .inr (some none)]))])) (aplen hn rfl) (clB_apm (m := n + 26) hcl hn rfl (all_app (all_app (by first | rfl | (simp [shB]) | (simp [shB]; omega)) (by first | rfl | (simp [shB]) | (simp [shB]; omega))) (sb_staD (by omega)))) (fun k => z1 (n + 26) (by omega) k) ⟨Nat.le_of_ble_eq_true rfl, Nat.le_of_ble_eq_true rfl⟩ (List.append_assoc _ _ _) (fun ad4 g4 => ?_)
  rw [← g4 n (by omega)]
  rw [← g4 (n + 1) (by omega)]
  have a4 : ∀ q, q ≤ n → ad4 q = ad q := fun q hq => (g4 q (by omega)).trans (a3 q hq)
  refine pw_dup dX2_init_42 rfl ?_
  refine pw_cI dX2_init_43 (b := n + 26) (S' := S1 ++ ([.inr (.inl (2, [.inr (some (some (n + 1))), .inr none, .inr none]))] ++ [.inr (.inr [some (n + 2), none, none, none, none, none, none, none])] ++ staD (n + 2) ++ staD (n + 26))) (sp_X5_init (S1 := S1 ++ ([.inr (.inl (2, [.inr (some (some (n + 1))), .inr none, .inr none]))] ++ [.inr (.inr [some (n + 2), none, none, none, none, none, none, none])] ++ staD (n + 2))) (n := n + 26) (by first | exact (List.append_assoc _ _ _).symm | simp) (aplen hn rfl) (clB_apm (m := n + 26) hcl hn rfl (all_app (all_app (by first | rfl | (simp [shB]) | (simp [shB]; omega)) (by first | rfl | (simp [shB]) | (simp [shB]; omega))) (sb_staD (by omega)))) (fun q hq => z1 q (by omega))) mi_X5_init rfl ii_X5_init ml_X2_24 rfl ⟨Nat.le_of_ble_eq_true rfl, Nat.le_of_ble_eq_true rfl⟩ ⟨Nat.le_of_ble_eq_true rfl, Nat.le_of_ble_eq_true rfl⟩ rfl rfl (List.append_assoc _ _ _) (fun ad5 g5 => ?_)
  rw [← g5 n (by omega)]
  rw [← g5 (n + 1) (by omega)]
  rw [← g5 (n + 26) (by omega)]
  have a5 : ∀ q, q ≤ n → ad5 q = ad q := fun q hq => (g5 q (by omega)).trans (a4 q hq)
  have z2 : ∀ q, n + 50 ≤ q → ∀ k, stH (n + 26) (stH (n + 2) (h)) q k = 0 := stH_z (n := n + 26) (fun q hq => z1 q (by omega)) (by omega)
  refine pw_aast dX2_init_46 (p := n + 1) (q := n + 26) (k := 1) (S' := S1 ++ ([.inr (.inl (2, [.inr (some (some (n + 1))), .inr none, .inr none]))] ++ [.inr (.inr [some (n + 2), some (n + 26), none, none, none, none, none, none])] ++ staD (n + 2) ++ staD (n + 26))) (apx (j := 1) hn rfl) (apx (j := 26) hn rfl) (by decide) (show vp_in (nI 1) 8 from vpin (by decide) (by decide)) (apset (j := 1) hn rfl) ?_
  refine pw_iinc dX2_init_47 rfl (d := 1) (by decide) (by decide) rfl ?_
  refine pw_goto dX2_init_50 (tgt := 25) (by decide) ?_
  refine pw_iload_n dX2_init_25 rfl ?_
  refine pw_aload_n dX2_init_26 rfl ?_
  refine pw_getr dX2_init_27 lf_X2_11 (p := n) (q := n + 1) (apx (j := 0) hn rfl) rfl ?_
  refine pw_alenR dX2_init_30 (p := n + 1) (apx (j := 1) hn rfl) ?_
  refine pw_icmp_ge dX2_init_31 (tgt := 53) (by decide) (fun c => absurd c (show ¬ (8 : Int32) ≤ 2 from by decide)) (fun _ => ?_)
  refine pw_aload_n dX2_init_34 rfl ?_
  refine pw_getr dX2_init_35 lf_X2_11 (p := n) (q := n + 1) (apx (j := 0) hn rfl) rfl ?_
  refine pw_iload_n dX2_init_38 rfl ?_
  refine pw_new dX2_init_39 nw_X2_9 (n := n + 50) (S' := S1 ++ ([.inr (.inl (2, [.inr (some (some (n + 1))), .inr none, .inr none]))] ++ [.inr (.inr [some (n + 2), some (n + 26), none, none, none, none, none, none])] ++ staD (n + 2) ++ staD (n + 26) ++ [.inr (.inl (5, [.inr (some none), .inr (some none), .inr (some none), .inr (some none)]))])) (aplen hn rfl) (clB_apm (m := n + 50) hcl hn rfl (all_app (all_app (all_app (by first | rfl | (simp [shB]) | (simp [shB]; omega)) (by first | rfl | (simp [shB]) | (simp [shB]; omega))) (sb_staD (by omega))) (sb_staD (by omega)))) (fun k => z2 (n + 50) (by omega) k) ⟨Nat.le_of_ble_eq_true rfl, Nat.le_of_ble_eq_true rfl⟩ (List.append_assoc _ _ _) (fun ad6 g6 => ?_)
  rw [← g6 n (by omega)]
  rw [← g6 (n + 1) (by omega)]
  have a6 : ∀ q, q ≤ n → ad6 q = ad q := fun q hq => (g6 q (by omega)).trans (a5 q hq)
  refine pw_dup dX2_init_42 rfl ?_
  refine pw_cI dX2_init_43 (b := n + 50) (S' := S1 ++ ([.inr (.inl (2, [.inr (some (some (n + 1))), .inr none, .inr none]))] ++ [.inr (.inr [some (n + 2), some (n + 26), none, none, none, none, none, none])] ++ staD (n + 2) ++ staD (n + 26) ++ staD (n + 50))) (sp_X5_init (S1 := S1 ++ ([.inr (.inl (2, [.inr (some (some (n + 1))), .inr none, .inr none]))] ++ [.inr (.inr [some (n + 2), some (n + 26), none, none, none, none, none, none])] ++ staD (n + 2) ++ staD (n + 26))) (n := n + 50) (by first | exact (List.append_assoc _ _ _).symm | simp) (aplen hn rfl) (clB_apm (m := n + 50) hcl hn rfl (all_app (all_app (all_app (by first | rfl | (simp [shB]) | (simp [shB]; omega)) (by first | rfl | (simp [shB]) | (simp [shB]; omega))) (sb_staD (by omega))) (sb_staD (by omega)))) (fun q hq => z2 q (by omega))) mi_X5_init rfl ii_X5_init ml_X2_24 rfl ⟨Nat.le_of_ble_eq_true rfl, Nat.le_of_ble_eq_true rfl⟩ ⟨Nat.le_of_ble_eq_true rfl, Nat.le_of_ble_eq_true rfl⟩ rfl rfl (List.append_assoc _ _ _) (fun ad7 g7 => ?_)
  rw [← g7 n (by omega)]
  rw [← g7 (n + 1) (by omega)]
  rw [← g7 (n + 50) (by omega)]
  have a7 : ∀ q, q ≤ n → ad7 q = ad q := fun q hq => (g7 q (by omega)).trans (a6 q hq)
  have z3 : ∀ q, n + 74 ≤ q → ∀ k, stH (n + 50) (stH (n + 26) (stH (n + 2) (h))) q k = 0 := stH_z (n := n + 50) (fun q hq => z2 q (by omega)) (by omega)
  refine pw_aast dX2_init_46 (p := n + 1) (q := n + 50) (k := 2) (S' := S1 ++ ([.inr (.inl (2, [.inr (some (some (n + 1))), .inr none, .inr none]))] ++ [.inr (.inr [some (n + 2), some (n + 26), some (n + 50), none, none, none, none, none])] ++ staD (n + 2) ++ staD (n + 26) ++ staD (n + 50))) (apx (j := 1) hn rfl) (apx (j := 50) hn rfl) (by decide) (show vp_in (nI 2) 8 from vpin (by decide) (by decide)) (apset (j := 1) hn rfl) ?_
  refine pw_iinc dX2_init_47 rfl (d := 1) (by decide) (by decide) rfl ?_
  refine pw_goto dX2_init_50 (tgt := 25) (by decide) ?_
  refine pw_iload_n dX2_init_25 rfl ?_
  refine pw_aload_n dX2_init_26 rfl ?_
  refine pw_getr dX2_init_27 lf_X2_11 (p := n) (q := n + 1) (apx (j := 0) hn rfl) rfl ?_
  refine pw_alenR dX2_init_30 (p := n + 1) (apx (j := 1) hn rfl) ?_
  refine pw_icmp_ge dX2_init_31 (tgt := 53) (by decide) (fun c => absurd c (show ¬ (8 : Int32) ≤ 3 from by decide)) (fun _ => ?_)
  refine pw_aload_n dX2_init_34 rfl ?_
  refine pw_getr dX2_init_35 lf_X2_11 (p := n) (q := n + 1) (apx (j := 0) hn rfl) rfl ?_
  refine pw_iload_n dX2_init_38 rfl ?_
  refine pw_new dX2_init_39 nw_X2_9 (n := n + 74) (S' := S1 ++ ([.inr (.inl (2, [.inr (some (some (n + 1))), .inr none, .inr none]))] ++ [.inr (.inr [some (n + 2), some (n + 26), some (n + 50), none, none, none, none, none])] ++ staD (n + 2) ++ staD (n + 26) ++ staD (n + 50) ++ [.inr (.inl (5, [.inr (some none), .inr (some none), .inr (some none), .inr (some none)]))])) (aplen hn rfl) (clB_apm (m := n + 74) hcl hn rfl (all_app (all_app (all_app (all_app (by first | rfl | (simp [shB]) | (simp [shB]; omega)) (by first | rfl | (simp [shB]) | (simp [shB]; omega))) (sb_staD (by omega))) (sb_staD (by omega))) (sb_staD (by omega)))) (fun k => z3 (n + 74) (by omega) k) ⟨Nat.le_of_ble_eq_true rfl, Nat.le_of_ble_eq_true rfl⟩ (List.append_assoc _ _ _) (fun ad8 g8 => ?_)
  rw [← g8 n (by omega)]
  rw [← g8 (n + 1) (by omega)]
  have a8 : ∀ q, q ≤ n → ad8 q = ad q := fun q hq => (g8 q (by omega)).trans (a7 q hq)
  refine pw_dup dX2_init_42 rfl ?_
  refine pw_cI dX2_init_43 (b := n + 74) (S' := S1 ++ ([.inr (.inl (2, [.inr (some (some (n + 1))), .inr none, .inr none]))] ++ [.inr (.inr [some (n + 2), some (n + 26), some (n + 50), none, none, none, none, none])] ++ staD (n + 2) ++ staD (n + 26) ++ staD (n + 50) ++ staD (n + 74))) (sp_X5_init (S1 := S1 ++ ([.inr (.inl (2, [.inr (some (some (n + 1))), .inr none, .inr none]))] ++ [.inr (.inr [some (n + 2), some (n + 26), some (n + 50), none, none, none, none, none])] ++ staD (n + 2) ++ staD (n + 26) ++ staD (n + 50))) (n := n + 74) (by first | exact (List.append_assoc _ _ _).symm | simp) (aplen hn rfl) (clB_apm (m := n + 74) hcl hn rfl (all_app (all_app (all_app (all_app (by first | rfl | (simp [shB]) | (simp [shB]; omega)) (by first | rfl | (simp [shB]) | (simp [shB]; omega))) (sb_staD (by omega))) (sb_staD (by omega))) (sb_staD (by omega)))) (fun q hq => z3 q (by omega))) mi_X5_init rfl ii_X5_init ml_X2_24 rfl ⟨Nat.le_of_ble_eq_true rfl, Nat.le_of_ble_eq_true rfl⟩ ⟨Nat.le_of_ble_eq_true rfl, Nat.le_of_ble_eq_true rfl⟩ rfl rfl (List.append_assoc _ _ _) (fun ad9 g9 => ?_)
  rw [← g9 n (by omega)]
  rw [← g9 (n + 1) (by omega)]
  rw [← g9 (n + 74) (by omega)]
  have a9 : ∀ q, q ≤ n → ad9 q = ad q := fun q hq => (g9 q (by omega)).trans (a8 q hq)
  have z4 : ∀ q, n + 98 ≤ q → ∀ k, stH (n + 74) (stH (n + 50) (stH (n + 26) (stH (n + 2) (h)))) q k = 0 := stH_z (n := n + 74) (fun q hq => z3 q (by omega)) (by omega)
  refine pw_aast dX2_init_46 (p := n + 1) (q := n + 74) (k := 3) (S' := S1 ++ ([.inr (.inl (2, [.inr (some (some (n + 1))), .inr none, .inr none]))] ++ [.inr (.inr [some (n + 2), some (n + 26), some (n + 50), some (n + 74), none, none, none, none])] ++ staD (n + 2) ++ staD (n + 26) ++ staD (n + 50) ++ staD (n + 74))) (apx (j := 1) hn rfl) (apx (j := 74) hn rfl) (by decide) (show vp_in (nI 3) 8 from vpin (by decide) (by decide)) (apset (j := 1) hn rfl) ?_
  refine pw_iinc dX2_init_47 rfl (d := 1) (by decide) (by decide) rfl ?_
  refine pw_goto dX2_init_50 (tgt := 25) (by decide) ?_
  refine pw_iload_n dX2_init_25 rfl ?_
  refine pw_aload_n dX2_init_26 rfl ?_
  refine pw_getr dX2_init_27 lf_X2_11 (p := n) (q := n + 1) (apx (j := 0) hn rfl) rfl ?_
  refine pw_alenR dX2_init_30 (p := n + 1) (apx (j := 1) hn rfl) ?_
  refine pw_icmp_ge dX2_init_31 (tgt := 53) (by decide) (fun c => absurd c (show ¬ (8 : Int32) ≤ 4 from by decide)) (fun _ => ?_)
  refine pw_aload_n dX2_init_34 rfl ?_
  refine pw_getr dX2_init_35 lf_X2_11 (p := n) (q := n + 1) (apx (j := 0) hn rfl) rfl ?_
  refine pw_iload_n dX2_init_38 rfl ?_
  refine pw_new dX2_init_39 nw_X2_9 (n := n + 98) (S' := S1 ++ ([.inr (.inl (2, [.inr (some (some (n + 1))), .inr none, .inr none]))] ++ [.inr (.inr [some (n + 2), some (n + 26), some (n + 50), some (n + 74), none, none, none, none])] ++ staD (n + 2) ++ staD (n + 26) ++ staD (n + 50) ++ staD (n + 74) ++ [.inr (.inl (5, [.inr (some none), .inr (some none), .inr (some none), .inr (some none)]))])) (aplen hn rfl) (clB_apm (m := n + 98) hcl hn rfl (all_app (all_app (all_app (all_app (all_app (by first | rfl | (simp [shB]) | (simp [shB]; omega)) (by first | rfl | (simp [shB]) | (simp [shB]; omega))) (sb_staD (by omega))) (sb_staD (by omega))) (sb_staD (by omega))) (sb_staD (by omega)))) (fun k => z4 (n + 98) (by omega) k) ⟨Nat.le_of_ble_eq_true rfl, Nat.le_of_ble_eq_true rfl⟩ (List.append_assoc _ _ _) (fun ad10 g10 => ?_)
  rw [← g10 n (by omega)]
  rw [← g10 (n + 1) (by omega)]
  have a10 : ∀ q, q ≤ n → ad10 q = ad q := fun q hq => (g10 q (by omega)).trans (a9 q hq)
  refine pw_dup dX2_init_42 rfl ?_
  refine pw_cI dX2_init_43 (b := n + 98) (S' := S1 ++ ([.inr (.inl (2, [.inr (some (some (n + 1))), .inr none, .inr none]))] ++ [.inr (.inr [some (n + 2), some (n + 26), some (n + 50), some (n + 74), none, none, none, none])] ++ staD (n + 2) ++ staD (n + 26) ++ staD (n + 50) ++ staD (n + 74) ++ staD (n + 98))) (sp_X5_init (S1 := S1 ++ ([.inr (.inl (2, [.inr (some (some (n + 1))), .inr none, .inr none]))] ++ [.inr (.inr [some (n + 2), some (n + 26), some (n + 50), some (n + 74), none, none, none, none])] ++ staD (n + 2) ++ staD (n + 26) ++ staD (n + 50) ++ staD (n + 74))) (n := n + 98) (by first | exact (List.append_assoc _ _ _).symm | simp) (aplen hn rfl) (clB_apm (m := n + 98) hcl hn rfl (all_app (all_app (all_app (all_app (all_app (by first | rfl | (simp [shB]) | (simp [shB]; omega)) (by first | rfl | (simp [shB]) | (simp [shB]; omega))) (sb_staD (by omega))) (sb_staD (by omega))) (sb_staD (by omega))) (sb_staD (by omega)))) (fun q hq => z4 q (by omega))) mi_X5_init rfl ii_X5_init ml_X2_24 rfl ⟨Nat.le_of_ble_eq_true rfl, Nat.le_of_ble_eq_true rfl⟩ ⟨Nat.le_of_ble_eq_true rfl, Nat.le_of_ble_eq_true rfl⟩ rfl rfl (List.append_assoc _ _ _) (fun ad11 g11 => ?_)
  rw [← g11 n (by omega)]
  rw [← g11 (n + 1) (by omega)]
  rw [← g11 (n + 98) (by omega)]
  have a11 : ∀ q, q ≤ n → ad11 q = ad q := fun q hq => (g11 q (by omega)).trans (a10 q hq)
  have z5 : ∀ q, n + 122 ≤ q → ∀ k, stH (n + 98) (stH (n + 74) (stH (n + 50) (stH (n + 26) (stH (n + 2) (h))))) q k = 0 := stH_z (n := n + 98) (fun q hq => z4 q (by omega)) (by omega)
  refine pw_aast dX2_init_46 (p := n + 1) (q := n + 98) (k := 4) (S' := S1 ++ ([.inr (.inl (2, [.inr (some (some (n + 1))), .inr none, .inr none]))] ++ [.inr (.inr [some (n + 2), some (n + 26), some (n + 50), some (n + 74), some (n + 98), none, none, none])] ++ staD (n + 2) ++ staD (n + 26) ++ staD (n + 50) ++ staD (n + 74) ++ staD (n + 98))) (apx (j := 1) hn rfl) (apx (j := 98) hn rfl) (by decide) (show vp_in (nI 4) 8 from vpin (by decide) (by decide)) (apset (j := 1) hn rfl) ?_
  refine pw_iinc dX2_init_47 rfl (d := 1) (by decide) (by decide) rfl ?_
  refine pw_goto dX2_init_50 (tgt := 25) (by decide) ?_
  refine pw_iload_n dX2_init_25 rfl ?_
  refine pw_aload_n dX2_init_26 rfl ?_
  refine pw_getr dX2_init_27 lf_X2_11 (p := n) (q := n + 1) (apx (j := 0) hn rfl) rfl ?_
  refine pw_alenR dX2_init_30 (p := n + 1) (apx (j := 1) hn rfl) ?_
  refine pw_icmp_ge dX2_init_31 (tgt := 53) (by decide) (fun c => absurd c (show ¬ (8 : Int32) ≤ 5 from by decide)) (fun _ => ?_)
  refine pw_aload_n dX2_init_34 rfl ?_
  refine pw_getr dX2_init_35 lf_X2_11 (p := n) (q := n + 1) (apx (j := 0) hn rfl) rfl ?_
  refine pw_iload_n dX2_init_38 rfl ?_
  refine pw_new dX2_init_39 nw_X2_9 (n := n + 122) (S' := S1 ++ ([.inr (.inl (2, [.inr (some (some (n + 1))), .inr none, .inr none]))] ++ [.inr (.inr [some (n + 2), some (n + 26), some (n + 50), some (n + 74), some (n + 98), none, none, none])] ++ staD (n + 2) ++ staD (n + 26) ++ staD (n + 50) ++ staD (n + 74) ++ staD (n + 98) ++ [.inr (.inl (5, [.inr (some none), .inr (some none), .inr (some none), .inr (some none)]))])) (aplen hn rfl) (clB_apm (m := n + 122) hcl hn rfl (all_app (all_app (all_app (all_app (all_app (all_app (by first | rfl | (simp [shB]) | (simp [shB]; omega)) (by first | rfl | (simp [shB]) | (simp [shB]; omega))) (sb_staD (by omega))) (sb_staD (by omega))) (sb_staD (by omega))) (sb_staD (by omega))) (sb_staD (by omega)))) (fun k => z5 (n + 122) (by omega) k) ⟨Nat.le_of_ble_eq_true rfl, Nat.le_of_ble_eq_true rfl⟩ (List.append_assoc _ _ _) (fun ad12 g12 => ?_)
  rw [← g12 n (by omega)]
  rw [← g12 (n + 1) (by omega)]
  have a12 : ∀ q, q ≤ n → ad12 q = ad q := fun q hq => (g12 q (by omega)).trans (a11 q hq)
  refine pw_dup dX2_init_42 rfl ?_
  refine pw_cI dX2_init_43 (b := n + 122) (S' := S1 ++ ([.inr (.inl (2, [.inr (some (some (n + 1))), .inr none, .inr none]))] ++ [.inr (.inr [some (n + 2), some (n + 26), some (n + 50), some (n + 74), some (n + 98), none, none, none])] ++ staD (n + 2) ++ staD (n + 26) ++ staD (n + 50) ++ staD (n + 74) ++ staD (n + 98) ++ staD (n + 122))) (sp_X5_init (S1 := S1 ++ ([.inr (.inl (2, [.inr (some (some (n + 1))), .inr none, .inr none]))] ++ [.inr (.inr [some (n + 2), some (n + 26), some (n + 50), some (n + 74), some (n + 98), none, none, none])] ++ staD (n + 2) ++ staD (n + 26) ++ staD (n + 50) ++ staD (n + 74) ++ staD (n + 98))) (n := n + 122) (by first | exact (List.append_assoc _ _ _).symm | simp) (aplen hn rfl) (clB_apm (m := n + 122) hcl hn rfl (all_app (all_app (all_app (all_app (all_app (all_app (by first | rfl | (simp [shB]) | (simp [shB]; omega)) (by first | rfl | (simp [shB]) | (simp [shB]; omega))) (sb_staD (by omega))) (sb_staD (by omega))) (sb_staD (by omega))) (sb_staD (by omega))) (sb_staD (by omega)))) (fun q hq => z5 q (by omega))) mi_X5_init rfl ii_X5_init ml_X2_24 rfl ⟨Nat.le_of_ble_eq_true rfl, Nat.le_of_ble_eq_true rfl⟩ ⟨Nat.le_of_ble_eq_true rfl, Nat.le_of_ble_eq_true rfl⟩ rfl rfl (List.append_assoc _ _ _) (fun ad13 g13 => ?_)
  rw [← g13 n (by omega)]
  rw [← g13 (n + 1) (by omega)]
  rw [← g13 (n + 122) (by omega)]
  have a13 : ∀ q, q ≤ n → ad13 q = ad q := fun q hq => (g13 q (by omega)).trans (a12 q hq)
  have z6 : ∀ q, n + 146 ≤ q → ∀ k, stH (n + 122) (stH (n + 98) (stH (n + 74) (stH (n + 50) (stH (n + 26) (stH (n + 2) (h)))))) q k = 0 := stH_z (n := n + 122) (fun q hq => z5 q (by omega)) (by omega)
  refine pw_aast dX2_init_46 (p := n + 1) (q := n + 122) (k := 5) (S' := S1 ++ ([.inr (.inl (2, [.inr (some (some (n + 1))), .inr none, .inr none]))] ++ [.inr (.inr [some (n + 2), some (n + 26), some (n + 50), some (n + 74), some (n + 98), some (n + 122), none, none])] ++ staD (n + 2) ++ staD (n + 26) ++ staD (n + 50) ++ staD (n + 74) ++ staD (n + 98) ++ staD (n + 122))) (apx (j := 1) hn rfl) (apx (j := 122) hn rfl) (by decide) (show vp_in (nI 5) 8 from vpin (by decide) (by decide)) (apset (j := 1) hn rfl) ?_
  refine pw_iinc dX2_init_47 rfl (d := 1) (by decide) (by decide) rfl ?_
  refine pw_goto dX2_init_50 (tgt := 25) (by decide) ?_
  refine pw_iload_n dX2_init_25 rfl ?_
  refine pw_aload_n dX2_init_26 rfl ?_
  refine pw_getr dX2_init_27 lf_X2_11 (p := n) (q := n + 1) (apx (j := 0) hn rfl) rfl ?_
  refine pw_alenR dX2_init_30 (p := n + 1) (apx (j := 1) hn rfl) ?_
  refine pw_icmp_ge dX2_init_31 (tgt := 53) (by decide) (fun c => absurd c (show ¬ (8 : Int32) ≤ 6 from by decide)) (fun _ => ?_)
  refine pw_aload_n dX2_init_34 rfl ?_
  refine pw_getr dX2_init_35 lf_X2_11 (p := n) (q := n + 1) (apx (j := 0) hn rfl) rfl ?_
  refine pw_iload_n dX2_init_38 rfl ?_
  refine pw_new dX2_init_39 nw_X2_9 (n := n + 146) (S' := S1 ++ ([.inr (.inl (2, [.inr (some (some (n + 1))), .inr none, .inr none]))] ++ [.inr (.inr [some (n + 2), some (n + 26), some (n + 50), some (n + 74), some (n + 98), some (n + 122), none, none])] ++ staD (n + 2) ++ staD (n + 26) ++ staD (n + 50) ++ staD (n + 74) ++ staD (n + 98) ++ staD (n + 122) ++ [.inr (.inl (5, [.inr (some none), .inr (some none), .inr (some none), .inr (some none)]))])) (aplen hn rfl) (clB_apm (m := n + 146) hcl hn rfl (all_app (all_app (all_app (all_app (all_app (all_app (all_app (by first | rfl | (simp [shB]) | (simp [shB]; omega)) (by first | rfl | (simp [shB]) | (simp [shB]; omega))) (sb_staD (by omega))) (sb_staD (by omega))) (sb_staD (by omega))) (sb_staD (by omega))) (sb_staD (by omega))) (sb_staD (by omega)))) (fun k => z6 (n + 146) (by omega) k) ⟨Nat.le_of_ble_eq_true rfl, Nat.le_of_ble_eq_true rfl⟩ (List.append_assoc _ _ _) (fun ad14 g14 => ?_)
  rw [← g14 n (by omega)]
  rw [← g14 (n + 1) (by omega)]
  have a14 : ∀ q, q ≤ n → ad14 q = ad q := fun q hq => (g14 q (by omega)).trans (a13 q hq)
  refine pw_dup dX2_init_42 rfl ?_
  refine pw_cI dX2_init_43 (b := n + 146) (S' := S1 ++ ([.inr (.inl (2, [.inr (some (some (n + 1))), .inr none, .inr none]))] ++ [.inr (.inr [some (n + 2), some (n + 26), some (n + 50), some (n + 74), some (n + 98), some (n + 122), none, none])] ++ staD (n + 2) ++ staD (n + 26) ++ staD (n + 50) ++ staD (n + 74) ++ staD (n + 98) ++ staD (n + 122) ++ staD (n + 146))) (sp_X5_init (S1 := S1 ++ ([.inr (.inl (2, [.inr (some (some (n + 1))), .inr none, .inr none]))] ++ [.inr (.inr [some (n + 2), some (n + 26), some (n + 50), some (n + 74), some (n + 98), some (n + 122), none, none])] ++ staD (n + 2) ++ staD (n + 26) ++ staD (n + 50) ++ staD (n + 74) ++ staD (n + 98) ++ staD (n + 122))) (n := n + 146) (by first | exact (List.append_assoc _ _ _).symm | simp) (aplen hn rfl) (clB_apm (m := n + 146) hcl hn rfl (all_app (all_app (all_app (all_app (all_app (all_app (all_app (by first | rfl | (simp [shB]) | (simp [shB]; omega)) (by first | rfl | (simp [shB]) | (simp [shB]; omega))) (sb_staD (by omega))) (sb_staD (by omega))) (sb_staD (by omega))) (sb_staD (by omega))) (sb_staD (by omega))) (sb_staD (by omega)))) (fun q hq => z6 q (by omega))) mi_X5_init rfl ii_X5_init ml_X2_24 rfl ⟨Nat.le_of_ble_eq_true rfl, Nat.le_of_ble_eq_true rfl⟩ ⟨Nat.le_of_ble_eq_true rfl, Nat.le_of_ble_eq_true rfl⟩ rfl rfl (List.append_assoc _ _ _) (fun ad15 g15 => ?_)
  rw [← g15 n (by omega)]
  rw [← g15 (n + 1) (by omega)]
  rw [← g15 (n + 146) (by omega)]
  have a15 : ∀ q, q ≤ n → ad15 q = ad q := fun q hq => (g15 q (by omega)).trans (a14 q hq)
  have z7 : ∀ q, n + 170 ≤ q → ∀ k, stH (n + 146) (stH (n + 122) (stH (n + 98) (stH (n + 74) (stH (n + 50) (stH (n + 26) (stH (n + 2) (h))))))) q k = 0 := stH_z (n := n + 146) (fun q hq => z6 q (by omega)) (by omega)
  refine pw_aast dX2_init_46 (p := n + 1) (q := n + 146) (k := 6) (S' := S1 ++ ([.inr (.inl (2, [.inr (some (some (n + 1))), .inr none, .inr none]))] ++ [.inr (.inr [some (n + 2), some (n + 26), some (n + 50), some (n + 74), some (n + 98), some (n + 122), some (n + 146), none])] ++ staD (n + 2) ++ staD (n + 26) ++ staD (n + 50) ++ staD (n + 74) ++ staD (n + 98) ++ staD (n + 122) ++ staD (n + 146))) (apx (j := 1) hn rfl) (apx (j := 146) hn rfl) (by decide) (show vp_in (nI 6) 8 from vpin (by decide) (by decide)) (apset (j := 1) hn rfl) ?_
  refine pw_iinc dX2_init_47 rfl (d := 1) (by decide) (by decide) rfl ?_
  refine pw_goto dX2_init_50 (tgt := 25) (by decide) ?_
  refine pw_iload_n dX2_init_25 rfl ?_
  refine pw_aload_n dX2_init_26 rfl ?_
  refine pw_getr dX2_init_27 lf_X2_11 (p := n) (q := n + 1) (apx (j := 0) hn rfl) rfl ?_
  refine pw_alenR dX2_init_30 (p := n + 1) (apx (j := 1) hn rfl) ?_
  refine pw_icmp_ge dX2_init_31 (tgt := 53) (by decide) (fun c => absurd c (show ¬ (8 : Int32) ≤ 7 from by decide)) (fun _ => ?_)
  refine pw_aload_n dX2_init_34 rfl ?_
  refine pw_getr dX2_init_35 lf_X2_11 (p := n) (q := n + 1) (apx (j := 0) hn rfl) rfl ?_
  refine pw_iload_n dX2_init_38 rfl ?_
  refine pw_new dX2_init_39 nw_X2_9 (n := n + 170) (S' := S1 ++ ([.inr (.inl (2, [.inr (some (some (n + 1))), .inr none, .inr none]))] ++ [.inr (.inr [some (n + 2), some (n + 26), some (n + 50), some (n + 74), some (n + 98), some (n + 122), some (n + 146), none])] ++ staD (n + 2) ++ staD (n + 26) ++ staD (n + 50) ++ staD (n + 74) ++ staD (n + 98) ++ staD (n + 122) ++ staD (n + 146) ++ [.inr (.inl (5, [.inr (some none), .inr (some none), .inr (some none), .inr (some none)]))])) (aplen hn rfl) (clB_apm (m := n + 170) hcl hn rfl (all_app (all_app (all_app (all_app (all_app (all_app (all_app (all_app (by first | rfl | (simp [shB]) | (simp [shB]; omega)) (by first | rfl | (simp [shB]) | (simp [shB]; omega))) (sb_staD (by omega))) (sb_staD (by omega))) (sb_staD (by omega))) (sb_staD (by omega))) (sb_staD (by omega))) (sb_staD (by omega))) (sb_staD (by omega)))) (fun k => z7 (n + 170) (by omega) k) ⟨Nat.le_of_ble_eq_true rfl, Nat.le_of_ble_eq_true rfl⟩ (List.append_assoc _ _ _) (fun ad16 g16 => ?_)
  rw [← g16 n (by omega)]
  rw [← g16 (n + 1) (by omega)]
  have a16 : ∀ q, q ≤ n → ad16 q = ad q := fun q hq => (g16 q (by omega)).trans (a15 q hq)
  refine pw_dup dX2_init_42 rfl ?_
  refine pw_cI dX2_init_43 (b := n + 170) (S' := S1 ++ ([.inr (.inl (2, [.inr (some (some (n + 1))), .inr none, .inr none]))] ++ [.inr (.inr [some (n + 2), some (n + 26), some (n + 50), some (n + 74), some (n + 98), some (n + 122), some (n + 146), none])] ++ staD (n + 2) ++ staD (n + 26) ++ staD (n + 50) ++ staD (n + 74) ++ staD (n + 98) ++ staD (n + 122) ++ staD (n + 146) ++ staD (n + 170))) (sp_X5_init (S1 := S1 ++ ([.inr (.inl (2, [.inr (some (some (n + 1))), .inr none, .inr none]))] ++ [.inr (.inr [some (n + 2), some (n + 26), some (n + 50), some (n + 74), some (n + 98), some (n + 122), some (n + 146), none])] ++ staD (n + 2) ++ staD (n + 26) ++ staD (n + 50) ++ staD (n + 74) ++ staD (n + 98) ++ staD (n + 122) ++ staD (n + 146))) (n := n + 170) (by first | exact (List.append_assoc _ _ _).symm | simp) (aplen hn rfl) (clB_apm (m := n + 170) hcl hn rfl (all_app (all_app (all_app (all_app (all_app (all_app (all_app (all_app (by first | rfl | (simp [shB]) | (simp [shB]; omega)) (by first | rfl | (simp [shB]) | (simp [shB]; omega))) (sb_staD (by omega))) (sb_staD (by omega))) (sb_staD (by omega))) (sb_staD (by omega))) (sb_staD (by omega))) (sb_staD (by omega))) (sb_staD (by omega)))) (fun q hq => z7 q (by omega))) mi_X5_init rfl ii_X5_init ml_X2_24 rfl ⟨Nat.le_of_ble_eq_true rfl, Nat.le_of_ble_eq_true rfl⟩ ⟨Nat.le_of_ble_eq_true rfl, Nat.le_of_ble_eq_true rfl⟩ rfl rfl (List.append_assoc _ _ _) (fun ad17 g17 => ?_)
  rw [← g17 n (by omega)]
  rw [← g17 (n + 1) (by omega)]
  rw [← g17 (n + 170) (by omega)]
  have a17 : ∀ q, q ≤ n → ad17 q = ad q := fun q hq => (g17 q (by omega)).trans (a16 q hq)
  have z8 : ∀ q, n + 194 ≤ q → ∀ k, stH (n + 170) (stH (n + 146) (stH (n + 122) (stH (n + 98) (stH (n + 74) (stH (n + 50) (stH (n + 26) (stH (n + 2) (h)))))))) q k = 0 := stH_z (n := n + 170) (fun q hq => z7 q (by omega)) (by omega)
  refine pw_aast dX2_init_46 (p := n + 1) (q := n + 170) (k := 7) (S' := S1 ++ ([.inr (.inl (2, [.inr (some (some (n + 1))), .inr none, .inr none]))] ++ [.inr (.inr [some (n + 2), some (n + 26), some (n + 50), some (n + 74), some (n + 98), some (n + 122), some (n + 146), some (n + 170)])] ++ staD (n + 2) ++ staD (n + 26) ++ staD (n + 50) ++ staD (n + 74) ++ staD (n + 98) ++ staD (n + 122) ++ staD (n + 146) ++ staD (n + 170))) (apx (j := 1) hn rfl) (apx (j := 170) hn rfl) (by decide) (show vp_in (nI 7) 8 from vpin (by decide) (by decide)) (apset (j := 1) hn rfl) ?_
  refine pw_iinc dX2_init_47 rfl (d := 1) (by decide) (by decide) rfl ?_
  refine pw_goto dX2_init_50 (tgt := 25) (by decide) ?_
  refine pw_iload_n dX2_init_25 rfl ?_
  refine pw_aload_n dX2_init_26 rfl ?_
  refine pw_getr dX2_init_27 lf_X2_11 (p := n) (q := n + 1) (apx (j := 0) hn rfl) rfl ?_
  refine pw_alenR dX2_init_30 (p := n + 1) (apx (j := 1) hn rfl) ?_
  refine pw_icmp_ge dX2_init_31 (tgt := 53) (by decide) (fun _ => ?_) (fun c => absurd (show (8 : Int32) ≤ 8 from by decide) c)
  exact pw_endC dX2_init_53 rfl (Nat.le_of_ble_eq_true rfl) (Nat.le_of_ble_eq_true rfl) rfl a17 rfl
