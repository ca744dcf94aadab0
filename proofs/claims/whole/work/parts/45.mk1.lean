/-! MAKERS -/
set_option maxRecDepth 100000 in
set_option maxHeartbeats 4000000 in
theorem sp_X6_init {l : Launch} {G : GC} {ad : Nat → Nat} {S S1 : List Sh} {n : Nat} {R C : Nat} (hR9 : R < 1000) (hC9 : C < 1000) {h : HP} (hS : S = S1 ++ [.inr (.inl (6, [.inr none, .inr none, .inr (some none)]))]) (hn : S1.length = n) (hcl : clB S1 = true) (hz : ∀ q, n ≤ q → ∀ k, h q k = 0) : PM l G yX6_init (.code yX6_init cX6_init 3 ((Option.none : Option FieldType))) { frames := 1, cells := 1, slots := R * C, locals := 22 } [.ref (ad n), .int (nI R), .int (nI C)] S ad h (gC n ad (S1 ++ tabD R C n) (h)) gNo := by
  subst hS
  refine PM.mk (L0 := [some (.ref (ad n)), some (.int (nI R)), some (.int (nI C))]) RX6 "<init>" (1) (R * C) (by decide +kernel) rfl rfl ⟨rfl, rfl⟩ (by simp [Value.category]) (Nat.le_of_ble_eq_true rfl) rfl ?_
  refine pw_aload_n dX6_init_0 rfl ?_
  refine pw_objI dX6_init_1 oi_X6_3 ow_i ⟨Nat.le_of_ble_eq_true rfl, Nat.le_of_ble_eq_true rfl⟩ ?_
  refine pw_aload_n dX6_init_4 rfl ?_
  refine pw_iload_n dX6_init_5 rfl ?_
  refine pw_putC dX6_init_6 (p := n) (S' := S1 ++ ([.inr (.inl (6, [.inl (nI R), .inr none, .inr (some none)]))])) lo_X6_9 (fun _ _ _ _ h9 => h9) (apx (j := 0) hn rfl) (Nat.le_of_ble_eq_true rfl) rfl rfl (apset (j := 0) hn rfl) ?_
  refine pw_aload_n dX6_init_9 rfl ?_
  refine pw_iload_n dX6_init_10 rfl ?_
  refine pw_putC dX6_init_11 (p := n) (S' := S1 ++ ([.inr (.inl (6, [.inl (nI R), .inl (nI C), .inr (some none)]))])) lo_X6_15 (fun _ _ _ _ h9 => h9) (apx (j := 0) hn rfl) (Nat.le_of_ble_eq_true rfl) rfl rfl (apset (j := 0) hn rfl) ?_
  refine pw_aload_n dX6_init_14 rfl ?_
  refine pw_iconst dX6_init_15 (v := 0) (by decide) ?_
  refine pw_iload_n dX6_init_16 rfl ?_
  refine pw_iload_n dX6_init_17 rfl ?_
  refine pw_imul dX6_init_18 ?_
  rw [pk_mul]
  refine pw_max dX6_init_19 mm_X6_18 mw_max ⟨Nat.le_of_ble_eq_true rfl, Nat.le_of_ble_eq_true rfl, Nat.le_of_ble_eq_true rfl, Nat.zero_le _⟩ ?_
  have hRC := tab_sz hR9 hC9
  rw [nI_max0 (by omega)]
  refine pw_newaI dX6_init_22 ar_I (n := n + 1) (S' := S1 ++ ([.inr (.inl (6, [.inl (nI R), .inl (nI C), .inr (some none)]))] ++ [.inl (0, R * C)])) (nI_pos (n := R * C) (by omega)) (nI_cl (show R * C < 2147483648 by omega)) (by omega) (aplen hn rfl) (clB_apm (m := n + 1) hcl hn rfl (by first | rfl | (simp [shB]) | (simp [shB]; omega))) (fun k => hz (n + 1) (by omega) k) ⟨Nat.le_of_ble_eq_true rfl, Nat.le_of_eq (Nat.zero_add _)⟩ (List.append_assoc _ _ _) (fun ad1 g1 => ?_)
  rw [← g1 n (by omega)]
  have a1 : ∀ q, q ≤ n → ad1 q = ad q := fun q hq => (g1 q (by omega)).trans (rfl)
  refine pw_putR dX6_init_24 (p := n) (S' := S1 ++ ([.inr (.inl (6, [.inl (nI R), .inl (nI C), .inr (some (some (n + 1)))]))] ++ [.inl (0, R * C)])) lo_X6_24 (fun _ _ _ _ h9 => h9) (apx (j := 0) hn rfl) (Nat.le_of_ble_eq_true rfl) rfl rfl (apset (j := 0) hn rfl) ?_
  exact pw_endC dX6_init_27 rfl (Nat.le_of_ble_eq_true rfl) (Nat.le_of_eq (Nat.zero_add _)) rfl a1 rfl
