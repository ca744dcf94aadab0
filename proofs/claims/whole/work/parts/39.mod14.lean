/-! THE MODEL'S SHARES, as a whole -/
theorem fsH_1 (h : HP) (pk : Nat → Nat) (lot n : Nat) (T : Int32) (k : Nat) : fsH h pk lot n T k 254 1 = h 254 1 := fsH_ne h pk lot n T k (fun i _ => by omega)
set_option maxRecDepth 100000 in
set_option maxHeartbeats 4000000 in
theorem lp_X8_findShares {l : Launch} {G : GC} {ad : Nat → Nat} {h : HP} {lot nH n : Nat} {pk : Nat → Nat} {T : Int32} (hlot : lot < 24) (hnH : h 254 1 = nI nH) (hH12 : nH ≤ 12) (hn : mL h lot 2 = nI n) (hn4 : n ≤ 4) (hpk : ∀ i, i < n → mL h lot (5 + i) = nI (pk i) ∧ pk i < 24) (hT : mL h lot 0 = T) (hT0 : T ≠ 0) {M : Nat} (hM : M < 1000000) (hMM : fsM h pk lot n T nH = nI M)  : ∀ (mu9 : Nat) (k : Nat) (ls4 : Option Value) (ls5 : Option Value) (hk : k ≤ nH) (hmu9 : nH - k < mu9), PW l G cX8_findShares RX8 6 ((Option.none : Option FieldType)) [] { frames := 1, cells := 0, slots := 0, locals := 23 } (gNm "findShares") (gME G SW ad (gR SW ad (none) (fgH (fsH h pk lot n T nH) lot nH M)) gNo 0 0) 6 [some (.ref (ad 253)), some (.int (nI lot)), some (.int (fsM h pk lot n T k)), some (.int (nI k)), ls4, ls5] [] SW ad ((fsH h pk lot n T k)) 0 0 := by
  intro mu9
  induction mu9 with
  | zero => intro k ls4 ls5 hk hmu9; exact absurd hmu9 (Nat.not_lt_zero _)
  | succ mu9 ih =>
    intro k ls4 ls5 hk hmu9
    refine pw_iload_n dX8_findShares_6 rfl ?_
    refine pw_aload_n dX8_findShares_7 rfl ?_
    refine pw_getr dX8_findShares_8 lf_X8_9 sh_253 rfl ?_
    refine pw_iconst dX8_findShares_11 (v := 1) (by decide) ?_
    refine pw_iaload dX8_findShares_12 sh_254 (vpin (n := 1) (N := 1032) (by decide) (by decide)) ?_
    refine pw_icmp_ge dX8_findShares_13 (tgt := 123) (by decide) (fun c13 => ?_) (fun c13 => ?_)
    · skip
      have hk8 : k = nH := eqN (x := fsH h pk lot n T k 254 (Int32.toNatClampNeg 1)) ((fsH_1 h pk lot n T k).trans hnH) hk (by omega) c13
      rw [hk8, hMM]
      refine pw_iconst dX8_findShares_123 (v := 0) (by decide) ?_
      refine pw_istore_n dX8_findShares_124 (by decide) rfl ?_
      exact lp3_X8_findShares (g := fsH h pk lot n T nH) hlot ((fsH_1 h pk lot n T nH).trans hnH) hH12 hM (M + 1) 0 _ _ (Nat.zero_le _) (by omega)
    · skip
      have hk9 : k < nH := ltN (x := fsH h pk lot n T k 254 (Int32.toNatClampNeg 1)) ((fsH_1 h pk lot n T k).trans hnH) hk (by omega) c13
      refine pw_iconst dX8_findShares_16 (v := 0) (by decide) ?_
      refine pw_istore dX8_findShares_17 (by decide) rfl ?_
      refine pw_iconst dX8_findShares_19 (v := 0) (by decide) ?_
      refine pw_istore dX8_findShares_20 (by decide) rfl ?_
      exact lq_X8_findShares (E1 := fgH (fsH h pk lot n T nH) lot nH M) (k := k) hlot hnH hH12 hn hn4 hpk hT hT0 hk9 (fun y => ih (k + 1) _ _ (by omega) (by omega)) (n + 1) 0 0 (Nat.zero_le _) rfl (by omega)

set_option maxRecDepth 100000 in
set_option maxHeartbeats 4000000 in
theorem sp_X8_findShares {l : Launch} {G : GC} {ad : Nat → Nat} {h : HP} {lot nH n : Nat} {pk : Nat → Nat} {T : Int32} (hlot : lot < 24) (hnH : h 254 1 = nI nH) (hH12 : nH ≤ 12) (hn : mL h lot 2 = nI n) (hn4 : n ≤ 4) (hpk : ∀ i, i < n → mL h lot (5 + i) = nI (pk i) ∧ pk i < 24) (hT : mL h lot 0 = T) (hT0 : T ≠ 0) {M : Nat} (hM : M < 1000000) (hMM : fsM h pk lot n T nH = nI M) : PF l G yX8_findShares (.code yX8_findShares cX8_findShares 6 ((Option.none : Option FieldType))) { frames := 1, cells := 0, slots := 0, locals := 23 } [.ref (ad 253), .int (nI lot)] SW ad (h) (none) (fgH (fsH h pk lot n T nH) lot nH M) := by
  refine PF.mk (L0 := [some (.ref (ad 253)), some (.int (nI lot)), none, none, none, none]) RX8 "findShares" 0 0 (by decide +kernel) rfl rfl ⟨rfl, rfl⟩ (by simp [Value.category]) (Nat.le_of_ble_eq_true rfl) rfl ?_
  refine pw_sipush dX8_findShares_0 (v := 1000) (by decide) ?_
  refine pw_istore_n dX8_findShares_3 (by decide) rfl ?_
  refine pw_iconst dX8_findShares_4 (v := 0) (by decide) ?_
  refine pw_istore_n dX8_findShares_5 (by decide) rfl ?_
  exact lp_X8_findShares hlot hnH hH12 hn hn4 hpk hT hT0 hM hMM (nH + 1) 0 none none (Nat.zero_le _) (by omega)

