/-! THE MODEL'S SHARES -/
def fsS (g : HP) (pk : Nat → Nat) (lot n k : Nat) : Int32 := sumC (fun i => mL g lot (9 + i) * mL g (pk i) (13 + k)) n
def fsH (h : HP) (pk : Nat → Nat) (lot n : Nat) (T : Int32) : Nat → HP
  | 0 => h
  | k + 1 => hput (sL (fsH h pk lot n T k) lot (13 + k) (fsS (fsH h pk lot n T k) pk lot n k / T)) 260 k (fsS (fsH h pk lot n T k) pk lot n k - fsS (fsH h pk lot n T k) pk lot n k / T * T)
def fsM (h : HP) (pk : Nat → Nat) (lot n : Nat) (T : Int32) : Nat → Int32
  | 0 => 1000
  | k + 1 => fsM h pk lot n T k - fsS (fsH h pk lot n T k) pk lot n k / T
theorem fsH_ne (h : HP) (pk : Nat → Nat) (lot n : Nat) (T : Int32) {j : Nat} : ∀ k, (∀ i, i < k → j ≠ 8 + 25 * lot + (13 + i)) → fsH h pk lot n T k 254 j = h 254 j
  | 0, _ => rfl
  | k + 1, e => by
      rw [fsH, hput_ne _ _ _ (by decide)]
      show hput _ _ _ _ 254 j = _
      simp only [hput, if_true]
      rw [if_neg (e k (by omega))]
      exact fsH_ne h pk lot n T k (fun i hi => e i (by omega))
theorem fsH_o (h : HP) (pk : Nat → Nat) (lot n : Nat) (T : Int32) {q : Nat} (h1 : q ≠ 254) (h2 : q ≠ 260) : ∀ k, fsH h pk lot n T k q = h q
  | 0 => rfl
  | k + 1 => by rw [fsH, hput_ne _ _ _ h2, sL, hput_ne _ _ _ h1, fsH_o h pk lot n T h1 h2 k]
theorem fsH_L (h : HP) (pk : Nat → Nat) (lot n : Nat) (T : Int32) (k : Nat) {i : Nat} (hi : i < 13) : mL (fsH h pk lot n T k) lot i = mL h lot i := fsH_ne h pk lot n T k (fun i _ => by omega)
set_option maxRecDepth 100000 in
set_option maxHeartbeats 4000000 in
theorem lq_X8_findShares {l : Launch} {G : GC} {ad : Nat → Nat} {h : HP} {lot nH n : Nat} {pk : Nat → Nat} {T : Int32} (hlot : lot < 24) (hnH : h 254 1 = nI nH) (hH12 : nH ≤ 12) (hn : mL h lot 2 = nI n) (hn4 : n ≤ 4) (hpk : ∀ i, i < n → mL h lot (5 + i) = nI (pk i) ∧ pk i < 24) (hT : mL h lot 0 = T) (hT0 : T ≠ 0) {E1 : HP} {k : Nat} (hk : k < nH) (K : ∀ y : Int32, PW l G cX8_findShares RX8 6 ((Option.none : Option FieldType)) [] { frames := 1, cells := 0, slots := 0, locals := 23 } (gNm "findShares") (gME G SW ad (gR SW ad (none) (E1)) gNo 0 0) 6 [some (.ref (ad 253)), some (.int (nI lot)), some (.int (fsM h pk lot n T (k + 1))), some (.int (nI (k + 1))), some (.int y), some (.int (nI n))] [] SW ad ((fsH h pk lot n T (k + 1))) 0 0) : ∀ (mu9 : Nat) (i : Nat) (x : Int32) (hi : i ≤ n) (hx : x = fsS (fsH h pk lot n T k) pk lot i k) (hmu9 : n - i < mu9), PW l G cX8_findShares RX8 6 ((Option.none : Option FieldType)) [] { frames := 1, cells := 0, slots := 0, locals := 23 } (gNm "findShares") (gME G SW ad (gR SW ad (none) (E1)) gNo 0 0) 22 [some (.ref (ad 253)), some (.int (nI lot)), some (.int (fsM h pk lot n T k)), some (.int (nI k)), some (.int x), some (.int (nI i))] [] SW ad ((fsH h pk lot n T k)) 0 0 := by
  intro mu9
  induction mu9 with
  | zero => intro i x hi hx hmu9; exact absurd hmu9 (Nat.not_lt_zero _)
  | succ mu9 ih =>
    intro i x hi hx hmu9
    refine pw_iload dX8_findShares_22 rfl ?_
    refine pw_aload_n dX8_findShares_24 rfl ?_
    refine pw_iload_n dX8_findShares_25 rfl ?_
    refine pw_iconst dX8_findShares_26 (v := 2) (by decide) ?_
    refine pw_cV dX8_findShares_27 (sp_X8_l (lot := lot) (k := 2) (by omega)) mi_X8_l mv_X8_l ml_X8_102 sh_253 rfl rfl rfl rfl ⟨rfl, rfl⟩ rfl rfl ?_
    refine pw_icmp_ge dX8_findShares_30 (tgt := 72) (by decide) (fun c30 => ?_) (fun c30 => ?_)
    · skip
      have hi8 : i = n := eqN (by rw [fsH_L _ _ _ _ _ _ (by decide)]; exact hn) hi (by omega) c30
      rw [hi8] at hx ⊢
      refine pw_aload_n dX8_findShares_72 rfl ?_
      refine pw_iload_n dX8_findShares_73 rfl ?_
      refine pw_bipush dX8_findShares_74 (v := 13) (by decide) ?_
      refine pw_iload_n dX8_findShares_76 rfl ?_
      refine pw_iadd dX8_findShares_77 ?_
      rw [show (13 : Int32) + nI k = nI (13 + k) from nI_add 13 k]
      refine pw_iload dX8_findShares_78 rfl ?_
      refine pw_aload_n dX8_findShares_80 rfl ?_
      refine pw_iload_n dX8_findShares_81 rfl ?_
      refine pw_iconst dX8_findShares_82 (v := 0) (by decide) ?_
      refine pw_cV dX8_findShares_83 (sp_X8_l (lot := lot) (k := 0) (by omega)) mi_X8_l mv_X8_l ml_X8_102 sh_253 rfl rfl rfl rfl ⟨rfl, rfl⟩ rfl rfl ?_
      rw [show mL (fsH h pk lot n T k) lot 0 = T from by rw [fsH_L _ _ _ _ _ _ (by decide)]; exact hT]
      refine pw_idiv dX8_findShares_86 (hT0) ?_
      refine pw_cVn dX8_findShares_87 (sp_X8_setL (lot := lot) (k := 13 + k) (by omega)) mi_X8_setL mv_X8_setL ml_X8_59 sh_253 rfl rfl rfl rfl ⟨rfl, rfl⟩ rfl rfl ?_
      refine pw_aload_n dX8_findShares_90 rfl ?_
      refine pw_getr dX8_findShares_91 lf_X8_33 sh_253 rfl ?_
      refine pw_iload_n dX8_findShares_94 rfl ?_
      refine pw_iload dX8_findShares_95 rfl ?_
      refine pw_aload_n dX8_findShares_97 rfl ?_
      refine pw_iload_n dX8_findShares_98 rfl ?_
      refine pw_iconst dX8_findShares_99 (v := 0) (by decide) ?_
      refine pw_cV dX8_findShares_100 (sp_X8_l (lot := lot) (k := 0) (by omega)) mi_X8_l mv_X8_l ml_X8_102 sh_253 rfl rfl rfl rfl ⟨rfl, rfl⟩ rfl rfl ?_
      rw [show mL (sL (fsH h pk lot n T k) lot (13 + k) (x / T)) lot 0 = T from by rw [mL, sL]; simp only [hput, if_true]; rw [if_neg (by omega)]; exact (fsH_L h pk lot n T k (i := 0) (by decide)).trans hT]
      refine pw_irem dX8_findShares_103 (hT0) ?_
      refine pw_iastore dX8_findShares_104 sh_260 (vpin (N := 12) (by omega) (by decide)) ?_
      rw [nI_cl (by omega)]
      refine pw_heq (show _ = fsH h pk lot n T (k + 1) from by rw [fsH, ← hx]) ?_
      refine pw_iload_n dX8_findShares_105 rfl ?_
      refine pw_aload_n dX8_findShares_106 rfl ?_
      refine pw_iload_n dX8_findShares_107 rfl ?_
      refine pw_bipush dX8_findShares_108 (v := 13) (by decide) ?_
      refine pw_iload_n dX8_findShares_110 rfl ?_
      refine pw_iadd dX8_findShares_111 ?_
      rw [show (13 : Int32) + nI k = nI (13 + k) from nI_add 13 k]
      refine pw_cV dX8_findShares_112 (sp_X8_l (lot := lot) (k := 13 + k) (by omega)) mi_X8_l mv_X8_l ml_X8_102 sh_253 rfl rfl rfl rfl ⟨rfl, rfl⟩ rfl rfl ?_
      rw [show mL (fsH h pk lot n T (k + 1)) lot (13 + k) = x / T from by rw [fsH, mL, hput_ne _ _ _ (by decide), sL]; simp only [hput, if_true]; rw [hx]]
      refine pw_isub dX8_findShares_115 ?_
      rw [show fsM h pk lot n T k - x / T = fsM h pk lot n T (k + 1) from by rw [fsM, ← hx]]
      refine pw_istore_n dX8_findShares_116 (by decide) rfl ?_
      refine pw_iinc dX8_findShares_117 rfl (d := 1) (by decide) (by decide) rfl ?_
      rw [nI_1]
      refine pw_goto dX8_findShares_120 (tgt := 6) (by decide) ?_
      exact K _
    · skip
      have hi9 : i < n := ltN (by rw [fsH_L _ _ _ _ _ _ (by decide)]; exact hn) hi (by omega) c30
      refine pw_iload dX8_findShares_33 rfl ?_
      refine pw_aload_n dX8_findShares_35 rfl ?_
      refine pw_iload_n dX8_findShares_36 rfl ?_
      refine pw_bipush dX8_findShares_37 (v := 9) (by decide) ?_
      refine pw_iload dX8_findShares_39 rfl ?_
      refine pw_iadd dX8_findShares_41 ?_
      rw [show (9 : Int32) + nI i = nI (9 + i) from nI_add 9 i]
      refine pw_cV dX8_findShares_42 (sp_X8_l (lot := lot) (k := 9 + i) (by omega)) mi_X8_l mv_X8_l ml_X8_102 sh_253 rfl rfl rfl rfl ⟨rfl, rfl⟩ rfl rfl ?_
      refine pw_aload_n dX8_findShares_45 rfl ?_
      refine pw_aload_n dX8_findShares_46 rfl ?_
      refine pw_iload_n dX8_findShares_47 rfl ?_
      refine pw_iconst dX8_findShares_48 (v := 5) (by decide) ?_
      refine pw_iload dX8_findShares_49 rfl ?_
      refine pw_iadd dX8_findShares_51 ?_
      rw [show (5 : Int32) + nI i = nI (5 + i) from nI_add 5 i]
      refine pw_cV dX8_findShares_52 (sp_X8_l (lot := lot) (k := 5 + i) (by omega)) mi_X8_l mv_X8_l ml_X8_102 sh_253 rfl rfl rfl rfl ⟨rfl, rfl⟩ rfl rfl ?_
      rw [show mL (fsH h pk lot n T k) lot (5 + i) = nI (pk i) from by rw [fsH_L _ _ _ _ _ _ (by omega)]; exact (hpk i hi9).1]
      refine pw_bipush dX8_findShares_55 (v := 13) (by decide) ?_
      refine pw_iload_n dX8_findShares_57 rfl ?_
      refine pw_iadd dX8_findShares_58 ?_
      rw [show (13 : Int32) + nI k = nI (13 + k) from nI_add 13 k]
      refine pw_cV dX8_findShares_59 (sp_X8_l (lot := pk i) (k := 13 + k) (by have := (hpk i hi9).2; omega)) mi_X8_l mv_X8_l ml_X8_102 sh_253 rfl rfl rfl rfl ⟨rfl, rfl⟩ rfl rfl ?_
      refine pw_imul dX8_findShares_62 ?_
      refine pw_iadd dX8_findShares_63 ?_
      refine pw_istore dX8_findShares_64 (by decide) rfl ?_
      refine pw_iinc dX8_findShares_66 rfl (d := 1) (by decide) (by decide) rfl ?_
      rw [nI_1]
      refine pw_goto dX8_findShares_69 (tgt := 22) (by decide) ?_
      exact ih (i + 1) _ (by omega) (by rw [hx]; rfl) (by omega)

