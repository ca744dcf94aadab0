/-! THE MODEL REMEMBERS; its ways -/
theorem i1032 (p : Nat) : (1032 : Int32) * nI p = nI (1032 * p) := by rw [show (1032 : Int32) = nI 1032 from rfl, pk_mul]
def mwP (h : HP) (pl : Nat → Nat → Nat) (lot b i : Nat) (z : Int32) : Int32 := z + sumC (fun k => h 262 (pl b k)) i
/-- the ways, into the first lots -/
def mwI (h : HP) (np : Nat → Nat) (pl : Nat → Nat → Nat) (lot b : Nat) : Nat → HP
  | 0 => hput h 262 b (if nI b = nI lot then 1 else 0)
  | i + 1 => hput (mwI h np pl lot b i) 262 b (mwI h np pl lot b i 262 b + mwI h np pl lot b i 262 (pl b i))
def mwH (h : HP) (np : Nat → Nat) (pl : Nat → Nat → Nat) (lot : Nat) : Nat → HP
  | 0 => h
  | b + 1 => mwI (mwH h np pl lot b) np pl lot b (if b = lot then 0 else np b)
theorem mwI_o (h : HP) (np : Nat → Nat) (pl : Nat → Nat → Nat) (lot b : Nat) {q : Nat} (hq : q ≠ 262) : ∀ i, mwI h np pl lot b i q = h q
  | 0 => by rw [mwI, hput_ne _ _ _ hq]
  | i + 1 => by rw [mwI, hput_ne _ _ _ hq, mwI_o h np pl lot b hq i]
theorem mwH_o (h : HP) (np : Nat → Nat) (pl : Nat → Nat → Nat) (lot : Nat) {q : Nat} (hq : q ≠ 262) : ∀ b, mwH h np pl lot b q = h q
  | 0 => rfl
  | b + 1 => by rw [mwH, mwI_o _ _ _ _ _ hq, mwH_o h np pl lot hq b]
theorem MW_o {h h' : HP} {nL nH nB nC : Nat} {np : Nat → Nat} {pl : Nat → Nat → Nat} {lb : Nat → Nat} (hw : MW h nL nH nB nC np pl lb) (ho : h' 254 = h 254) : MW h' nL nH nB nC np pl lb := by
  unfold MW mL mB at *
  rw [ho]
  exact hw
set_option maxRecDepth 100000 in
set_option maxHeartbeats 4000000 in
theorem lp_X8_remember {l : Launch} {G : GC} {ad : Nat → Nat} {h : HP} {p : Nat} (e : h 253 2 = nI p) (hp : p < 8)  : ∀ (mu9 : Nat) (i : Nat) (hi : i ≤ 1032) (hmu9 : 1032 - i < mu9), PW l G cX8_remember RX8 2 ((Option.none : Option FieldType)) [] { frames := 0, cells := 0, slots := 0, locals := 0 } (gNm "remember") (gME G SW ad (gR SW ad (none) (reaH h p)) gNo 0 0) 57 [some (.ref (ad 253)), some (.int (nI i))] [] SW ad (rcH h 255 (1032 * p) 254 0 i) 0 0 := by
  intro mu9
  induction mu9 with
  | zero => intro i hi hmu9; exact absurd hmu9 (Nat.not_lt_zero _)
  | succ mu9 ih =>
    intro i hi hmu9
    refine pw_iload_n dX8_remember_57 rfl ?_
    refine pw_sipush dX8_remember_58 (v := 1032) (by decide) ?_
    refine pw_icmp_ge dX8_remember_61 (tgt := 91) (by decide) (fun c61 => ?_) (fun c61 => ?_)
    · skip
      have e2 : rcH h 255 (1032 * p) 254 0 i 253 2 = nI p := by rw [rcH_o _ _ _ _ _ (by decide)]; exact e
      have hi8 : i = 1032 := eqN (N := 1032) rfl hi (by decide) c61
      subst hi8
      refine pw_aload_n dX8_remember_91 rfl ?_
      refine pw_dup dX8_remember_92 rfl ?_
      refine pw_geti dX8_remember_93 lf_X8_52 sh_253 rfl ?_
      refine pw_iconst dX8_remember_96 (v := 1) (by decide) ?_
      refine pw_iadd dX8_remember_97 ?_
      rw [e2, nI_1]
      refine pw_puti dX8_remember_98 lf_X8_52 lp_8_2 sh_253 rfl rfl rfl ?_
      exact pw_retF dX8_remember_101 rfl rfl rfl
    · skip
      have hi9 : i < 1032 := ltN (N := 1032) rfl hi (by decide) c61
      have e2 : rcH h 255 (1032 * p) 254 0 i 253 2 = nI p := by rw [rcH_o _ _ _ _ _ (by decide)]; exact e
      refine pw_aload_n dX8_remember_64 rfl ?_
      refine pw_getr dX8_remember_65 lf_X8_13 sh_253 rfl ?_
      refine pw_sipush dX8_remember_68 (v := 1032) (by decide) ?_
      refine pw_aload_n dX8_remember_71 rfl ?_
      refine pw_geti dX8_remember_72 lf_X8_52 sh_253 rfl ?_
      refine pw_imul dX8_remember_75 ?_
      refine pw_iload_n dX8_remember_76 rfl ?_
      refine pw_iadd dX8_remember_77 ?_
      rw [e2, i1032, nI_add]
      refine pw_aload_n dX8_remember_78 rfl ?_
      refine pw_getr dX8_remember_79 lf_X8_9 sh_253 rfl ?_
      refine pw_iload_n dX8_remember_82 rfl ?_
      refine pw_iaload dX8_remember_83 sh_254 (vpin (by omega) (by decide)) ?_
      rw [nI_cl (by omega)]
      refine pw_iastore dX8_remember_84 sh_255 (vpin (by omega) (by decide)) ?_
      rw [nI_cl (by omega)]
      refine pw_heq (show _ = rcH h 255 (1032 * p) 254 0 (i + 1) from by rw [rcH, Nat.zero_add]) ?_
      refine pw_iinc dX8_remember_85 rfl (d := 1) (by decide) (by decide) rfl ?_
      rw [nI_1]
      refine pw_goto dX8_remember_88 (tgt := 57) (by decide) ?_
      exact ih (i + 1) (by omega) (by omega)

set_option maxRecDepth 100000 in
set_option maxHeartbeats 4000000 in
theorem sp_X8_remember_ok {l : Launch} {G : GC} {ad : Nat → Nat} {h : HP} {p : Nat} (e : h 253 2 = nI p) (hp : p < 8) : PF l G yX8_remember (.code yX8_remember cX8_remember 2 ((Option.none : Option FieldType))) { frames := 0, cells := 0, slots := 0, locals := 0 } [.ref (ad 253)] SW ad (h) (none) (reaH h p) := by
  refine PF.mk (L0 := [some (.ref (ad 253)), none]) RX8 "remember" 0 0 (by decide +kernel) rfl rfl ⟨rfl, rfl⟩ (by simp [Value.category]) (Nat.le_of_ble_eq_true rfl) rfl ?_
  refine pw_aload_n dX8_remember_0 rfl ?_
  refine pw_geti dX8_remember_1 lf_X8_52 sh_253 rfl ?_
  refine pw_bipush dX8_remember_4 (v := 8) (by decide) ?_
  refine pw_icmp_ne dX8_remember_6 (tgt := 55) (by decide) (fun c6 => ?_) (fun c6 => absurd c6 (by rw [e]; exact fun q => absurd ((nI_eq (b := 8) (by omega) (by decide)).mp q) (by omega)))
  refine pw_iconst dX8_remember_55 (v := 0) (by decide) ?_
  refine pw_istore_n dX8_remember_56 (by decide) rfl ?_
  exact lp_X8_remember e hp 1033 0 (Nat.zero_le _) (by omega)

set_option maxRecDepth 100000 in
set_option maxHeartbeats 4000000 in
theorem lq_X8_remember {l : Launch} {G : GC} {ad : Nat → Nat} {h : HP} (e : h 253 2 = nI 8)  : ∀ (mu9 : Nat) (i : Nat) (hi : i ≤ 1032 * 7) (hmu9 : 1032 * 7 - i < mu9), PW l G cX8_remember RX8 2 ((Option.none : Option FieldType)) [] { frames := 0, cells := 0, slots := 0, locals := 0 } (gNm "remember") (gME G SW ad (gR SW ad (none) (rebH h)) gNo 0 0) 21 [some (.ref (ad 253)), some (.int (nI i))] [] SW ad (rcH (hput h 253 2 (nI 7)) 255 0 255 1032 i) 0 0 := by
  intro mu9
  induction mu9 with
  | zero => intro i hi hmu9; exact absurd hmu9 (Nat.not_lt_zero _)
  | succ mu9 ih =>
    intro i hi hmu9
    have e2 : rcH (hput h 253 2 (nI 7)) 255 0 255 1032 i 253 2 = nI 7 := by rw [rcH_o _ _ _ _ _ (by decide)]; simp [hput]
    refine pw_iload_n dX8_remember_21 rfl ?_
    refine pw_sipush dX8_remember_22 (v := 1032) (by decide) ?_
    refine pw_aload_n dX8_remember_25 rfl ?_
    refine pw_geti dX8_remember_26 lf_X8_52 sh_253 rfl ?_
    refine pw_imul dX8_remember_29 ?_
    rw [e2]
    refine pw_icmp_ge dX8_remember_30 (tgt := 55) (by decide) (fun c30 => ?_) (fun c30 => ?_)
    · skip
      have hi8 : i = 1032 * 7 := eqN (N := 1032 * 7) (i1032 7) hi (by decide) c30
      subst hi8
      refine pw_iconst dX8_remember_55 (v := 0) (by decide) ?_
      refine pw_istore_n dX8_remember_56 (by decide) rfl ?_
      exact lp_X8_remember (h := rcH (hput h 253 2 (nI 7)) 255 0 255 1032 (1032 * 7)) (p := 7) e2 (by decide) 1033 0 (Nat.zero_le _) (by omega)
    · skip
      have hi9 : i < 1032 * 7 := ltN (N := 1032 * 7) (i1032 7) hi (by decide) c30
      refine pw_aload_n dX8_remember_33 rfl ?_
      refine pw_getr dX8_remember_34 lf_X8_13 sh_253 rfl ?_
      refine pw_iload_n dX8_remember_37 rfl ?_
      refine pw_aload_n dX8_remember_38 rfl ?_
      refine pw_getr dX8_remember_39 lf_X8_13 sh_253 rfl ?_
      refine pw_iload_n dX8_remember_42 rfl ?_
      refine pw_sipush dX8_remember_43 (v := 1032) (by decide) ?_
      refine pw_iadd dX8_remember_46 ?_
      rw [show nI i + (1032 : Int32) = nI (1032 + i) from by rw [show (1032 : Int32) = nI 1032 from rfl, nI_add, Nat.add_comm]]
      refine pw_iaload dX8_remember_47 sh_255 (vpin (by omega) (by decide)) ?_
      rw [nI_cl (show 1032 + i < 2147483648 by omega)]
      refine pw_iastore dX8_remember_48 sh_255 (vpin (by omega) (by decide)) ?_
      rw [nI_cl (by omega)]
      refine pw_heq (show _ = rcH (hput h 253 2 (nI 7)) 255 0 255 1032 (i + 1) from by rw [rcH, Nat.zero_add]) ?_
      refine pw_iinc dX8_remember_49 rfl (d := 1) (by decide) (by decide) rfl ?_
      rw [nI_1]
      refine pw_goto dX8_remember_52 (tgt := 21) (by decide) ?_
      exact ih (i + 1) (by omega) (by omega)

set_option maxRecDepth 100000 in
set_option maxHeartbeats 4000000 in
theorem sp_X8_remember_full {l : Launch} {G : GC} {ad : Nat → Nat} {h : HP} (e : h 253 2 = nI 8) : PF l G yX8_remember (.code yX8_remember cX8_remember 2 ((Option.none : Option FieldType))) { frames := 0, cells := 0, slots := 0, locals := 0 } [.ref (ad 253)] SW ad (h) (none) (rebH h) := by
  refine PF.mk (L0 := [some (.ref (ad 253)), none]) RX8 "remember" 0 0 (by decide +kernel) rfl rfl ⟨rfl, rfl⟩ (by simp [Value.category]) (Nat.le_of_ble_eq_true rfl) rfl ?_
  refine pw_aload_n dX8_remember_0 rfl ?_
  refine pw_geti dX8_remember_1 lf_X8_52 sh_253 rfl ?_
  refine pw_bipush dX8_remember_4 (v := 8) (by decide) ?_
  refine pw_icmp_ne dX8_remember_6 (tgt := 55) (by decide) (fun c6 => absurd c6 (fun q => q e)) (fun c6 => ?_)
  refine pw_aload_n dX8_remember_9 rfl ?_
  refine pw_dup dX8_remember_10 rfl ?_
  refine pw_geti dX8_remember_11 lf_X8_52 sh_253 rfl ?_
  refine pw_iconst dX8_remember_14 (v := 1) (by decide) ?_
  refine pw_isub dX8_remember_15 ?_
  rw [e, show nI 8 - 1 = nI 7 from nI_pred 7]
  refine pw_puti dX8_remember_16 lf_X8_52 lp_8_2 sh_253 rfl rfl rfl ?_
  refine pw_iconst dX8_remember_19 (v := 0) (by decide) ?_
  refine pw_istore_n dX8_remember_20 (by decide) rfl ?_
  exact lq_X8_remember e (1032 * 7 + 1) 0 (Nat.zero_le _) (by omega)

