/-! THE MODEL'S WAYS AND RECALLS -/
theorem or0 (x : Int32) : x ||| 0 = x := by simp
set_option maxRecDepth 100000 in
set_option maxHeartbeats 4000000 in
theorem lq_X8_findWays {l : Launch} {G : GC} {ad : Nat → Nat} {h : HP} {nL nH nB nC : Nat} {np : Nat → Nat} {pl : Nat → Nat → Nat} {lb : Nat → Nat} (hw : MW h nL nH nB nC np pl lb) {lot : Nat} (hlot : lot < 24) {b : Nat} (hb : b < nL) (K : ∀ i : Nat, PW l G cX8_findWays RX8 4 ((Option.none : Option FieldType)) [] { frames := 1, cells := 0, slots := 0, locals := 22 } (gNm "findWays") (gME G SW ad (gR SW ad (none) (mwH h np pl lot nL)) gNo 0 0) 2 [some (.ref (ad 253)), some (.int (nI lot)), some (.int (nI (b + 1))), some (.int (nI i))] [] SW ad (mwH h np pl lot (b + 1)) 0 0) : ∀ (mu9 : Nat) (i : Nat) (hi : i ≤ np b) (hi0 : b = lot → i = 0) (hmu9 : np b - i < mu9), PW l G cX8_findWays RX8 4 ((Option.none : Option FieldType)) [] { frames := 1, cells := 0, slots := 0, locals := 22 } (gNm "findWays") (gME G SW ad (gR SW ad (none) (mwH h np pl lot nL)) gNo 0 0) 30 [some (.ref (ad 253)), some (.int (nI lot)), some (.int (nI b)), some (.int (nI i))] [] SW ad (mwI (mwH h np pl lot b) np pl lot b i) 0 0 := by
  intro mu9
  induction mu9 with
  | zero => intro i hi hi0 hmu9; exact absurd hmu9 (Nat.not_lt_zero _)
  | succ mu9 ih =>
    intro i hi hi0 hmu9
    have hwg : MW (mwI (mwH h np pl lot b) np pl lot b i) nL nH nB nC np pl lb := MW_o hw (by rw [mwI_o _ _ _ _ _ (by decide), mwH_o _ _ _ _ (by decide)])
    have hb24 : b < 24 := by have := hw.1.2; omega
    have hnp := hwg.2.2.2.2.1 b hb24
    have hn4 := hnp.2
    refine pw_iload_n dX8_findWays_30 rfl ?_
    refine pw_aload_n dX8_findWays_31 rfl ?_
    refine pw_iload_n dX8_findWays_32 rfl ?_
    refine pw_iconst dX8_findWays_33 (v := 2) (by decide) ?_
    refine pw_cV dX8_findWays_34 (sp_X8_l (lot := b) (k := 2) (by omega)) mi_X8_l mv_X8_l ml_X8_102 sh_253 rfl rfl rfl rfl ⟨rfl, rfl⟩ rfl rfl ?_
    refine pw_icmp_ge dX8_findWays_37 (tgt := 73) (by decide) (fun c37 => ?_) (fun c37 => ?_)
    · skip
      have hi8 : i = np b := eqN hnp.1 hi (by omega) c37
      refine pw_iinc dX8_findWays_73 rfl (d := 1) (by decide) (by decide) rfl ?_
      rw [nI_1]
      refine pw_goto dX8_findWays_76 (tgt := 2) (by decide) ?_
      refine pw_heq (show _ = mwH h np pl lot (b + 1) from ?_) (K i)
      · rw [mwH, hi8]; by_cases q : b = lot
        · rw [if_pos q, ← hi8, hi0 q]
        · rw [if_neg q]
    · skip
      have hi9 : i < np b := ltN hnp.1 hi (by omega) c37
      refine pw_iload_n dX8_findWays_40 rfl ?_
      refine pw_iload_n dX8_findWays_41 rfl ?_
      refine pw_icmp_eq dX8_findWays_42 (tgt := 73) (by decide) (fun c42 => ?_) (fun c42 => ?_)
      · skip
        have hbl : b = lot := (nI_eq (by omega) (by omega)).mp c42
        refine pw_iinc dX8_findWays_73 rfl (d := 1) (by decide) (by decide) rfl ?_
        rw [nI_1]
        refine pw_goto dX8_findWays_76 (tgt := 2) (by decide) ?_
        refine pw_heq (show _ = mwH h np pl lot (b + 1) from ?_) (K i)
        · rw [mwH, hi0 hbl, if_pos hbl]
      · skip
        have hbl : ¬ b = lot := fun q => c42 (by rw [q])
        refine pw_aload_n dX8_findWays_45 rfl ?_
        refine pw_getr dX8_findWays_46 lf_X8_39 sh_253 rfl ?_
        refine pw_iload_n dX8_findWays_49 rfl ?_
        refine pw_dup2 dX8_findWays_50 rfl rfl ?_
        refine pw_iaload dX8_findWays_51 sh_262 (vpin (N := 24) (by omega) (by decide)) ?_
        refine pw_aload_n dX8_findWays_52 rfl ?_
        refine pw_getr dX8_findWays_53 lf_X8_39 sh_253 rfl ?_
        refine pw_aload_n dX8_findWays_56 rfl ?_
        refine pw_iload_n dX8_findWays_57 rfl ?_
        refine pw_iconst dX8_findWays_58 (v := 5) (by decide) ?_
        refine pw_iload_n dX8_findWays_59 rfl ?_
        refine pw_iadd dX8_findWays_60 ?_
        rw [show (5 : Int32) + nI i = nI (5 + i) from nI_add 5 i]
        refine pw_cV dX8_findWays_61 (sp_X8_l (lot := b) (k := 5 + i) (by omega)) mi_X8_l mv_X8_l ml_X8_102 sh_253 rfl rfl rfl rfl ⟨rfl, rfl⟩ rfl rfl ?_
        rw [show mL (mwI (mwH h np pl lot b) np pl lot b i) b (5 + i) = nI (pl b i) from (hwg.2.2.2.2.2.1 b i hb24 (by omega)).1]
        refine pw_iaload dX8_findWays_64 sh_262 (vpin (N := 24) (hwg.2.2.2.2.2.1 b i hb24 (by omega)).2 (by decide)) ?_
        rw [nI_cl (n := b) (by omega), nI_cl (n := pl b i) (by have := (hwg.2.2.2.2.2.1 b i hb24 (by omega)).2; omega)]
        refine pw_iadd dX8_findWays_65 ?_
        refine pw_iastore dX8_findWays_66 sh_262 (vpin (N := 24) (by omega) (by decide)) ?_
        rw [nI_cl (by omega)]
        refine pw_heq (show _ = mwI (mwH h np pl lot b) np pl lot b (i + 1) from rfl) ?_
        refine pw_iinc dX8_findWays_67 rfl (d := 1) (by decide) (by decide) rfl ?_
        rw [nI_1]
        refine pw_goto dX8_findWays_70 (tgt := 30) (by decide) ?_
        exact ih (i + 1) (by omega) (fun q => absurd q hbl) (by omega)

set_option maxRecDepth 100000 in
set_option maxHeartbeats 4000000 in
theorem lp_X8_findWays {l : Launch} {G : GC} {ad : Nat → Nat} {h : HP} {nL nH nB nC : Nat} {np : Nat → Nat} {pl : Nat → Nat → Nat} {lb : Nat → Nat} (hw : MW h nL nH nB nC np pl lb) {lot : Nat} (hlot : lot < 24)  : ∀ (mu9 : Nat) (b : Nat) (ls3 : Option Value) (hb : b ≤ nL) (hmu9 : nL - b < mu9), PW l G cX8_findWays RX8 4 ((Option.none : Option FieldType)) [] { frames := 1, cells := 0, slots := 0, locals := 22 } (gNm "findWays") (gME G SW ad (gR SW ad (none) (mwH h np pl lot nL)) gNo 0 0) 2 [some (.ref (ad 253)), some (.int (nI lot)), some (.int (nI b)), ls3] [] SW ad (mwH h np pl lot b) 0 0 := by
  intro mu9
  induction mu9 with
  | zero => intro b ls3 hb hmu9; exact absurd hmu9 (Nat.not_lt_zero _)
  | succ mu9 ih =>
    intro b ls3 hb hmu9
    have hwb : MW (mwH h np pl lot b) nL nH nB nC np pl lb := MW_o hw (mwH_o _ _ _ _ (by decide) _)
    have hb1 := hw.1.2
    refine pw_iload_n dX8_findWays_2 rfl ?_
    refine pw_aload_n dX8_findWays_3 rfl ?_
    refine pw_getr dX8_findWays_4 lf_X8_9 sh_253 rfl ?_
    refine pw_iconst dX8_findWays_7 (v := 0) (by decide) ?_
    refine pw_iaload dX8_findWays_8 sh_254 (vpin (n := 0) (N := 1032) (by decide) (by decide)) ?_
    refine pw_icmp_ge dX8_findWays_9 (tgt := 79) (by decide) (fun c9 => ?_) (fun c9 => ?_)
    · skip
      have hb8 : b = nL := eqN hwb.1.1 hb (by omega) c9
      subst hb8
      exact pw_retF dX8_findWays_79 rfl rfl rfl
    · skip
      have hb9 : b < nL := ltN hwb.1.1 hb (by omega) c9
      refine pw_aload_n dX8_findWays_12 rfl ?_
      refine pw_getr dX8_findWays_13 lf_X8_39 sh_253 rfl ?_
      refine pw_iload_n dX8_findWays_16 rfl ?_
      refine pw_iload_n dX8_findWays_17 rfl ?_
      refine pw_iload_n dX8_findWays_18 rfl ?_
      refine pw_icmp_ne dX8_findWays_19 (tgt := 26) (by decide) (fun c19 => ?_) (fun c19 => ?_)
      · skip
        refine pw_iconst dX8_findWays_26 (v := 0) (by decide) ?_
        refine pw_iastore dX8_findWays_27 sh_262 (vpin (N := 24) (by omega) (by decide)) ?_
        rw [nI_cl (by omega)]
        refine pw_heq (show _ = mwI (mwH h np pl lot b) np pl lot b 0 from by rw [mwI, if_neg c19]) ?_
        refine pw_iconst dX8_findWays_28 (v := 0) (by decide) ?_
        refine pw_istore_n dX8_findWays_29 (by decide) rfl ?_
        exact lq_X8_findWays hw hlot hb9 (fun i => ih (b + 1) _ (by omega) (by omega)) (np b + 1) 0 (Nat.zero_le _) (fun _ => rfl) (by omega)
      · skip
        refine pw_iconst dX8_findWays_22 (v := 1) (by decide) ?_
        refine pw_goto dX8_findWays_23 (tgt := 27) (by decide) ?_
        refine pw_iastore dX8_findWays_27 sh_262 (vpin (N := 24) (by omega) (by decide)) ?_
        rw [nI_cl (by omega)]
        refine pw_heq (show _ = mwI (mwH h np pl lot b) np pl lot b 0 from by rw [mwI, if_pos c19]) ?_
        refine pw_iconst dX8_findWays_28 (v := 0) (by decide) ?_
        refine pw_istore_n dX8_findWays_29 (by decide) rfl ?_
        exact lq_X8_findWays hw hlot hb9 (fun i => ih (b + 1) _ (by omega) (by omega)) (np b + 1) 0 (Nat.zero_le _) (fun _ => rfl) (by omega)

set_option maxRecDepth 100000 in
set_option maxHeartbeats 4000000 in
theorem sp_X8_findWays {l : Launch} {G : GC} {ad : Nat → Nat} {h : HP} {nL nH nB nC : Nat} {np : Nat → Nat} {pl : Nat → Nat → Nat} {lb : Nat → Nat} (hw : MW h nL nH nB nC np pl lb) {lot : Nat} (hlot : lot < 24) : PF l G yX8_findWays (.code yX8_findWays cX8_findWays 4 ((Option.none : Option FieldType))) { frames := 1, cells := 0, slots := 0, locals := 22 } [.ref (ad 253), .int (nI lot)] SW ad (h) (none) (mwH h np pl lot nL) := by
  refine PF.mk (L0 := [some (.ref (ad 253)), some (.int (nI lot)), none, none]) RX8 "findWays" 0 0 (by decide +kernel) rfl rfl ⟨rfl, rfl⟩ (by simp [Value.category]) (Nat.le_of_ble_eq_true rfl) rfl ?_
  refine pw_iconst dX8_findWays_0 (v := 0) (by decide) ?_
  refine pw_istore_n dX8_findWays_1 (by decide) rfl ?_
  exact lp_X8_findWays hw hlot (nL + 1) 0 none (Nat.zero_le _) (by omega)

set_option maxRecDepth 100000 in
set_option maxHeartbeats 4000000 in
theorem lp_X8_recalling {l : Launch} {G : GC} {ad : Nat → Nat} {h : HP} {nL nH nB nC : Nat} {np : Nat → Nat} {pl : Nat → Nat → Nat} {lb : Nat → Nat} (hw : MW h nL nH nB nC np pl lb) {lot : Nat} (hlot : lot < 24)  : ∀ (mu9 : Nat) (i : Nat) (x : Int32) (hi : i ≤ nB) (hx : x = orI (fun b => ifOr ((fun b => decide (0 < (mwH h np pl lot nL) 262 (lb b))) b) (bit1 b)) i) (hmu9 : nB - i < mu9), PW l G cX8_recalling RX8 4 ((Option.some FieldType.int)) [] { frames := 2, cells := 0, slots := 0, locals := 45 } (gNm "recalling") (gME G SW ad (gR SW ad (some (.int (orI (fun b => ifOr ((fun b => decide (0 < (mwH h np pl lot nL) 262 (lb b))) b) (bit1 b)) nB))) ((mwH h np pl lot nL))) gNo 0 0) 9 [some (.ref (ad 253)), some (.int (nI lot)), some (.int x), some (.int (nI i))] [] SW ad ((mwH h np pl lot nL)) 0 0 := by
  intro mu9
  induction mu9 with
  | zero => intro i x hi hx hmu9; exact absurd hmu9 (Nat.not_lt_zero _)
  | succ mu9 ih =>
    intro i x hi hx hmu9
    have hwb : MW (mwH h np pl lot nL) nL nH nB nC np pl lb := MW_o hw (mwH_o _ _ _ _ (by decide) _)
    have hb3 := hw.2.2.1.2
    refine pw_iload_n dX8_recalling_9 rfl ?_
    refine pw_aload_n dX8_recalling_10 rfl ?_
    refine pw_getr dX8_recalling_11 lf_X8_9 sh_253 rfl ?_
    refine pw_iconst dX8_recalling_14 (v := 2) (by decide) ?_
    refine pw_iaload dX8_recalling_15 sh_254 (vpin (n := 2) (N := 1032) (by decide) (by decide)) ?_
    refine pw_icmp_ge dX8_recalling_16 (tgt := 49) (by decide) (fun c16 => ?_) (fun c16 => ?_)
    · skip
      have hi8 : i = nB := eqN hwb.2.2.1.1 hi (by omega) c16
      refine pw_iload_n dX8_recalling_49 rfl ?_
      exact pw_iretF dX8_recalling_50 rfl rfl rfl (by rw [hx, hi8]) rfl
    · skip
      have hi9 : i < nB := ltN hwb.2.2.1.1 hi (by omega) c16
      refine pw_iload_n dX8_recalling_19 rfl ?_
      refine pw_aload_n dX8_recalling_20 rfl ?_
      refine pw_getr dX8_recalling_21 lf_X8_39 sh_253 rfl ?_
      refine pw_aload_n dX8_recalling_24 rfl ?_
      refine pw_iload_n dX8_recalling_25 rfl ?_
      refine pw_iconst dX8_recalling_26 (v := 0) (by decide) ?_
      refine pw_cV dX8_recalling_27 (sp_X8_b (b := i) (k := 0) (by omega)) mi_X8_b mv_X8_b ml_X8_169 sh_253 rfl rfl rfl rfl ⟨rfl, rfl⟩ rfl rfl ?_
      rw [(hwb.2.2.2.2.2.2 i (by omega)).1]
      refine pw_iaload dX8_recalling_30 sh_262 (vpin (N := 24) (hwb.2.2.2.2.2.2 i (by omega)).2 (by decide)) ?_
      rw [nI_cl (by have := (hwb.2.2.2.2.2.2 i (by omega)).2; omega)]
      refine pw_if_le dX8_recalling_31 (tgt := 40) (by decide) (fun c31 => ?_) (fun c31 => ?_)
      · skip
        refine pw_iconst dX8_recalling_40 (v := 0) (by decide) ?_
        refine pw_ior dX8_recalling_41 ?_
        refine pw_istore_n dX8_recalling_42 (by decide) rfl ?_
        refine pw_iinc dX8_recalling_43 rfl (d := 1) (by decide) (by decide) rfl ?_
        rw [nI_1]
        refine pw_goto dX8_recalling_46 (tgt := 9) (by decide) ?_
        refine ih (i + 1) _ (by omega) ?_ (by omega)
        rw [or0]
        exact or_n (p := (fun b => decide (0 < (mwH h np pl lot nL) 262 (lb b)))) (g := bit1) hx (decide_eq_false (Int32.not_lt.mpr c31))
      · skip
        refine pw_iconst dX8_recalling_34 (v := 1) (by decide) ?_
        refine pw_iload_n dX8_recalling_35 rfl ?_
        refine pw_ishl dX8_recalling_36 ?_
        refine pw_goto dX8_recalling_37 (tgt := 41) (by decide) ?_
        refine pw_ior dX8_recalling_41 ?_
        refine pw_istore_n dX8_recalling_42 (by decide) rfl ?_
        refine pw_iinc dX8_recalling_43 rfl (d := 1) (by decide) (by decide) rfl ?_
        rw [nI_1]
        refine pw_goto dX8_recalling_46 (tgt := 9) (by decide) ?_
        refine ih (i + 1) _ (by omega) ?_ (by omega)
        exact or_s (p := (fun b => decide (0 < (mwH h np pl lot nL) 262 (lb b)))) (g := bit1) hx (decide_eq_true (Int32.not_le.mp c31))

set_option maxRecDepth 100000 in
set_option maxHeartbeats 4000000 in
theorem sp_X8_recalling {l : Launch} {G : GC} {ad : Nat → Nat} {h : HP} {nL nH nB nC : Nat} {np : Nat → Nat} {pl : Nat → Nat → Nat} {lb : Nat → Nat} (hw : MW h nL nH nB nC np pl lb) {lot : Nat} (hlot : lot < 24) : PF l G yX8_recalling (.code yX8_recalling cX8_recalling 4 ((Option.some FieldType.int))) { frames := 2, cells := 0, slots := 0, locals := 45 } [.ref (ad 253), .int (nI lot)] SW ad (h) (some (.int (orI (fun b => ifOr ((fun b => decide (0 < (mwH h np pl lot nL) 262 (lb b))) b) (bit1 b)) nB))) ((mwH h np pl lot nL)) := by
  refine PF.mk (L0 := [some (.ref (ad 253)), some (.int (nI lot)), none, none]) RX8 "recalling" 0 0 (by decide +kernel) rfl rfl ⟨rfl, rfl⟩ (by simp [Value.category]) (Nat.le_of_ble_eq_true rfl) rfl ?_
  refine pw_aload_n dX8_recalling_0 rfl ?_
  refine pw_iload_n dX8_recalling_1 rfl ?_
  refine pw_cVn dX8_recalling_2 (sp_X8_findWays hw hlot) mi_X8_findWays mv_X8_findWays ml_X8_211 sh_253 rfl rfl rfl rfl ⟨rfl, rfl⟩ rfl rfl ?_
  refine pw_iconst dX8_recalling_5 (v := 0) (by decide) ?_
  refine pw_istore_n dX8_recalling_6 (by decide) rfl ?_
  refine pw_iconst dX8_recalling_7 (v := 0) (by decide) ?_
  refine pw_istore_n dX8_recalling_8 (by decide) rfl ?_
  exact lp_X8_recalling hw hlot (nB + 1) 0 0 (Nat.zero_le _) rfl (by omega)

