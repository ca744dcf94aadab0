/-! THE MODEL'S CALLS, third part -/
def qmH (g : HP) (tn : Nat → Nat) : Nat → HP
  | 0 => g
  | k + 1 => sL (qmH g tn k) (tn k) 1 (mL (qmH g tn k) (tn k) 1 - qmH g tn k 259 k)
theorem qmH_o (g : HP) (tn : Nat → Nat) {q : Nat} (hq : q ≠ 254) : ∀ k, qmH g tn k q = g q
  | 0 => rfl
  | k + 1 => by rw [qmH, sL, hput_ne _ _ _ hq, qmH_o g tn hq k]
def pmH (g : HP) (lot : Nat) : Nat → HP
  | 0 => g
  | k + 1 => sL (sL (pmH g lot k) lot (5 + k) (pmH g lot k 258 k)) lot (9 + k) (sL (pmH g lot k) lot (5 + k) (pmH g lot k 258 k) 259 k)
theorem pmH_o (g : HP) (lot : Nat) {q : Nat} (hq : q ≠ 254) : ∀ k, pmH g lot k q = g q
  | 0 => rfl
  | k + 1 => by rw [pmH, sL, hput_ne _ _ _ hq, sL, hput_ne _ _ _ hq, pmH_o g lot hq k]
theorem coK_o (h : HP) (lot : Nat) {q : Nat} (hq : q ≠ 254) : ∀ k, coK h lot k q = h q
  | 0 => rfl
  | k + 1 => by rw [coK, sL, hput_ne _ _ _ hq, coK_o h lot hq k]
theorem coH_o (h : HP) (lot : Nat) (q g o : Int32) {a : Nat} (ha : a ≠ 254) : coH h lot q g o a = h a := by
  rw [coH, hput_ne _ _ _ ha, sL, hput_ne _ _ _ ha, sL, hput_ne _ _ _ ha, sL, hput_ne _ _ _ ha, sL, hput_ne _ _ _ ha, coK_o h lot ha]
def bmT (g : HP) (P : Nat) : Int32 := sumC (fun k => g 259 k) P
def bm1 (g : HP) (tn : Nat → Nat) (P nL : Nat) : HP := coH (qmH g tn P) nL (bmT g P) (maxF (fun k => mL (qmH g tn P) (tn k) 3) P + 1) (-1)
def bm2 (g : HP) (tn : Nat → Nat) (P nL : Nat) : HP := pmH (sL (bm1 g tn P nL) nL 2 (nI P)) nL P
theorem wi11 {m : Int32} (e : wiB m 0 11 = false) : m.toInt < 0 ∨ 11 < m.toInt := by
  rw [wiB, Bool.and_eq_false_iff, decide_eq_false_iff_not, decide_eq_false_iff_not] at e
  rcases e with q | q
  · left
    have := Int32.not_le.mp q
    have := Int32.lt_iff_toInt_lt.mp this
    simpa using this
  · right
    have := Int32.not_le.mp q
    have := Int32.lt_iff_toInt_lt.mp this
    simpa using this
set_option maxRecDepth 100000 in
set_option maxHeartbeats 4000000 in
theorem sp_X8_recalled_no1 {l : Launch} {G : GC} {ad : Nat → Nat} {h : HP} {n : Int32} (e : wiB n 0 (h 254 0 - 1) = false) : PF l G yX8_recalled (.code yX8_recalled cX8_recalled 2 ((Option.some FieldType.int))) { frames := 3, cells := 0, slots := 0, locals := 68 } [.ref (ad 253), .int (n)] SW ad (h) (some (.int 0)) (faH h 1) := by
  refine PF.mk (L0 := [some (.ref (ad 253)), some (.int (n))]) RX8 "recalled" 0 0 (by decide +kernel) rfl rfl ⟨rfl, rfl⟩ (by simp [Value.category]) (Nat.le_of_ble_eq_true rfl) rfl ?_
  refine pw_aload_n dX8_recalled_0 rfl ?_
  refine pw_aload_n dX8_recalled_1 rfl ?_
  refine pw_iload_n dX8_recalled_2 rfl ?_
  refine pw_cV dX8_recalled_3 (sp_X8_isLot) mi_X8_isLot mv_X8_isLot ml_X8_98 sh_253 rfl rfl rfl rfl ⟨rfl, rfl⟩ rfl rfl ?_
  refine pw_if_eq dX8_recalled_6 (tgt := 13) (by decide) (fun c6 => ?_) (fun c6 => absurd c6 (fun q => q (b2iF e)))
  refine pw_iconst dX8_recalled_13 (v := 1) (by decide) ?_
  refine pw_puti dX8_recalled_14 lf_X8_42 lp_8_5 sh_253 rfl rfl rfl ?_
  refine pw_aload_n dX8_recalled_17 rfl ?_
  refine pw_geti dX8_recalled_18 lf_X8_42 sh_253 rfl ?_
  refine pw_if_ne dX8_recalled_21 (tgt := 32) (by decide) (fun c21 => ?_) (fun c21 => absurd c21 ((show ¬ ((1 : Int32) = 0) from by decide)))
  refine pw_iconst dX8_recalled_32 (v := 0) (by decide) ?_
  exact pw_iretF dX8_recalled_33 rfl rfl rfl rfl rfl

set_option maxRecDepth 100000 in
set_option maxHeartbeats 4000000 in
theorem sp_X8_recalled_ok {l : Launch} {G : GC} {ad : Nat → Nat} {h : HP} {nL nH nB nC : Nat} {np : Nat → Nat} {pl : Nat → Nat → Nat} {lb : Nat → Nat} (hw : MW h nL nH nB nC np pl lb) {lot : Nat} (hlot : lot < nL) : PF l G yX8_recalled (.code yX8_recalled cX8_recalled 2 ((Option.some FieldType.int))) { frames := 3, cells := 0, slots := 0, locals := 68 } [.ref (ad 253), .int (nI lot)] SW ad (h) (some (.int (orI (fun b => ifOr (decide (0 < (mwH (hput h 253 5 0) np pl lot nL) 262 (lb b))) (bit1 b)) nB))) (mwH (hput h 253 5 0) np pl lot nL) := by
  refine PF.mk (L0 := [some (.ref (ad 253)), some (.int (nI lot))]) RX8 "recalled" 0 0 (by decide +kernel) rfl rfl ⟨rfl, rfl⟩ (by simp [Value.category]) (Nat.le_of_ble_eq_true rfl) rfl ?_
  have hwf : MW (hput h 253 5 0) nL nH nB nC np pl lb := MW_o hw (hput_ne h 5 0 (by decide))
  have hb1 := hw.1.2
  have hb2 := hw.2.1.2
  have hb3 := hw.2.2.1.2
  have hb4 := hw.2.2.2.1.2
  have hlot24 : lot < 24 := by omega
  refine pw_aload_n dX8_recalled_0 rfl ?_
  refine pw_aload_n dX8_recalled_1 rfl ?_
  refine pw_iload_n dX8_recalled_2 rfl ?_
  refine pw_cV dX8_recalled_3 (sp_X8_isLot) mi_X8_isLot mv_X8_isLot ml_X8_98 sh_253 rfl rfl rfl rfl ⟨rfl, rfl⟩ rfl rfl ?_
  refine pw_if_eq dX8_recalled_6 (tgt := 13) (by decide) (fun c6 => absurd c6 (b2iT (show wiB (nI lot) 0 (h 254 0 - 1) = true from wi_ok hw.1.1 hlot (by have := hw.1.2; omega)))) (fun c6 => ?_)
  refine pw_iconst dX8_recalled_9 (v := 0) (by decide) ?_
  refine pw_goto dX8_recalled_10 (tgt := 14) (by decide) ?_
  refine pw_puti dX8_recalled_14 lf_X8_42 lp_8_5 sh_253 rfl rfl rfl ?_
  refine pw_aload_n dX8_recalled_17 rfl ?_
  refine pw_geti dX8_recalled_18 lf_X8_42 sh_253 rfl ?_
  refine pw_if_ne dX8_recalled_21 (tgt := 32) (by decide) (fun c21 => absurd c21 (fun q => q rfl)) (fun c21 => ?_)
  refine pw_aload_n dX8_recalled_24 rfl ?_
  refine pw_iload_n dX8_recalled_25 rfl ?_
  refine pw_cV dX8_recalled_26 (sp_X8_recalling hwf hlot24) mi_X8_recalling mv_X8_recalling ml_X8_214 sh_253 rfl rfl rfl rfl ⟨rfl, rfl⟩ rfl rfl ?_
  refine pw_goto dX8_recalled_29 (tgt := 33) (by decide) ?_
  exact pw_iretF dX8_recalled_33 rfl rfl rfl rfl rfl

set_option maxRecDepth 100000 in
set_option maxHeartbeats 4000000 in
theorem sp_X8_recalledAgain_no1 {l : Launch} {G : GC} {ad : Nat → Nat} {h : HP} {n : Int32} (e : wiB n 0 (h 254 0 - 1) = false) : PF l G yX8_recalledAgain (.code yX8_recalledAgain cX8_recalledAgain 2 ((Option.some FieldType.int))) { frames := 3, cells := 0, slots := 0, locals := 68 } [.ref (ad 253), .int (n)] SW ad (h) (some (.int 0)) (faH h 1) := by
  refine PF.mk (L0 := [some (.ref (ad 253)), some (.int (n))]) RX8 "recalledAgain" 0 0 (by decide +kernel) rfl rfl ⟨rfl, rfl⟩ (by simp [Value.category]) (Nat.le_of_ble_eq_true rfl) rfl ?_
  refine pw_aload_n dX8_recalledAgain_0 rfl ?_
  refine pw_aload_n dX8_recalledAgain_1 rfl ?_
  refine pw_iload_n dX8_recalledAgain_2 rfl ?_
  refine pw_cV dX8_recalledAgain_3 (sp_X8_isLot) mi_X8_isLot mv_X8_isLot ml_X8_98 sh_253 rfl rfl rfl rfl ⟨rfl, rfl⟩ rfl rfl ?_
  refine pw_if_eq dX8_recalledAgain_6 (tgt := 13) (by decide) (fun c6 => ?_) (fun c6 => absurd c6 (fun q => q (b2iF e)))
  refine pw_iconst dX8_recalledAgain_13 (v := 1) (by decide) ?_
  refine pw_puti dX8_recalledAgain_14 lf_X8_42 lp_8_5 sh_253 rfl rfl rfl ?_
  refine pw_aload_n dX8_recalledAgain_17 rfl ?_
  refine pw_geti dX8_recalledAgain_18 lf_X8_42 sh_253 rfl ?_
  refine pw_if_ne dX8_recalledAgain_21 (tgt := 32) (by decide) (fun c21 => ?_) (fun c21 => absurd c21 ((show ¬ ((1 : Int32) = 0) from by decide)))
  refine pw_iconst dX8_recalledAgain_32 (v := 0) (by decide) ?_
  exact pw_iretF dX8_recalledAgain_33 rfl rfl rfl rfl rfl

set_option maxRecDepth 100000 in
set_option maxHeartbeats 4000000 in
theorem sp_X8_recalledAgain_ok {l : Launch} {G : GC} {ad : Nat → Nat} {h : HP} {nL nH nB nC : Nat} {np : Nat → Nat} {pl : Nat → Nat → Nat} {lb : Nat → Nat} (hw : MW h nL nH nB nC np pl lb) {lot : Nat} (hlot : lot < nL) : PF l G yX8_recalledAgain (.code yX8_recalledAgain cX8_recalledAgain 2 ((Option.some FieldType.int))) { frames := 3, cells := 0, slots := 0, locals := 68 } [.ref (ad 253), .int (nI lot)] SW ad (h) (some (.int (orI (fun b => ifOr (decide (0 < (mwH (hput h 253 5 0) np pl lot nL) 262 (lb b))) (bit1 b)) nB))) (mwH (hput h 253 5 0) np pl lot nL) := by
  refine PF.mk (L0 := [some (.ref (ad 253)), some (.int (nI lot))]) RX8 "recalledAgain" 0 0 (by decide +kernel) rfl rfl ⟨rfl, rfl⟩ (by simp [Value.category]) (Nat.le_of_ble_eq_true rfl) rfl ?_
  have hwf : MW (hput h 253 5 0) nL nH nB nC np pl lb := MW_o hw (hput_ne h 5 0 (by decide))
  have hb1 := hw.1.2
  have hb2 := hw.2.1.2
  have hb3 := hw.2.2.1.2
  have hb4 := hw.2.2.2.1.2
  have hlot24 : lot < 24 := by omega
  refine pw_aload_n dX8_recalledAgain_0 rfl ?_
  refine pw_aload_n dX8_recalledAgain_1 rfl ?_
  refine pw_iload_n dX8_recalledAgain_2 rfl ?_
  refine pw_cV dX8_recalledAgain_3 (sp_X8_isLot) mi_X8_isLot mv_X8_isLot ml_X8_98 sh_253 rfl rfl rfl rfl ⟨rfl, rfl⟩ rfl rfl ?_
  refine pw_if_eq dX8_recalledAgain_6 (tgt := 13) (by decide) (fun c6 => absurd c6 (b2iT (show wiB (nI lot) 0 (h 254 0 - 1) = true from wi_ok hw.1.1 hlot (by have := hw.1.2; omega)))) (fun c6 => ?_)
  refine pw_iconst dX8_recalledAgain_9 (v := 0) (by decide) ?_
  refine pw_goto dX8_recalledAgain_10 (tgt := 14) (by decide) ?_
  refine pw_puti dX8_recalledAgain_14 lf_X8_42 lp_8_5 sh_253 rfl rfl rfl ?_
  refine pw_aload_n dX8_recalledAgain_17 rfl ?_
  refine pw_geti dX8_recalledAgain_18 lf_X8_42 sh_253 rfl ?_
  refine pw_if_ne dX8_recalledAgain_21 (tgt := 32) (by decide) (fun c21 => absurd c21 (fun q => q rfl)) (fun c21 => ?_)
  refine pw_aload_n dX8_recalledAgain_24 rfl ?_
  refine pw_iload_n dX8_recalledAgain_25 rfl ?_
  refine pw_cV dX8_recalledAgain_26 (sp_X8_recalling hwf hlot24) mi_X8_recalling mv_X8_recalling ml_X8_214 sh_253 rfl rfl rfl rfl ⟨rfl, rfl⟩ rfl rfl ?_
  refine pw_goto dX8_recalledAgain_29 (tgt := 33) (by decide) ?_
  exact pw_iretF dX8_recalledAgain_33 rfl rfl rfl rfl rfl

set_option maxRecDepth 100000 in
set_option maxHeartbeats 4000000 in
theorem sp_X8_bottlesOf_no1 {l : Launch} {G : GC} {ad : Nat → Nat} {h : HP} {n m : Int32} (e : wiB n 0 (h 254 0 - 1) = false) : PF l G yX8_bottlesOf (.code yX8_bottlesOf cX8_bottlesOf 7 ((Option.some FieldType.int))) { frames := 3, cells := 0, slots := 0, locals := 68 } [.ref (ad 253), .int (n), .int (m)] SW ad (h) (some (.int 0)) (faH h 1) := by
  refine PF.mk (L0 := [some (.ref (ad 253)), some (.int (n)), some (.int (m)), none, none, none, none]) RX8 "bottlesOf" 0 0 (by decide +kernel) rfl rfl ⟨rfl, rfl⟩ (by simp [Value.category]) (Nat.le_of_ble_eq_true rfl) rfl ?_
  refine pw_aload_n dX8_bottlesOf_0 rfl ?_
  refine pw_aload_n dX8_bottlesOf_1 rfl ?_
  refine pw_iload_n dX8_bottlesOf_2 rfl ?_
  refine pw_cV dX8_bottlesOf_3 (sp_X8_isLot) mi_X8_isLot mv_X8_isLot ml_X8_98 sh_253 rfl rfl rfl rfl ⟨rfl, rfl⟩ rfl rfl ?_
  refine pw_if_eq dX8_bottlesOf_6 (tgt := 26) (by decide) (fun c6 => ?_) (fun c6 => absurd c6 (fun q => q (b2iF e)))
  refine pw_iconst dX8_bottlesOf_26 (v := 1) (by decide) ?_
  refine pw_puti dX8_bottlesOf_27 lf_X8_42 lp_8_5 sh_253 rfl rfl rfl ?_
  refine pw_aload_n dX8_bottlesOf_30 rfl ?_
  refine pw_geti dX8_bottlesOf_31 lf_X8_42 sh_253 rfl ?_
  refine pw_if_eq dX8_bottlesOf_34 (tgt := 39) (by decide) (fun c34 => absurd c34 ((show ¬ ((1 : Int32) = 0) from by decide))) (fun c34 => ?_)
  refine pw_iconst dX8_bottlesOf_37 (v := 0) (by decide) ?_
  exact pw_iretF dX8_bottlesOf_38 rfl rfl rfl rfl rfl

set_option maxRecDepth 100000 in
set_option maxHeartbeats 4000000 in
theorem sp_X8_bottlesOf_no2 {l : Launch} {G : GC} {ad : Nat → Nat} {h : HP} {n m : Int32} (e : wiB n 0 (h 254 0 - 1) = true) (e1 : ¬ m = -1) (e2 : wiB m 0 (h 254 3 - 1) = false) : PF l G yX8_bottlesOf (.code yX8_bottlesOf cX8_bottlesOf 7 ((Option.some FieldType.int))) { frames := 3, cells := 0, slots := 0, locals := 68 } [.ref (ad 253), .int (n), .int (m)] SW ad (h) (some (.int 0)) (faH h 1) := by
  refine PF.mk (L0 := [some (.ref (ad 253)), some (.int (n)), some (.int (m)), none, none, none, none]) RX8 "bottlesOf" 0 0 (by decide +kernel) rfl rfl ⟨rfl, rfl⟩ (by simp [Value.category]) (Nat.le_of_ble_eq_true rfl) rfl ?_
  refine pw_aload_n dX8_bottlesOf_0 rfl ?_
  refine pw_aload_n dX8_bottlesOf_1 rfl ?_
  refine pw_iload_n dX8_bottlesOf_2 rfl ?_
  refine pw_cV dX8_bottlesOf_3 (sp_X8_isLot) mi_X8_isLot mv_X8_isLot ml_X8_98 sh_253 rfl rfl rfl rfl ⟨rfl, rfl⟩ rfl rfl ?_
  refine pw_if_eq dX8_bottlesOf_6 (tgt := 26) (by decide) (fun c6 => absurd c6 (b2iT e)) (fun c6 => ?_)
  refine pw_iload_n dX8_bottlesOf_9 rfl ?_
  refine pw_iconst dX8_bottlesOf_10 (v := (-1)) (by decide) ?_
  refine pw_icmp_eq dX8_bottlesOf_11 (tgt := 22) (by decide) (fun c11 => absurd c11 (e1)) (fun c11 => ?_)
  refine pw_aload_n dX8_bottlesOf_14 rfl ?_
  refine pw_iload_n dX8_bottlesOf_15 rfl ?_
  refine pw_cV dX8_bottlesOf_16 (sp_X8_isCustomer) mi_X8_isCustomer mv_X8_isCustomer ml_X8_196 sh_253 rfl rfl rfl rfl ⟨rfl, rfl⟩ rfl rfl ?_
  refine pw_if_eq dX8_bottlesOf_19 (tgt := 26) (by decide) (fun c19 => ?_) (fun c19 => absurd c19 (fun q => q (b2iF e2)))
  refine pw_iconst dX8_bottlesOf_26 (v := 1) (by decide) ?_
  refine pw_puti dX8_bottlesOf_27 lf_X8_42 lp_8_5 sh_253 rfl rfl rfl ?_
  refine pw_aload_n dX8_bottlesOf_30 rfl ?_
  refine pw_geti dX8_bottlesOf_31 lf_X8_42 sh_253 rfl ?_
  refine pw_if_eq dX8_bottlesOf_34 (tgt := 39) (by decide) (fun c34 => absurd c34 ((show ¬ ((1 : Int32) = 0) from by decide))) (fun c34 => ?_)
  refine pw_iconst dX8_bottlesOf_37 (v := 0) (by decide) ?_
  exact pw_iretF dX8_bottlesOf_38 rfl rfl rfl rfl rfl

set_option maxRecDepth 100000 in
set_option maxHeartbeats 4000000 in
theorem lp_X8_bottlesOf_ok1 {l : Launch} {G : GC} {ad : Nat → Nat} {g : HP} {nL nH nB nC : Nat} {np : Nat → Nat} {pl : Nat → Nat → Nat} {lb : Nat → Nat} (hw : MW g nL nH nB nC np pl lb) {st : Int32} {y1 : Option Value} : ∀ (mu9 : Nat) (i : Nat) (x : Int32) (y6 : Option Value) (hi : i ≤ nB) (hx : x = sumC (fun b => if inS st (nI b) = true then mB g b 2 else 0) i) (hmu9 : nB - i < mu9), PW l G cX8_bottlesOf RX8 7 ((Option.some FieldType.int)) [] { frames := 3, cells := 0, slots := 0, locals := 68 } (gNm "bottlesOf") (gME G SW ad (gR SW ad (some (.int (sumC (fun b => if inS st (nI b) = true then mB g b 2 else 0) nB))) (g)) gNo 0 0) 51 [some (.ref (ad 253)), y1, some (.int (-1)), some (.int st), some (.int x), some (.int (nI i)), y6] [] SW ad (g) 0 0 := by
  intro mu9
  induction mu9 with
  | zero => intro i x y6 hi hx hmu9; exact absurd hmu9 (Nat.not_lt_zero _)
  | succ mu9 ih =>
    intro i x y6 hi hx hmu9
    have hb1 := hw.1.2
    have hb3 := hw.2.2.1.2
    have hb4 := hw.2.2.2.1.2
    refine pw_iload dX8_bottlesOf_51 rfl ?_
    refine pw_aload_n dX8_bottlesOf_53 rfl ?_
    refine pw_getr dX8_bottlesOf_54 lf_X8_9 sh_253 rfl ?_
    refine pw_iconst dX8_bottlesOf_57 (v := 2) (by decide) ?_
    refine pw_iaload dX8_bottlesOf_58 sh_254 (vpin (n := 2) (N := 1032) (by decide) (by decide)) ?_
    refine pw_icmp_ge dX8_bottlesOf_59 (tgt := 121) (by decide) (fun c59 => ?_) (fun c59 => ?_)
    · skip
      have hi8 : i = nB := eqN hw.2.2.1.1 hi (by omega) c59
      refine pw_iload dX8_bottlesOf_121 rfl ?_
      exact pw_iretF dX8_bottlesOf_123 rfl rfl rfl (by rw [hx, hi8]) rfl
    · skip
      have hi9 : i < nB := ltN hw.2.2.1.1 hi (by omega) c59
      refine pw_iload_n dX8_bottlesOf_62 rfl ?_
      refine pw_iload dX8_bottlesOf_63 rfl ?_
      refine pw_ishr dX8_bottlesOf_65 ?_
      refine pw_iconst dX8_bottlesOf_66 (v := 1) (by decide) ?_
      refine pw_iand dX8_bottlesOf_67 ?_
      refine pw_iconst dX8_bottlesOf_68 (v := 1) (by decide) ?_
      refine pw_icmp_ne dX8_bottlesOf_69 (tgt := 76) (by decide) (fun c69 => ?_) (fun c69 => ?_)
      · skip
        refine pw_iconst dX8_bottlesOf_76 (v := 0) (by decide) ?_
        refine pw_istore dX8_bottlesOf_77 (by decide) rfl ?_
        refine pw_iload dX8_bottlesOf_79 rfl ?_
        refine pw_iload dX8_bottlesOf_81 rfl ?_
        refine pw_if_ne dX8_bottlesOf_83 (tgt := 90) (by decide) (fun c83 => absurd c83 (by decide)) (fun c83 => ?_)
        refine pw_iconst dX8_bottlesOf_86 (v := 0) (by decide) ?_
        refine pw_goto dX8_bottlesOf_87 (tgt := 112) (by decide) ?_
        refine pw_iadd dX8_bottlesOf_112 ?_
        refine pw_istore dX8_bottlesOf_113 (by decide) rfl ?_
        refine pw_iinc dX8_bottlesOf_115 rfl (d := 1) (by decide) (by decide) rfl ?_
        rw [nI_1]
        refine pw_goto dX8_bottlesOf_118 (tgt := 51) (by decide) ?_
        refine ih (i + 1) _ _ (by omega) ?_ (by omega)
        rw [Int32.add_zero]
        exact sum_n (p := (fun b => inS st (nI b) = true)) (f := (fun b => mB g b 2)) hx (fun q => c69 (of_decide_eq_true q))
      · skip
        refine pw_iconst dX8_bottlesOf_72 (v := 1) (by decide) ?_
        refine pw_goto dX8_bottlesOf_73 (tgt := 77) (by decide) ?_
        refine pw_istore dX8_bottlesOf_77 (by decide) rfl ?_
        refine pw_iload dX8_bottlesOf_79 rfl ?_
        refine pw_iload dX8_bottlesOf_81 rfl ?_
        refine pw_if_ne dX8_bottlesOf_83 (tgt := 90) (by decide) (fun c83 => ?_) (fun c83 => absurd c83 (by decide))
        refine pw_iload_n dX8_bottlesOf_90 rfl ?_
        refine pw_iconst dX8_bottlesOf_91 (v := (-1)) (by decide) ?_
        refine pw_icmp_ne dX8_bottlesOf_92 (tgt := 105) (by decide) (fun c92 => absurd c92 (fun q => q rfl)) (fun c92 => ?_)
        refine pw_aload_n dX8_bottlesOf_95 rfl ?_
        refine pw_iload dX8_bottlesOf_96 rfl ?_
        refine pw_iconst dX8_bottlesOf_98 (v := 2) (by decide) ?_
        refine pw_cV dX8_bottlesOf_99 (sp_X8_b (b := i) (k := 2) (by omega)) mi_X8_b mv_X8_b ml_X8_169 sh_253 rfl rfl rfl rfl ⟨rfl, rfl⟩ rfl rfl ?_
        refine pw_goto dX8_bottlesOf_102 (tgt := 112) (by decide) ?_
        refine pw_iadd dX8_bottlesOf_112 ?_
        refine pw_istore dX8_bottlesOf_113 (by decide) rfl ?_
        refine pw_iinc dX8_bottlesOf_115 rfl (d := 1) (by decide) (by decide) rfl ?_
        rw [nI_1]
        refine pw_goto dX8_bottlesOf_118 (tgt := 51) (by decide) ?_
        refine ih (i + 1) _ _ (by omega) ?_ (by omega)
        exact sum_s (p := (fun b => inS st (nI b) = true)) (f := (fun b => mB g b 2)) hx (decide_eq_true c69)

set_option maxRecDepth 100000 in
set_option maxHeartbeats 4000000 in
theorem sp_X8_bottlesOf_ok1 {l : Launch} {G : GC} {ad : Nat → Nat} {h : HP} {nL nH nB nC : Nat} {np : Nat → Nat} {pl : Nat → Nat → Nat} {lb : Nat → Nat} (hw : MW h nL nH nB nC np pl lb) {lot : Nat} (hlot : lot < nL) : PF l G yX8_bottlesOf (.code yX8_bottlesOf cX8_bottlesOf 7 ((Option.some FieldType.int))) { frames := 3, cells := 0, slots := 0, locals := 68 } [.ref (ad 253), .int (nI lot), .int (-1)] SW ad (h) (some (.int (sumC (fun b => if inS (orI (fun b => ifOr (decide (0 < (mwH (hput h 253 5 0) np pl lot nL) 262 (lb b))) (bit1 b)) nB) (nI b) = true then mB (mwH (hput h 253 5 0) np pl lot nL) b 2 else 0) nB))) (mwH (hput h 253 5 0) np pl lot nL) := by
  refine PF.mk (L0 := [some (.ref (ad 253)), some (.int (nI lot)), some (.int (-1)), none, none, none, none]) RX8 "bottlesOf" 0 0 (by decide +kernel) rfl rfl ⟨rfl, rfl⟩ (by simp [Value.category]) (Nat.le_of_ble_eq_true rfl) rfl ?_
  have hwf : MW (hput h 253 5 0) nL nH nB nC np pl lb := MW_o hw (hput_ne h 5 0 (by decide))
  have hb1 := hw.1.2
  have hb2 := hw.2.1.2
  have hb3 := hw.2.2.1.2
  have hb4 := hw.2.2.2.1.2
  have hlot24 : lot < 24 := by omega
  have hwm : MW (mwH (hput h 253 5 0) np pl lot nL) nL nH nB nC np pl lb := MW_o hwf (mwH_o _ np pl lot (by decide) nL)
  refine pw_aload_n dX8_bottlesOf_0 rfl ?_
  refine pw_aload_n dX8_bottlesOf_1 rfl ?_
  refine pw_iload_n dX8_bottlesOf_2 rfl ?_
  refine pw_cV dX8_bottlesOf_3 (sp_X8_isLot) mi_X8_isLot mv_X8_isLot ml_X8_98 sh_253 rfl rfl rfl rfl ⟨rfl, rfl⟩ rfl rfl ?_
  refine pw_if_eq dX8_bottlesOf_6 (tgt := 26) (by decide) (fun c6 => absurd c6 (b2iT (show wiB (nI lot) 0 (h 254 0 - 1) = true from wi_ok hw.1.1 hlot (by have := hw.1.2; omega)))) (fun c6 => ?_)
  refine pw_iload_n dX8_bottlesOf_9 rfl ?_
  refine pw_iconst dX8_bottlesOf_10 (v := (-1)) (by decide) ?_
  refine pw_icmp_eq dX8_bottlesOf_11 (tgt := 22) (by decide) (fun c11 => ?_) (fun c11 => absurd c11 (fun q => q rfl))
  refine pw_iconst dX8_bottlesOf_22 (v := 0) (by decide) ?_
  refine pw_goto dX8_bottlesOf_23 (tgt := 27) (by decide) ?_
  refine pw_puti dX8_bottlesOf_27 lf_X8_42 lp_8_5 sh_253 rfl rfl rfl ?_
  refine pw_aload_n dX8_bottlesOf_30 rfl ?_
  refine pw_geti dX8_bottlesOf_31 lf_X8_42 sh_253 rfl ?_
  refine pw_if_eq dX8_bottlesOf_34 (tgt := 39) (by decide) (fun c34 => ?_) (fun c34 => absurd c34 (fun q => q rfl))
  refine pw_aload_n dX8_bottlesOf_39 rfl ?_
  refine pw_iload_n dX8_bottlesOf_40 rfl ?_
  refine pw_cV dX8_bottlesOf_41 (sp_X8_recalling hwf hlot24) mi_X8_recalling mv_X8_recalling ml_X8_214 sh_253 rfl rfl rfl rfl ⟨rfl, rfl⟩ rfl rfl ?_
  refine pw_istore_n dX8_bottlesOf_44 (by decide) rfl ?_
  refine pw_iconst dX8_bottlesOf_45 (v := 0) (by decide) ?_
  refine pw_istore dX8_bottlesOf_46 (by decide) rfl ?_
  refine pw_iconst dX8_bottlesOf_48 (v := 0) (by decide) ?_
  refine pw_istore dX8_bottlesOf_49 (by decide) rfl ?_
  exact lp_X8_bottlesOf_ok1 (g := (mwH (hput h 253 5 0) np pl lot nL)) hwm (nB + 1) 0 0 none (Nat.zero_le _) rfl (by omega)

set_option maxRecDepth 100000 in
set_option maxHeartbeats 4000000 in
theorem lp_X8_bottlesOf_ok2 {l : Launch} {G : GC} {ad : Nat → Nat} {g : HP} {nL nH nB nC : Nat} {np : Nat → Nat} {pl : Nat → Nat → Nat} {lb : Nat → Nat} (hw : MW g nL nH nB nC np pl lb) {st : Int32} {cu : Nat} (hcu : cu < nC) {y1 : Option Value} : ∀ (mu9 : Nat) (i : Nat) (x : Int32) (y6 : Option Value) (hi : i ≤ nB) (hx : x = sumC (fun b => if inS st (nI b) = true then mHd g cu b else 0) i) (hmu9 : nB - i < mu9), PW l G cX8_bottlesOf RX8 7 ((Option.some FieldType.int)) [] { frames := 3, cells := 0, slots := 0, locals := 68 } (gNm "bottlesOf") (gME G SW ad (gR SW ad (some (.int (sumC (fun b => if inS st (nI b) = true then mHd g cu b else 0) nB))) (g)) gNo 0 0) 51 [some (.ref (ad 253)), y1, some (.int (nI cu)), some (.int st), some (.int x), some (.int (nI i)), y6] [] SW ad (g) 0 0 := by
  intro mu9
  induction mu9 with
  | zero => intro i x y6 hi hx hmu9; exact absurd hmu9 (Nat.not_lt_zero _)
  | succ mu9 ih =>
    intro i x y6 hi hx hmu9
    have hb1 := hw.1.2
    have hb3 := hw.2.2.1.2
    have hb4 := hw.2.2.2.1.2
    have hcu8 : cu < 8 := by omega
    refine pw_iload dX8_bottlesOf_51 rfl ?_
    refine pw_aload_n dX8_bottlesOf_53 rfl ?_
    refine pw_getr dX8_bottlesOf_54 lf_X8_9 sh_253 rfl ?_
    refine pw_iconst dX8_bottlesOf_57 (v := 2) (by decide) ?_
    refine pw_iaload dX8_bottlesOf_58 sh_254 (vpin (n := 2) (N := 1032) (by decide) (by decide)) ?_
    refine pw_icmp_ge dX8_bottlesOf_59 (tgt := 121) (by decide) (fun c59 => ?_) (fun c59 => ?_)
    · skip
      have hi8 : i = nB := eqN hw.2.2.1.1 hi (by omega) c59
      refine pw_iload dX8_bottlesOf_121 rfl ?_
      exact pw_iretF dX8_bottlesOf_123 rfl rfl rfl (by rw [hx, hi8]) rfl
    · skip
      have hi9 : i < nB := ltN hw.2.2.1.1 hi (by omega) c59
      refine pw_iload_n dX8_bottlesOf_62 rfl ?_
      refine pw_iload dX8_bottlesOf_63 rfl ?_
      refine pw_ishr dX8_bottlesOf_65 ?_
      refine pw_iconst dX8_bottlesOf_66 (v := 1) (by decide) ?_
      refine pw_iand dX8_bottlesOf_67 ?_
      refine pw_iconst dX8_bottlesOf_68 (v := 1) (by decide) ?_
      refine pw_icmp_ne dX8_bottlesOf_69 (tgt := 76) (by decide) (fun c69 => ?_) (fun c69 => ?_)
      · skip
        refine pw_iconst dX8_bottlesOf_76 (v := 0) (by decide) ?_
        refine pw_istore dX8_bottlesOf_77 (by decide) rfl ?_
        refine pw_iload dX8_bottlesOf_79 rfl ?_
        refine pw_iload dX8_bottlesOf_81 rfl ?_
        refine pw_if_ne dX8_bottlesOf_83 (tgt := 90) (by decide) (fun c83 => absurd c83 (by decide)) (fun c83 => ?_)
        refine pw_iconst dX8_bottlesOf_86 (v := 0) (by decide) ?_
        refine pw_goto dX8_bottlesOf_87 (tgt := 112) (by decide) ?_
        refine pw_iadd dX8_bottlesOf_112 ?_
        refine pw_istore dX8_bottlesOf_113 (by decide) rfl ?_
        refine pw_iinc dX8_bottlesOf_115 rfl (d := 1) (by decide) (by decide) rfl ?_
        rw [nI_1]
        refine pw_goto dX8_bottlesOf_118 (tgt := 51) (by decide) ?_
        refine ih (i + 1) _ _ (by omega) ?_ (by omega)
        rw [Int32.add_zero]
        exact sum_n (p := (fun b => inS st (nI b) = true)) (f := (fun b => mHd g cu b)) hx (fun q => c69 (of_decide_eq_true q))
      · skip
        refine pw_iconst dX8_bottlesOf_72 (v := 1) (by decide) ?_
        refine pw_goto dX8_bottlesOf_73 (tgt := 77) (by decide) ?_
        refine pw_istore dX8_bottlesOf_77 (by decide) rfl ?_
        refine pw_iload dX8_bottlesOf_79 rfl ?_
        refine pw_iload dX8_bottlesOf_81 rfl ?_
        refine pw_if_ne dX8_bottlesOf_83 (tgt := 90) (by decide) (fun c83 => ?_) (fun c83 => absurd c83 (by decide))
        refine pw_iload_n dX8_bottlesOf_90 rfl ?_
        refine pw_iconst dX8_bottlesOf_91 (v := (-1)) (by decide) ?_
        refine pw_icmp_ne dX8_bottlesOf_92 (tgt := 105) (by decide) (fun c92 => ?_) (fun c92 => absurd c92 (fun q => absurd (q ▸ nI_pos (n := cu) (by omega)) (by decide)))
        refine pw_aload_n dX8_bottlesOf_105 rfl ?_
        refine pw_iload_n dX8_bottlesOf_106 rfl ?_
        refine pw_iload dX8_bottlesOf_107 rfl ?_
        refine pw_cV dX8_bottlesOf_109 (sp_X8_held (c := cu) (b := i) (by omega)) mi_X8_held mv_X8_held ml_X8_181 sh_253 rfl rfl rfl rfl ⟨rfl, rfl⟩ rfl rfl ?_
        refine pw_iadd dX8_bottlesOf_112 ?_
        refine pw_istore dX8_bottlesOf_113 (by decide) rfl ?_
        refine pw_iinc dX8_bottlesOf_115 rfl (d := 1) (by decide) (by decide) rfl ?_
        rw [nI_1]
        refine pw_goto dX8_bottlesOf_118 (tgt := 51) (by decide) ?_
        refine ih (i + 1) _ _ (by omega) ?_ (by omega)
        exact sum_s (p := (fun b => inS st (nI b) = true)) (f := (fun b => mHd g cu b)) hx (decide_eq_true c69)

set_option maxRecDepth 100000 in
set_option maxHeartbeats 4000000 in
theorem sp_X8_bottlesOf_ok2 {l : Launch} {G : GC} {ad : Nat → Nat} {h : HP} {nL nH nB nC : Nat} {np : Nat → Nat} {pl : Nat → Nat → Nat} {lb : Nat → Nat} (hw : MW h nL nH nB nC np pl lb) {lot : Nat} (hlot : lot < nL) {cu : Nat} (hcu : cu < nC) : PF l G yX8_bottlesOf (.code yX8_bottlesOf cX8_bottlesOf 7 ((Option.some FieldType.int))) { frames := 3, cells := 0, slots := 0, locals := 68 } [.ref (ad 253), .int (nI lot), .int (nI cu)] SW ad (h) (some (.int (sumC (fun b => if inS (orI (fun b => ifOr (decide (0 < (mwH (hput h 253 5 0) np pl lot nL) 262 (lb b))) (bit1 b)) nB) (nI b) = true then mHd (mwH (hput h 253 5 0) np pl lot nL) cu b else 0) nB))) (mwH (hput h 253 5 0) np pl lot nL) := by
  refine PF.mk (L0 := [some (.ref (ad 253)), some (.int (nI lot)), some (.int (nI cu)), none, none, none, none]) RX8 "bottlesOf" 0 0 (by decide +kernel) rfl rfl ⟨rfl, rfl⟩ (by simp [Value.category]) (Nat.le_of_ble_eq_true rfl) rfl ?_
  have hwf : MW (hput h 253 5 0) nL nH nB nC np pl lb := MW_o hw (hput_ne h 5 0 (by decide))
  have hb1 := hw.1.2
  have hb2 := hw.2.1.2
  have hb3 := hw.2.2.1.2
  have hb4 := hw.2.2.2.1.2
  have hlot24 : lot < 24 := by omega
  have hwm : MW (mwH (hput h 253 5 0) np pl lot nL) nL nH nB nC np pl lb := MW_o hwf (mwH_o _ np pl lot (by decide) nL)
  refine pw_aload_n dX8_bottlesOf_0 rfl ?_
  refine pw_aload_n dX8_bottlesOf_1 rfl ?_
  refine pw_iload_n dX8_bottlesOf_2 rfl ?_
  refine pw_cV dX8_bottlesOf_3 (sp_X8_isLot) mi_X8_isLot mv_X8_isLot ml_X8_98 sh_253 rfl rfl rfl rfl ⟨rfl, rfl⟩ rfl rfl ?_
  refine pw_if_eq dX8_bottlesOf_6 (tgt := 26) (by decide) (fun c6 => absurd c6 (b2iT (show wiB (nI lot) 0 (h 254 0 - 1) = true from wi_ok hw.1.1 hlot (by have := hw.1.2; omega)))) (fun c6 => ?_)
  refine pw_iload_n dX8_bottlesOf_9 rfl ?_
  refine pw_iconst dX8_bottlesOf_10 (v := (-1)) (by decide) ?_
  refine pw_icmp_eq dX8_bottlesOf_11 (tgt := 22) (by decide) (fun c11 => absurd c11 (fun q => absurd (q ▸ nI_pos (n := cu) (by omega)) (by decide))) (fun c11 => ?_)
  refine pw_aload_n dX8_bottlesOf_14 rfl ?_
  refine pw_iload_n dX8_bottlesOf_15 rfl ?_
  refine pw_cV dX8_bottlesOf_16 (sp_X8_isCustomer) mi_X8_isCustomer mv_X8_isCustomer ml_X8_196 sh_253 rfl rfl rfl rfl ⟨rfl, rfl⟩ rfl rfl ?_
  refine pw_if_eq dX8_bottlesOf_19 (tgt := 26) (by decide) (fun c19 => absurd c19 (b2iT (show wiB (nI cu) 0 (h 254 3 - 1) = true from wi_ok hw.2.2.2.1.1 hcu (by omega)))) (fun c19 => ?_)
  refine pw_iconst dX8_bottlesOf_22 (v := 0) (by decide) ?_
  refine pw_goto dX8_bottlesOf_23 (tgt := 27) (by decide) ?_
  refine pw_puti dX8_bottlesOf_27 lf_X8_42 lp_8_5 sh_253 rfl rfl rfl ?_
  refine pw_aload_n dX8_bottlesOf_30 rfl ?_
  refine pw_geti dX8_bottlesOf_31 lf_X8_42 sh_253 rfl ?_
  refine pw_if_eq dX8_bottlesOf_34 (tgt := 39) (by decide) (fun c34 => ?_) (fun c34 => absurd c34 (fun q => q rfl))
  refine pw_aload_n dX8_bottlesOf_39 rfl ?_
  refine pw_iload_n dX8_bottlesOf_40 rfl ?_
  refine pw_cV dX8_bottlesOf_41 (sp_X8_recalling hwf hlot24) mi_X8_recalling mv_X8_recalling ml_X8_214 sh_253 rfl rfl rfl rfl ⟨rfl, rfl⟩ rfl rfl ?_
  refine pw_istore_n dX8_bottlesOf_44 (by decide) rfl ?_
  refine pw_iconst dX8_bottlesOf_45 (v := 0) (by decide) ?_
  refine pw_istore dX8_bottlesOf_46 (by decide) rfl ?_
  refine pw_iconst dX8_bottlesOf_48 (v := 0) (by decide) ?_
  refine pw_istore dX8_bottlesOf_49 (by decide) rfl ?_
  exact lp_X8_bottlesOf_ok2 (g := (mwH (hput h 253 5 0) np pl lot nL)) hwm hcu (nB + 1) 0 0 none (Nat.zero_le _) rfl (by omega)

set_option maxRecDepth 100000 in
set_option maxHeartbeats 4000000 in
theorem sp_X8_ways_no1 {l : Launch} {G : GC} {ad : Nat → Nat} {h : HP} {n m : Int32} (e : wiB n 0 (h 254 0 - 1) = false) : PF l G yX8_ways (.code yX8_ways cX8_ways 3 ((Option.some FieldType.int))) { frames := 2, cells := 0, slots := 0, locals := 45 } [.ref (ad 253), .int (n), .int (m)] SW ad (h) (some (.int 0)) (faH h 1) := by
  refine PF.mk (L0 := [some (.ref (ad 253)), some (.int (n)), some (.int (m))]) RX8 "ways" 0 0 (by decide +kernel) rfl rfl ⟨rfl, rfl⟩ (by simp [Value.category]) (Nat.le_of_ble_eq_true rfl) rfl ?_
  refine pw_aload_n dX8_ways_0 rfl ?_
  refine pw_aload_n dX8_ways_1 rfl ?_
  refine pw_iload_n dX8_ways_2 rfl ?_
  refine pw_cV dX8_ways_3 (sp_X8_isLot) mi_X8_isLot mv_X8_isLot ml_X8_98 sh_253 rfl rfl rfl rfl ⟨rfl, rfl⟩ rfl rfl ?_
  refine pw_if_eq dX8_ways_6 (tgt := 21) (by decide) (fun c6 => ?_) (fun c6 => absurd c6 (fun q => q (b2iF e)))
  refine pw_iconst dX8_ways_21 (v := 1) (by decide) ?_
  refine pw_puti dX8_ways_22 lf_X8_42 lp_8_5 sh_253 rfl rfl rfl ?_
  refine pw_aload_n dX8_ways_25 rfl ?_
  refine pw_geti dX8_ways_26 lf_X8_42 sh_253 rfl ?_
  refine pw_if_eq dX8_ways_29 (tgt := 34) (by decide) (fun c29 => absurd c29 ((show ¬ ((1 : Int32) = 0) from by decide))) (fun c29 => ?_)
  refine pw_iconst dX8_ways_32 (v := 0) (by decide) ?_
  exact pw_iretF dX8_ways_33 rfl rfl rfl rfl rfl

set_option maxRecDepth 100000 in
set_option maxHeartbeats 4000000 in
theorem sp_X8_ways_no2 {l : Launch} {G : GC} {ad : Nat → Nat} {h : HP} {n m : Int32} (e : wiB n 0 (h 254 0 - 1) = true) (e2 : wiB m 0 (h 254 0 - 1) = false) : PF l G yX8_ways (.code yX8_ways cX8_ways 3 ((Option.some FieldType.int))) { frames := 2, cells := 0, slots := 0, locals := 45 } [.ref (ad 253), .int (n), .int (m)] SW ad (h) (some (.int 0)) (faH h 1) := by
  refine PF.mk (L0 := [some (.ref (ad 253)), some (.int (n)), some (.int (m))]) RX8 "ways" 0 0 (by decide +kernel) rfl rfl ⟨rfl, rfl⟩ (by simp [Value.category]) (Nat.le_of_ble_eq_true rfl) rfl ?_
  refine pw_aload_n dX8_ways_0 rfl ?_
  refine pw_aload_n dX8_ways_1 rfl ?_
  refine pw_iload_n dX8_ways_2 rfl ?_
  refine pw_cV dX8_ways_3 (sp_X8_isLot) mi_X8_isLot mv_X8_isLot ml_X8_98 sh_253 rfl rfl rfl rfl ⟨rfl, rfl⟩ rfl rfl ?_
  refine pw_if_eq dX8_ways_6 (tgt := 21) (by decide) (fun c6 => absurd c6 (b2iT e)) (fun c6 => ?_)
  refine pw_aload_n dX8_ways_9 rfl ?_
  refine pw_iload_n dX8_ways_10 rfl ?_
  refine pw_cV dX8_ways_11 (sp_X8_isLot) mi_X8_isLot mv_X8_isLot ml_X8_98 sh_253 rfl rfl rfl rfl ⟨rfl, rfl⟩ rfl rfl ?_
  refine pw_if_eq dX8_ways_14 (tgt := 21) (by decide) (fun c14 => ?_) (fun c14 => absurd c14 (fun q => q (b2iF e2)))
  refine pw_iconst dX8_ways_21 (v := 1) (by decide) ?_
  refine pw_puti dX8_ways_22 lf_X8_42 lp_8_5 sh_253 rfl rfl rfl ?_
  refine pw_aload_n dX8_ways_25 rfl ?_
  refine pw_geti dX8_ways_26 lf_X8_42 sh_253 rfl ?_
  refine pw_if_eq dX8_ways_29 (tgt := 34) (by decide) (fun c29 => absurd c29 ((show ¬ ((1 : Int32) = 0) from by decide))) (fun c29 => ?_)
  refine pw_iconst dX8_ways_32 (v := 0) (by decide) ?_
  exact pw_iretF dX8_ways_33 rfl rfl rfl rfl rfl

set_option maxRecDepth 100000 in
set_option maxHeartbeats 4000000 in
theorem sp_X8_ways_ok {l : Launch} {G : GC} {ad : Nat → Nat} {h : HP} {nL nH nB nC : Nat} {np : Nat → Nat} {pl : Nat → Nat → Nat} {lb : Nat → Nat} (hw : MW h nL nH nB nC np pl lb) {lot : Nat} (hlot : lot < nL) {into : Nat} (hinto : into < nL) : PF l G yX8_ways (.code yX8_ways cX8_ways 3 ((Option.some FieldType.int))) { frames := 2, cells := 0, slots := 0, locals := 45 } [.ref (ad 253), .int (nI lot), .int (nI into)] SW ad (h) (some (.int ((mwH (hput h 253 5 0) np pl lot nL) 262 into))) (mwH (hput h 253 5 0) np pl lot nL) := by
  refine PF.mk (L0 := [some (.ref (ad 253)), some (.int (nI lot)), some (.int (nI into))]) RX8 "ways" 0 0 (by decide +kernel) rfl rfl ⟨rfl, rfl⟩ (by simp [Value.category]) (Nat.le_of_ble_eq_true rfl) rfl ?_
  have hwf : MW (hput h 253 5 0) nL nH nB nC np pl lb := MW_o hw (hput_ne h 5 0 (by decide))
  have hb1 := hw.1.2
  have hb2 := hw.2.1.2
  have hb3 := hw.2.2.1.2
  have hb4 := hw.2.2.2.1.2
  have hlot24 : lot < 24 := by omega
  refine pw_aload_n dX8_ways_0 rfl ?_
  refine pw_aload_n dX8_ways_1 rfl ?_
  refine pw_iload_n dX8_ways_2 rfl ?_
  refine pw_cV dX8_ways_3 (sp_X8_isLot) mi_X8_isLot mv_X8_isLot ml_X8_98 sh_253 rfl rfl rfl rfl ⟨rfl, rfl⟩ rfl rfl ?_
  refine pw_if_eq dX8_ways_6 (tgt := 21) (by decide) (fun c6 => absurd c6 (b2iT (show wiB (nI lot) 0 (h 254 0 - 1) = true from wi_ok hw.1.1 hlot (by have := hw.1.2; omega)))) (fun c6 => ?_)
  refine pw_aload_n dX8_ways_9 rfl ?_
  refine pw_iload_n dX8_ways_10 rfl ?_
  refine pw_cV dX8_ways_11 (sp_X8_isLot) mi_X8_isLot mv_X8_isLot ml_X8_98 sh_253 rfl rfl rfl rfl ⟨rfl, rfl⟩ rfl rfl ?_
  refine pw_if_eq dX8_ways_14 (tgt := 21) (by decide) (fun c14 => absurd c14 (b2iT (show wiB (nI into) 0 (h 254 0 - 1) = true from wi_ok hw.1.1 hinto (by have := hw.1.2; omega)))) (fun c14 => ?_)
  refine pw_iconst dX8_ways_17 (v := 0) (by decide) ?_
  refine pw_goto dX8_ways_18 (tgt := 22) (by decide) ?_
  refine pw_puti dX8_ways_22 lf_X8_42 lp_8_5 sh_253 rfl rfl rfl ?_
  refine pw_aload_n dX8_ways_25 rfl ?_
  refine pw_geti dX8_ways_26 lf_X8_42 sh_253 rfl ?_
  refine pw_if_eq dX8_ways_29 (tgt := 34) (by decide) (fun c29 => ?_) (fun c29 => absurd c29 (fun q => q rfl))
  refine pw_aload_n dX8_ways_34 rfl ?_
  refine pw_iload_n dX8_ways_35 rfl ?_
  refine pw_cVn dX8_ways_36 (sp_X8_findWays hwf hlot24) mi_X8_findWays mv_X8_findWays ml_X8_211 sh_253 rfl rfl rfl rfl ⟨rfl, rfl⟩ rfl rfl ?_
  refine pw_aload_n dX8_ways_39 rfl ?_
  refine pw_getr dX8_ways_40 lf_X8_39 sh_253 rfl ?_
  refine pw_iload_n dX8_ways_43 rfl ?_
  refine pw_iaload dX8_ways_44 sh_262 (vpin (N := 24) (by omega) (by decide)) ?_
  rw [nI_cl (show into < 2147483648 by omega)]
  exact pw_iretF dX8_ways_45 rfl rfl rfl rfl rfl

set_option maxRecDepth 100000 in
set_option maxHeartbeats 4000000 in
theorem sp_X8_account_no {l : Launch} {G : GC} {ad : Nat → Nat} {h : HP} {m : Int32} (e : wiB m 0 11 = false) : PF l G yX8_account (.code yX8_account cX8_account 2 ((Option.some FieldType.int))) { frames := 2, cells := 0, slots := 0, locals := 45 } [.ref (ad 253), .int (m)] SW ad (h) (some (.int 0)) (faH (faH h 0) 1) := by
  refine PF.mk (L0 := [some (.ref (ad 253)), some (.int (m))]) RX8 "account" 0 0 (by decide +kernel) rfl rfl ⟨rfl, rfl⟩ (by simp [Value.category]) (Nat.le_of_ble_eq_true rfl) rfl ?_
  refine pw_aload_n dX8_account_0 rfl ?_
  refine pw_iconst dX8_account_1 (v := 0) (by decide) ?_
  refine pw_puti dX8_account_2 lf_X8_42 lp_8_5 sh_253 rfl rfl rfl ?_
  refine pw_iload_n dX8_account_5 rfl ?_
  refine pw_tabOut dX8_account_6 (wi11 e) (tgt := 124) (by decide) ?_
  refine pw_aload_n dX8_account_124 rfl ?_
  refine pw_iconst dX8_account_125 (v := 1) (by decide) ?_
  refine pw_cV dX8_account_126 (sp_X8_fail) mi_X8_fail mv_X8_fail ml_X8_48 sh_253 rfl rfl rfl rfl ⟨rfl, rfl⟩ rfl rfl ?_
  exact pw_iretF dX8_account_129 rfl rfl rfl rfl rfl

set_option maxRecDepth 100000 in
set_option maxHeartbeats 4000000 in
theorem sp_X8_account_k0 {l : Launch} {G : GC} {ad : Nat → Nat} {h : HP} {nL nH nB nC : Nat} {np : Nat → Nat} {pl : Nat → Nat → Nat} {lb : Nat → Nat} (hw : MW h nL nH nB nC np pl lb) : PF l G yX8_account (.code yX8_account cX8_account 2 ((Option.some FieldType.int))) { frames := 2, cells := 0, slots := 0, locals := 45 } [.ref (ad 253), .int (0)] SW ad (h) (some (.int (sumC (fun k => mHv h k 3) nH))) (faH h 0) := by
  refine PF.mk (L0 := [some (.ref (ad 253)), some (.int (0))]) RX8 "account" 0 0 (by decide +kernel) rfl rfl ⟨rfl, rfl⟩ (by simp [Value.category]) (Nat.le_of_ble_eq_true rfl) rfl ?_
  have hwf : MW (hput h 253 5 0) nL nH nB nC np pl lb := MW_o hw (hput_ne h 5 0 (by decide))
  have hb1 := hw.1.2
  have hb2 := hw.2.1.2
  have hb3 := hw.2.2.1.2
  have hb4 := hw.2.2.2.1.2
  refine pw_aload_n dX8_account_0 rfl ?_
  refine pw_iconst dX8_account_1 (v := 0) (by decide) ?_
  refine pw_puti dX8_account_2 lf_X8_42 lp_8_5 sh_253 rfl rfl rfl ?_
  refine pw_iload_n dX8_account_5 rfl ?_
  refine pw_tabIn dX8_account_6 (by decide) (by decide) (off := 62) rfl (tgt := 68) (by decide) ?_
  refine pw_aload_n dX8_account_68 rfl ?_
  refine pw_cV dX8_account_69 (sp_X8_sumOfHarvests hwf) mi_X8_sumOfHarvests mv_X8_sumOfHarvests ml_X8_217 sh_253 rfl rfl rfl rfl ⟨rfl, rfl⟩ rfl rfl ?_
  exact pw_iretF dX8_account_72 rfl rfl rfl rfl rfl

set_option maxRecDepth 100000 in
set_option maxHeartbeats 4000000 in
theorem sp_X8_account_k1 {l : Launch} {G : GC} {ad : Nat → Nat} {h : HP} {nL nH nB nC : Nat} {np : Nat → Nat} {pl : Nat → Nat → Nat} {lb : Nat → Nat} (hw : MW h nL nH nB nC np pl lb) : PF l G yX8_account (.code yX8_account cX8_account 2 ((Option.some FieldType.int))) { frames := 2, cells := 0, slots := 0, locals := 45 } [.ref (ad 253), .int (1)] SW ad (h) (some (.int (sumC (fun k => mL h k 1) nL))) (faH h 0) := by
  refine PF.mk (L0 := [some (.ref (ad 253)), some (.int (1))]) RX8 "account" 0 0 (by decide +kernel) rfl rfl ⟨rfl, rfl⟩ (by simp [Value.category]) (Nat.le_of_ble_eq_true rfl) rfl ?_
  have hwf : MW (hput h 253 5 0) nL nH nB nC np pl lb := MW_o hw (hput_ne h 5 0 (by decide))
  have hb1 := hw.1.2
  have hb2 := hw.2.1.2
  have hb3 := hw.2.2.1.2
  have hb4 := hw.2.2.2.1.2
  refine pw_aload_n dX8_account_0 rfl ?_
  refine pw_iconst dX8_account_1 (v := 0) (by decide) ?_
  refine pw_puti dX8_account_2 lf_X8_42 lp_8_5 sh_253 rfl rfl rfl ?_
  refine pw_iload_n dX8_account_5 rfl ?_
  refine pw_tabIn dX8_account_6 (by decide) (by decide) (off := 67) rfl (tgt := 73) (by decide) ?_
  refine pw_aload_n dX8_account_73 rfl ?_
  refine pw_cV dX8_account_74 (sp_X8_sumOfLots hwf) mi_X8_sumOfLots mv_X8_sumOfLots ml_X8_220 sh_253 rfl rfl rfl rfl ⟨rfl, rfl⟩ rfl rfl ?_
  exact pw_iretF dX8_account_77 rfl rfl rfl rfl rfl

set_option maxRecDepth 100000 in
set_option maxHeartbeats 4000000 in
theorem sp_X8_account_k2 {l : Launch} {G : GC} {ad : Nat → Nat} {h : HP} {nL nH nB nC : Nat} {np : Nat → Nat} {pl : Nat → Nat → Nat} {lb : Nat → Nat} (hw : MW h nL nH nB nC np pl lb) : PF l G yX8_account (.code yX8_account cX8_account 2 ((Option.some FieldType.int))) { frames := 2, cells := 0, slots := 0, locals := 45 } [.ref (ad 253), .int (2)] SW ad (h) (some (.int (3 * sumC (fun k => mB h k 1) nB))) (faH h 0) := by
  refine PF.mk (L0 := [some (.ref (ad 253)), some (.int (2))]) RX8 "account" 0 0 (by decide +kernel) rfl rfl ⟨rfl, rfl⟩ (by simp [Value.category]) (Nat.le_of_ble_eq_true rfl) rfl ?_
  have hwf : MW (hput h 253 5 0) nL nH nB nC np pl lb := MW_o hw (hput_ne h 5 0 (by decide))
  have hb1 := hw.1.2
  have hb2 := hw.2.1.2
  have hb3 := hw.2.2.1.2
  have hb4 := hw.2.2.2.1.2
  refine pw_aload_n dX8_account_0 rfl ?_
  refine pw_iconst dX8_account_1 (v := 0) (by decide) ?_
  refine pw_puti dX8_account_2 lf_X8_42 lp_8_5 sh_253 rfl rfl rfl ?_
  refine pw_iload_n dX8_account_5 rfl ?_
  refine pw_tabIn dX8_account_6 (by decide) (by decide) (off := 72) rfl (tgt := 78) (by decide) ?_
  refine pw_iconst dX8_account_78 (v := 3) (by decide) ?_
  refine pw_aload_n dX8_account_79 rfl ?_
  refine pw_iconst dX8_account_80 (v := 1) (by decide) ?_
  refine pw_cV dX8_account_81 (sp_X8_sumOfBottles hwf (w := 1) (by decide)) mi_X8_sumOfBottles mv_X8_sumOfBottles ml_X8_223 sh_253 rfl rfl rfl rfl ⟨rfl, rfl⟩ rfl rfl ?_
  refine pw_imul dX8_account_84 ?_
  exact pw_iretF dX8_account_85 rfl rfl rfl rfl rfl

set_option maxRecDepth 100000 in
set_option maxHeartbeats 4000000 in
theorem sp_X8_account_k3 {l : Launch} {G : GC} {ad : Nat → Nat} {h : HP} {nL nH nB nC : Nat} {np : Nat → Nat} {pl : Nat → Nat → Nat} {lb : Nat → Nat} (hw : MW h nL nH nB nC np pl lb) : PF l G yX8_account (.code yX8_account cX8_account 2 ((Option.some FieldType.int))) { frames := 2, cells := 0, slots := 0, locals := 45 } [.ref (ad 253), .int (3)] SW ad (h) (some (.int (h 254 4))) (faH h 0) := by
  refine PF.mk (L0 := [some (.ref (ad 253)), some (.int (3))]) RX8 "account" 0 0 (by decide +kernel) rfl rfl ⟨rfl, rfl⟩ (by simp [Value.category]) (Nat.le_of_ble_eq_true rfl) rfl ?_
  have hwf : MW (hput h 253 5 0) nL nH nB nC np pl lb := MW_o hw (hput_ne h 5 0 (by decide))
  have hb1 := hw.1.2
  have hb2 := hw.2.1.2
  have hb3 := hw.2.2.1.2
  have hb4 := hw.2.2.2.1.2
  refine pw_aload_n dX8_account_0 rfl ?_
  refine pw_iconst dX8_account_1 (v := 0) (by decide) ?_
  refine pw_puti dX8_account_2 lf_X8_42 lp_8_5 sh_253 rfl rfl rfl ?_
  refine pw_iload_n dX8_account_5 rfl ?_
  refine pw_tabIn dX8_account_6 (by decide) (by decide) (off := 80) rfl (tgt := 86) (by decide) ?_
  refine pw_aload_n dX8_account_86 rfl ?_
  refine pw_getr dX8_account_87 lf_X8_9 sh_253 rfl ?_
  refine pw_iconst dX8_account_90 (v := 4) (by decide) ?_
  refine pw_iaload dX8_account_91 sh_254 (vpin (n := 4) (N := 1032) (by decide) (by decide)) ?_
  exact pw_iretF dX8_account_92 rfl rfl rfl rfl rfl

set_option maxRecDepth 100000 in
set_option maxHeartbeats 4000000 in
theorem sp_X8_account_k4 {l : Launch} {G : GC} {ad : Nat → Nat} {h : HP} {nL nH nB nC : Nat} {np : Nat → Nat} {pl : Nat → Nat → Nat} {lb : Nat → Nat} (hw : MW h nL nH nB nC np pl lb) : PF l G yX8_account (.code yX8_account cX8_account 2 ((Option.some FieldType.int))) { frames := 2, cells := 0, slots := 0, locals := 45 } [.ref (ad 253), .int (4)] SW ad (h) (some (.int (sumC (fun k => mB h k 2) nB))) (faH h 0) := by
  refine PF.mk (L0 := [some (.ref (ad 253)), some (.int (4))]) RX8 "account" 0 0 (by decide +kernel) rfl rfl ⟨rfl, rfl⟩ (by simp [Value.category]) (Nat.le_of_ble_eq_true rfl) rfl ?_
  have hwf : MW (hput h 253 5 0) nL nH nB nC np pl lb := MW_o hw (hput_ne h 5 0 (by decide))
  have hb1 := hw.1.2
  have hb2 := hw.2.1.2
  have hb3 := hw.2.2.1.2
  have hb4 := hw.2.2.2.1.2
  refine pw_aload_n dX8_account_0 rfl ?_
  refine pw_iconst dX8_account_1 (v := 0) (by decide) ?_
  refine pw_puti dX8_account_2 lf_X8_42 lp_8_5 sh_253 rfl rfl rfl ?_
  refine pw_iload_n dX8_account_5 rfl ?_
  refine pw_tabIn dX8_account_6 (by decide) (by decide) (off := 87) rfl (tgt := 93) (by decide) ?_
  refine pw_aload_n dX8_account_93 rfl ?_
  refine pw_iconst dX8_account_94 (v := 2) (by decide) ?_
  refine pw_cV dX8_account_95 (sp_X8_sumOfBottles hwf (w := 2) (by decide)) mi_X8_sumOfBottles mv_X8_sumOfBottles ml_X8_223 sh_253 rfl rfl rfl rfl ⟨rfl, rfl⟩ rfl rfl ?_
  exact pw_iretF dX8_account_98 rfl rfl rfl rfl rfl

set_option maxRecDepth 100000 in
set_option maxHeartbeats 4000000 in
theorem sp_X8_account_k5 {l : Launch} {G : GC} {ad : Nat → Nat} {h : HP} {nL nH nB nC : Nat} {np : Nat → Nat} {pl : Nat → Nat → Nat} {lb : Nat → Nat} (hw : MW h nL nH nB nC np pl lb) : PF l G yX8_account (.code yX8_account cX8_account 2 ((Option.some FieldType.int))) { frames := 2, cells := 0, slots := 0, locals := 45 } [.ref (ad 253), .int (5)] SW ad (h) (some (.int (sumC (fun k => h 254 (776 + k)) 128))) (faH h 0) := by
  refine PF.mk (L0 := [some (.ref (ad 253)), some (.int (5))]) RX8 "account" 0 0 (by decide +kernel) rfl rfl ⟨rfl, rfl⟩ (by simp [Value.category]) (Nat.le_of_ble_eq_true rfl) rfl ?_
  have hwf : MW (hput h 253 5 0) nL nH nB nC np pl lb := MW_o hw (hput_ne h 5 0 (by decide))
  have hb1 := hw.1.2
  have hb2 := hw.2.1.2
  have hb3 := hw.2.2.1.2
  have hb4 := hw.2.2.2.1.2
  refine pw_aload_n dX8_account_0 rfl ?_
  refine pw_iconst dX8_account_1 (v := 0) (by decide) ?_
  refine pw_puti dX8_account_2 lf_X8_42 lp_8_5 sh_253 rfl rfl rfl ?_
  refine pw_iload_n dX8_account_5 rfl ?_
  refine pw_tabIn dX8_account_6 (by decide) (by decide) (off := 93) rfl (tgt := 99) (by decide) ?_
  refine pw_aload_n dX8_account_99 rfl ?_
  refine pw_cV dX8_account_100 (sp_X8_sumHeld) mi_X8_sumHeld mv_X8_sumHeld ml_X8_226 sh_253 rfl rfl rfl rfl ⟨rfl, rfl⟩ rfl rfl ?_
  exact pw_iretF dX8_account_103 rfl rfl rfl rfl rfl

set_option maxRecDepth 100000 in
set_option maxHeartbeats 4000000 in
theorem sp_X8_account_k6 {l : Launch} {G : GC} {ad : Nat → Nat} {h : HP} {nL nH nB nC : Nat} {np : Nat → Nat} {pl : Nat → Nat → Nat} {lb : Nat → Nat} (hw : MW h nL nH nB nC np pl lb) : PF l G yX8_account (.code yX8_account cX8_account 2 ((Option.some FieldType.int))) { frames := 2, cells := 0, slots := 0, locals := 45 } [.ref (ad 253), .int (6)] SW ad (h) (some (.int (h 254 0))) (faH h 0) := by
  refine PF.mk (L0 := [some (.ref (ad 253)), some (.int (6))]) RX8 "account" 0 0 (by decide +kernel) rfl rfl ⟨rfl, rfl⟩ (by simp [Value.category]) (Nat.le_of_ble_eq_true rfl) rfl ?_
  have hwf : MW (hput h 253 5 0) nL nH nB nC np pl lb := MW_o hw (hput_ne h 5 0 (by decide))
  have hb1 := hw.1.2
  have hb2 := hw.2.1.2
  have hb3 := hw.2.2.1.2
  have hb4 := hw.2.2.2.1.2
  refine pw_aload_n dX8_account_0 rfl ?_
  refine pw_iconst dX8_account_1 (v := 0) (by decide) ?_
  refine pw_puti dX8_account_2 lf_X8_42 lp_8_5 sh_253 rfl rfl rfl ?_
  refine pw_iload_n dX8_account_5 rfl ?_
  refine pw_tabIn dX8_account_6 (by decide) (by decide) (off := 98) rfl (tgt := 104) (by decide) ?_
  refine pw_aload_n dX8_account_104 rfl ?_
  refine pw_getr dX8_account_105 lf_X8_9 sh_253 rfl ?_
  refine pw_iload_n dX8_account_108 rfl ?_
  refine pw_bipush dX8_account_109 (v := 6) (by decide) ?_
  refine pw_isub dX8_account_111 ?_
  refine pw_iaload dX8_account_112 sh_254 (vpin (n := 0) (N := 1032) (by decide) (by decide)) ?_
  exact pw_iretF dX8_account_113 rfl rfl rfl rfl rfl

set_option maxRecDepth 100000 in
set_option maxHeartbeats 4000000 in
theorem sp_X8_account_k7 {l : Launch} {G : GC} {ad : Nat → Nat} {h : HP} {nL nH nB nC : Nat} {np : Nat → Nat} {pl : Nat → Nat → Nat} {lb : Nat → Nat} (hw : MW h nL nH nB nC np pl lb) : PF l G yX8_account (.code yX8_account cX8_account 2 ((Option.some FieldType.int))) { frames := 2, cells := 0, slots := 0, locals := 45 } [.ref (ad 253), .int (7)] SW ad (h) (some (.int (h 254 1))) (faH h 0) := by
  refine PF.mk (L0 := [some (.ref (ad 253)), some (.int (7))]) RX8 "account" 0 0 (by decide +kernel) rfl rfl ⟨rfl, rfl⟩ (by simp [Value.category]) (Nat.le_of_ble_eq_true rfl) rfl ?_
  have hwf : MW (hput h 253 5 0) nL nH nB nC np pl lb := MW_o hw (hput_ne h 5 0 (by decide))
  have hb1 := hw.1.2
  have hb2 := hw.2.1.2
  have hb3 := hw.2.2.1.2
  have hb4 := hw.2.2.2.1.2
  refine pw_aload_n dX8_account_0 rfl ?_
  refine pw_iconst dX8_account_1 (v := 0) (by decide) ?_
  refine pw_puti dX8_account_2 lf_X8_42 lp_8_5 sh_253 rfl rfl rfl ?_
  refine pw_iload_n dX8_account_5 rfl ?_
  refine pw_tabIn dX8_account_6 (by decide) (by decide) (off := 98) rfl (tgt := 104) (by decide) ?_
  refine pw_aload_n dX8_account_104 rfl ?_
  refine pw_getr dX8_account_105 lf_X8_9 sh_253 rfl ?_
  refine pw_iload_n dX8_account_108 rfl ?_
  refine pw_bipush dX8_account_109 (v := 6) (by decide) ?_
  refine pw_isub dX8_account_111 ?_
  refine pw_iaload dX8_account_112 sh_254 (vpin (n := 1) (N := 1032) (by decide) (by decide)) ?_
  exact pw_iretF dX8_account_113 rfl rfl rfl rfl rfl

set_option maxRecDepth 100000 in
set_option maxHeartbeats 4000000 in
theorem sp_X8_account_k8 {l : Launch} {G : GC} {ad : Nat → Nat} {h : HP} {nL nH nB nC : Nat} {np : Nat → Nat} {pl : Nat → Nat → Nat} {lb : Nat → Nat} (hw : MW h nL nH nB nC np pl lb) : PF l G yX8_account (.code yX8_account cX8_account 2 ((Option.some FieldType.int))) { frames := 2, cells := 0, slots := 0, locals := 45 } [.ref (ad 253), .int (8)] SW ad (h) (some (.int (h 254 2))) (faH h 0) := by
  refine PF.mk (L0 := [some (.ref (ad 253)), some (.int (8))]) RX8 "account" 0 0 (by decide +kernel) rfl rfl ⟨rfl, rfl⟩ (by simp [Value.category]) (Nat.le_of_ble_eq_true rfl) rfl ?_
  have hwf : MW (hput h 253 5 0) nL nH nB nC np pl lb := MW_o hw (hput_ne h 5 0 (by decide))
  have hb1 := hw.1.2
  have hb2 := hw.2.1.2
  have hb3 := hw.2.2.1.2
  have hb4 := hw.2.2.2.1.2
  refine pw_aload_n dX8_account_0 rfl ?_
  refine pw_iconst dX8_account_1 (v := 0) (by decide) ?_
  refine pw_puti dX8_account_2 lf_X8_42 lp_8_5 sh_253 rfl rfl rfl ?_
  refine pw_iload_n dX8_account_5 rfl ?_
  refine pw_tabIn dX8_account_6 (by decide) (by decide) (off := 98) rfl (tgt := 104) (by decide) ?_
  refine pw_aload_n dX8_account_104 rfl ?_
  refine pw_getr dX8_account_105 lf_X8_9 sh_253 rfl ?_
  refine pw_iload_n dX8_account_108 rfl ?_
  refine pw_bipush dX8_account_109 (v := 6) (by decide) ?_
  refine pw_isub dX8_account_111 ?_
  refine pw_iaload dX8_account_112 sh_254 (vpin (n := 2) (N := 1032) (by decide) (by decide)) ?_
  exact pw_iretF dX8_account_113 rfl rfl rfl rfl rfl

set_option maxRecDepth 100000 in
set_option maxHeartbeats 4000000 in
theorem sp_X8_account_k9 {l : Launch} {G : GC} {ad : Nat → Nat} {h : HP} {nL nH nB nC : Nat} {np : Nat → Nat} {pl : Nat → Nat → Nat} {lb : Nat → Nat} (hw : MW h nL nH nB nC np pl lb) : PF l G yX8_account (.code yX8_account cX8_account 2 ((Option.some FieldType.int))) { frames := 2, cells := 0, slots := 0, locals := 45 } [.ref (ad 253), .int (9)] SW ad (h) (some (.int (h 254 3))) (faH h 0) := by
  refine PF.mk (L0 := [some (.ref (ad 253)), some (.int (9))]) RX8 "account" 0 0 (by decide +kernel) rfl rfl ⟨rfl, rfl⟩ (by simp [Value.category]) (Nat.le_of_ble_eq_true rfl) rfl ?_
  have hwf : MW (hput h 253 5 0) nL nH nB nC np pl lb := MW_o hw (hput_ne h 5 0 (by decide))
  have hb1 := hw.1.2
  have hb2 := hw.2.1.2
  have hb3 := hw.2.2.1.2
  have hb4 := hw.2.2.2.1.2
  refine pw_aload_n dX8_account_0 rfl ?_
  refine pw_iconst dX8_account_1 (v := 0) (by decide) ?_
  refine pw_puti dX8_account_2 lf_X8_42 lp_8_5 sh_253 rfl rfl rfl ?_
  refine pw_iload_n dX8_account_5 rfl ?_
  refine pw_tabIn dX8_account_6 (by decide) (by decide) (off := 98) rfl (tgt := 104) (by decide) ?_
  refine pw_aload_n dX8_account_104 rfl ?_
  refine pw_getr dX8_account_105 lf_X8_9 sh_253 rfl ?_
  refine pw_iload_n dX8_account_108 rfl ?_
  refine pw_bipush dX8_account_109 (v := 6) (by decide) ?_
  refine pw_isub dX8_account_111 ?_
  refine pw_iaload dX8_account_112 sh_254 (vpin (n := 3) (N := 1032) (by decide) (by decide)) ?_
  exact pw_iretF dX8_account_113 rfl rfl rfl rfl rfl

set_option maxRecDepth 100000 in
set_option maxHeartbeats 4000000 in
theorem sp_X8_account_k10 {l : Launch} {G : GC} {ad : Nat → Nat} {h : HP} {nL nH nB nC : Nat} {np : Nat → Nat} {pl : Nat → Nat → Nat} {lb : Nat → Nat} (hw : MW h nL nH nB nC np pl lb) : PF l G yX8_account (.code yX8_account cX8_account 2 ((Option.some FieldType.int))) { frames := 2, cells := 0, slots := 0, locals := 45 } [.ref (ad 253), .int (10)] SW ad (h) (some (.int (h 253 2))) (faH h 0) := by
  refine PF.mk (L0 := [some (.ref (ad 253)), some (.int (10))]) RX8 "account" 0 0 (by decide +kernel) rfl rfl ⟨rfl, rfl⟩ (by simp [Value.category]) (Nat.le_of_ble_eq_true rfl) rfl ?_
  have hwf : MW (hput h 253 5 0) nL nH nB nC np pl lb := MW_o hw (hput_ne h 5 0 (by decide))
  have hb1 := hw.1.2
  have hb2 := hw.2.1.2
  have hb3 := hw.2.2.1.2
  have hb4 := hw.2.2.2.1.2
  refine pw_aload_n dX8_account_0 rfl ?_
  refine pw_iconst dX8_account_1 (v := 0) (by decide) ?_
  refine pw_puti dX8_account_2 lf_X8_42 lp_8_5 sh_253 rfl rfl rfl ?_
  refine pw_iload_n dX8_account_5 rfl ?_
  refine pw_tabIn dX8_account_6 (by decide) (by decide) (off := 108) rfl (tgt := 114) (by decide) ?_
  refine pw_aload_n dX8_account_114 rfl ?_
  refine pw_geti dX8_account_115 lf_X8_52 sh_253 rfl ?_
  exact pw_iretF dX8_account_118 rfl rfl rfl rfl rfl

set_option maxRecDepth 100000 in
set_option maxHeartbeats 4000000 in
theorem sp_X8_account_k11 {l : Launch} {G : GC} {ad : Nat → Nat} {h : HP} {nL nH nB nC : Nat} {np : Nat → Nat} {pl : Nat → Nat → Nat} {lb : Nat → Nat} (hw : MW h nL nH nB nC np pl lb) : PF l G yX8_account (.code yX8_account cX8_account 2 ((Option.some FieldType.int))) { frames := 2, cells := 0, slots := 0, locals := 45 } [.ref (ad 253), .int (11)] SW ad (h) (some (.int (h 253 9))) (faH h 0) := by
  refine PF.mk (L0 := [some (.ref (ad 253)), some (.int (11))]) RX8 "account" 0 0 (by decide +kernel) rfl rfl ⟨rfl, rfl⟩ (by simp [Value.category]) (Nat.le_of_ble_eq_true rfl) rfl ?_
  have hwf : MW (hput h 253 5 0) nL nH nB nC np pl lb := MW_o hw (hput_ne h 5 0 (by decide))
  have hb1 := hw.1.2
  have hb2 := hw.2.1.2
  have hb3 := hw.2.2.1.2
  have hb4 := hw.2.2.2.1.2
  refine pw_aload_n dX8_account_0 rfl ?_
  refine pw_iconst dX8_account_1 (v := 0) (by decide) ?_
  refine pw_puti dX8_account_2 lf_X8_42 lp_8_5 sh_253 rfl rfl rfl ?_
  refine pw_iload_n dX8_account_5 rfl ?_
  refine pw_tabIn dX8_account_6 (by decide) (by decide) (off := 113) rfl (tgt := 119) (by decide) ?_
  refine pw_aload_n dX8_account_119 rfl ?_
  refine pw_geti dX8_account_120 lf_X8_115 sh_253 rfl ?_
  exact pw_iretF dX8_account_123 rfl rfl rfl rfl rfl

set_option maxRecDepth 100000 in
set_option maxHeartbeats 4000000 in
theorem sp_X8_feed_no {l : Launch} {G : GC} {ad : Nat → Nat} {h : HP} {x : Int32} (e : h 253 9 = 40) : PF l G yX8_feed (.code yX8_feed cX8_feed 2 ((Option.some FieldType.int))) { frames := 1, cells := 0, slots := 0, locals := 21 } [.ref (ad 253), .int (x)] SW ad (h) (some (.int 0)) (faH (faH h 0) 1) := by
  refine PF.mk (L0 := [some (.ref (ad 253)), some (.int (x))]) RX8 "feed" 0 0 (by decide +kernel) rfl rfl ⟨rfl, rfl⟩ (by simp [Value.category]) (Nat.le_of_ble_eq_true rfl) rfl ?_
  refine pw_aload_n dX8_feed_0 rfl ?_
  refine pw_iconst dX8_feed_1 (v := 0) (by decide) ?_
  refine pw_puti dX8_feed_2 lf_X8_42 lp_8_5 sh_253 rfl rfl rfl ?_
  refine pw_aload_n dX8_feed_5 rfl ?_
  refine pw_geti dX8_feed_6 lf_X8_115 sh_253 rfl ?_
  refine pw_bipush dX8_feed_9 (v := 40) (by decide) ?_
  refine pw_icmp_ne dX8_feed_11 (tgt := 20) (by decide) (fun c11 => absurd c11 (fun q => q e)) (fun c11 => ?_)
  refine pw_aload_n dX8_feed_14 rfl ?_
  refine pw_iconst dX8_feed_15 (v := 1) (by decide) ?_
  refine pw_cV dX8_feed_16 (sp_X8_fail) mi_X8_fail mv_X8_fail ml_X8_48 sh_253 rfl rfl rfl rfl ⟨rfl, rfl⟩ rfl rfl ?_
  exact pw_iretF dX8_feed_19 rfl rfl rfl rfl rfl

set_option maxRecDepth 100000 in
set_option maxHeartbeats 4000000 in
theorem sp_X8_feed_ok {l : Launch} {G : GC} {ad : Nat → Nat} {h : HP} {x : Int32} {len : Nat} (hlen : h 253 9 = nI len) (hl40 : len < 40) : PF l G yX8_feed (.code yX8_feed cX8_feed 2 ((Option.some FieldType.int))) { frames := 1, cells := 0, slots := 0, locals := 21 } [.ref (ad 253), .int (x)] SW ad (h) (some (.int (nI (len + 1)))) (hput (hput (faH h 0) 257 len (vp_nar .char x)) 253 9 (nI (len + 1))) := by
  refine PF.mk (L0 := [some (.ref (ad 253)), some (.int (x))]) RX8 "feed" 0 0 (by decide +kernel) rfl rfl ⟨rfl, rfl⟩ (by simp [Value.category]) (Nat.le_of_ble_eq_true rfl) rfl ?_
  refine pw_aload_n dX8_feed_0 rfl ?_
  refine pw_iconst dX8_feed_1 (v := 0) (by decide) ?_
  refine pw_puti dX8_feed_2 lf_X8_42 lp_8_5 sh_253 rfl rfl rfl ?_
  refine pw_aload_n dX8_feed_5 rfl ?_
  refine pw_geti dX8_feed_6 lf_X8_115 sh_253 rfl ?_
  refine pw_bipush dX8_feed_9 (v := 40) (by decide) ?_
  refine pw_icmp_ne dX8_feed_11 (tgt := 20) (by decide) (fun c11 => ?_) (fun c11 => absurd c11 (by rw [show hput h 253 5 0 253 9 = nI len from hlen]; exact fun q => absurd ((nI_eq (b := 40) (by omega) (by decide)).mp q) (by omega)))
  refine pw_aload_n dX8_feed_20 rfl ?_
  refine pw_getr dX8_feed_21 lf_X8_23 sh_253 rfl ?_
  refine pw_aload_n dX8_feed_24 rfl ?_
  refine pw_geti dX8_feed_25 lf_X8_115 sh_253 rfl ?_
  rw [show hput h 253 5 0 253 9 = nI len from hlen]
  refine pw_iload_n dX8_feed_28 rfl ?_
  refine pw_castore dX8_feed_29 sh_257 (vpin (N := 40) (by omega) (by decide)) ?_
  rw [nI_cl (show len < 2147483648 by omega)]
  refine pw_aload_n dX8_feed_30 rfl ?_
  refine pw_dup dX8_feed_31 rfl ?_
  refine pw_geti dX8_feed_32 lf_X8_115 sh_253 rfl ?_
  rw [show hput (hput h 253 5 0) 257 len (vp_nar .char x) 253 9 = nI len from hlen]
  refine pw_iconst dX8_feed_35 (v := 1) (by decide) ?_
  refine pw_iadd dX8_feed_36 ?_
  rw [nI_1]
  refine pw_puti dX8_feed_37 lf_X8_115 lp_8_9 sh_253 rfl rfl rfl ?_
  refine pw_aload_n dX8_feed_40 rfl ?_
  refine pw_geti dX8_feed_41 lf_X8_115 sh_253 rfl ?_
  exact pw_iretF dX8_feed_44 rfl rfl rfl (by simp [hput]) rfl

set_option maxRecDepth 100000 in
set_option maxHeartbeats 4000000 in
theorem sp_X8_errorPosition_no {l : Launch} {G : GC} {ad : Nat → Nat} {h : HP} (e : h 253 7 = -1) : PF l G yX8_errorPosition (.code yX8_errorPosition cX8_errorPosition 1 ((Option.some FieldType.int))) { frames := 0, cells := 0, slots := 0, locals := 0 } [.ref (ad 253)] SW ad (h) (some (.int 0)) (faH h 1) := by
  refine PF.mk (L0 := [some (.ref (ad 253))]) RX8 "errorPosition" 0 0 (by decide +kernel) rfl rfl ⟨rfl, rfl⟩ (by simp [Value.category]) (Nat.le_of_ble_eq_true rfl) rfl ?_
  refine pw_aload_n dX8_errorPosition_0 rfl ?_
  refine pw_aload_n dX8_errorPosition_1 rfl ?_
  refine pw_geti dX8_errorPosition_2 lf_X8_19 sh_253 rfl ?_
  refine pw_iconst dX8_errorPosition_5 (v := (-1)) (by decide) ?_
  refine pw_icmp_ne dX8_errorPosition_6 (tgt := 13) (by decide) (fun c6 => absurd c6 (fun q => q e)) (fun c6 => ?_)
  refine pw_iconst dX8_errorPosition_9 (v := 1) (by decide) ?_
  refine pw_goto dX8_errorPosition_10 (tgt := 14) (by decide) ?_
  refine pw_puti dX8_errorPosition_14 lf_X8_42 lp_8_5 sh_253 rfl rfl rfl ?_
  refine pw_aload_n dX8_errorPosition_17 rfl ?_
  refine pw_geti dX8_errorPosition_18 lf_X8_42 sh_253 rfl ?_
  refine pw_if_ne dX8_errorPosition_21 (tgt := 31) (by decide) (fun c21 => ?_) (fun c21 => absurd c21 ((show ¬ ((1 : Int32) = 0) from by decide)))
  refine pw_iconst dX8_errorPosition_31 (v := 0) (by decide) ?_
  exact pw_iretF dX8_errorPosition_32 rfl rfl rfl rfl rfl

set_option maxRecDepth 100000 in
set_option maxHeartbeats 4000000 in
theorem sp_X8_errorPosition_ok {l : Launch} {G : GC} {ad : Nat → Nat} {h : HP} (e : ¬ h 253 7 = -1) : PF l G yX8_errorPosition (.code yX8_errorPosition cX8_errorPosition 1 ((Option.some FieldType.int))) { frames := 0, cells := 0, slots := 0, locals := 0 } [.ref (ad 253)] SW ad (h) (some (.int (h 253 7))) (faH h 0) := by
  refine PF.mk (L0 := [some (.ref (ad 253))]) RX8 "errorPosition" 0 0 (by decide +kernel) rfl rfl ⟨rfl, rfl⟩ (by simp [Value.category]) (Nat.le_of_ble_eq_true rfl) rfl ?_
  refine pw_aload_n dX8_errorPosition_0 rfl ?_
  refine pw_aload_n dX8_errorPosition_1 rfl ?_
  refine pw_geti dX8_errorPosition_2 lf_X8_19 sh_253 rfl ?_
  refine pw_iconst dX8_errorPosition_5 (v := (-1)) (by decide) ?_
  refine pw_icmp_ne dX8_errorPosition_6 (tgt := 13) (by decide) (fun c6 => ?_) (fun c6 => absurd c6 (e))
  refine pw_iconst dX8_errorPosition_13 (v := 0) (by decide) ?_
  refine pw_puti dX8_errorPosition_14 lf_X8_42 lp_8_5 sh_253 rfl rfl rfl ?_
  refine pw_aload_n dX8_errorPosition_17 rfl ?_
  refine pw_geti dX8_errorPosition_18 lf_X8_42 sh_253 rfl ?_
  refine pw_if_ne dX8_errorPosition_21 (tgt := 31) (by decide) (fun c21 => absurd c21 (fun q => q rfl)) (fun c21 => ?_)
  refine pw_aload_n dX8_errorPosition_24 rfl ?_
  refine pw_geti dX8_errorPosition_25 lf_X8_19 sh_253 rfl ?_
  refine pw_goto dX8_errorPosition_28 (tgt := 32) (by decide) ?_
  exact pw_iretF dX8_errorPosition_32 rfl rfl rfl rfl rfl

set_option maxRecDepth 100000 in
set_option maxHeartbeats 4000000 in
theorem sp_X8_blend_no1 {l : Launch} {G : GC} {ad : Nat → Nat} {h g1 : HP} {len : Nat} (hlen : h 253 9 = nI len) (hl40 : len ≤ 40) (eg : rdH (hput (hput (hput h 253 5 0) 253 10 (nI len)) 253 9 0) len = g1) (e : ¬ g1 253 12 = 0) : PF l G yX8_blend (.code yX8_blend cX8_blend 5 ((Option.some FieldType.int))) { frames := 5, cells := 0, slots := 0, locals := 106 } [.ref (ad 253)] SW ad (h) (some (.int 0)) (faH (hput g1 253 7 (g1 253 11)) 1) := by
  refine PF.mk (L0 := [some (.ref (ad 253)), none, none, none, none]) RX8 "blend" 0 0 (by decide +kernel) rfl rfl ⟨rfl, rfl⟩ (by simp [Value.category]) (Nat.le_of_ble_eq_true rfl) rfl ?_
  refine pw_aload_n dX8_blend_0 rfl ?_
  refine pw_iconst dX8_blend_1 (v := 0) (by decide) ?_
  refine pw_puti dX8_blend_2 lf_X8_42 lp_8_5 sh_253 rfl rfl rfl ?_
  refine pw_aload_n dX8_blend_5 rfl ?_
  refine pw_aload_n dX8_blend_6 rfl ?_
  refine pw_geti dX8_blend_7 lf_X8_115 sh_253 rfl ?_
  rw [show (hput h 253 5 0) 253 9 = nI len from hlen]
  refine pw_puti dX8_blend_10 lf_X8_77 lp_8_10 sh_253 rfl rfl rfl ?_
  refine pw_aload_n dX8_blend_13 rfl ?_
  refine pw_iconst dX8_blend_14 (v := 0) (by decide) ?_
  refine pw_puti dX8_blend_15 lf_X8_115 lp_8_9 sh_253 rfl rfl rfl ?_
  refine pw_aload_n dX8_blend_18 rfl ?_
  refine pw_cVn dX8_blend_19 (sp_X8_reads (h := (hput (hput (hput h 253 5 0) 253 10 (nI len)) 253 9 0)) (len := len) rfl hl40) mi_X8_reads mv_X8_reads ml_X8_118 sh_253 rfl rfl rfl rfl ⟨rfl, rfl⟩ rfl rfl ?_
  rw [eg]
  refine pw_aload_n dX8_blend_22 rfl ?_
  refine pw_geti dX8_blend_23 lf_X8_70 sh_253 rfl ?_
  refine pw_if_eq dX8_blend_26 (tgt := 43) (by decide) (fun c26 => absurd c26 (e)) (fun c26 => ?_)
  refine pw_aload_n dX8_blend_29 rfl ?_
  refine pw_aload_n dX8_blend_30 rfl ?_
  refine pw_geti dX8_blend_31 lf_X8_74 sh_253 rfl ?_
  refine pw_puti dX8_blend_34 lf_X8_19 lp_8_7 sh_253 rfl rfl rfl ?_
  refine pw_aload_n dX8_blend_37 rfl ?_
  refine pw_iconst dX8_blend_38 (v := 1) (by decide) ?_
  refine pw_cV dX8_blend_39 (sp_X8_fail) mi_X8_fail mv_X8_fail ml_X8_48 sh_253 rfl rfl rfl rfl ⟨rfl, rfl⟩ rfl rfl ?_
  exact pw_iretF dX8_blend_42 rfl rfl rfl rfl rfl

set_option maxRecDepth 100000 in
set_option maxHeartbeats 4000000 in
theorem sp_X8_blend_no2 {l : Launch} {G : GC} {ad : Nat → Nat} {h g1 : HP} {len : Nat} (hlen : h 253 9 = nI len) (hl40 : len ≤ 40) (eg : rdH (hput (hput (hput h 253 5 0) 253 10 (nI len)) 253 9 0) len = g1) (e : g1 253 12 = 0) {P : Nat} (hP : g1 253 13 = nI P) (hP4 : P ≤ 4) (e2 : anyB (fun k => decide (g1 259 k = 0)) P = true) : PF l G yX8_blend (.code yX8_blend cX8_blend 5 ((Option.some FieldType.int))) { frames := 5, cells := 0, slots := 0, locals := 106 } [.ref (ad 253)] SW ad (h) (some (.int 0)) (faH g1 1) := by
  refine PF.mk (L0 := [some (.ref (ad 253)), none, none, none, none]) RX8 "blend" 0 0 (by decide +kernel) rfl rfl ⟨rfl, rfl⟩ (by simp [Value.category]) (Nat.le_of_ble_eq_true rfl) rfl ?_
  refine pw_aload_n dX8_blend_0 rfl ?_
  refine pw_iconst dX8_blend_1 (v := 0) (by decide) ?_
  refine pw_puti dX8_blend_2 lf_X8_42 lp_8_5 sh_253 rfl rfl rfl ?_
  refine pw_aload_n dX8_blend_5 rfl ?_
  refine pw_aload_n dX8_blend_6 rfl ?_
  refine pw_geti dX8_blend_7 lf_X8_115 sh_253 rfl ?_
  rw [show (hput h 253 5 0) 253 9 = nI len from hlen]
  refine pw_puti dX8_blend_10 lf_X8_77 lp_8_10 sh_253 rfl rfl rfl ?_
  refine pw_aload_n dX8_blend_13 rfl ?_
  refine pw_iconst dX8_blend_14 (v := 0) (by decide) ?_
  refine pw_puti dX8_blend_15 lf_X8_115 lp_8_9 sh_253 rfl rfl rfl ?_
  refine pw_aload_n dX8_blend_18 rfl ?_
  refine pw_cVn dX8_blend_19 (sp_X8_reads (h := (hput (hput (hput h 253 5 0) 253 10 (nI len)) 253 9 0)) (len := len) rfl hl40) mi_X8_reads mv_X8_reads ml_X8_118 sh_253 rfl rfl rfl rfl ⟨rfl, rfl⟩ rfl rfl ?_
  rw [eg]
  refine pw_aload_n dX8_blend_22 rfl ?_
  refine pw_geti dX8_blend_23 lf_X8_70 sh_253 rfl ?_
  refine pw_if_eq dX8_blend_26 (tgt := 43) (by decide) (fun c26 => ?_) (fun c26 => absurd c26 (fun q => q e))
  refine pw_aload_n dX8_blend_43 rfl ?_
  refine pw_cV dX8_blend_44 (sp_X8_isAnyNothing hP hP4) mi_X8_isAnyNothing mv_X8_isAnyNothing ml_X8_121 sh_253 rfl rfl rfl rfl ⟨rfl, rfl⟩ rfl rfl ?_
  refine pw_if_eq dX8_blend_47 (tgt := 56) (by decide) (fun c47 => absurd c47 (b2iT e2)) (fun c47 => ?_)
  refine pw_aload_n dX8_blend_50 rfl ?_
  refine pw_iconst dX8_blend_51 (v := 1) (by decide) ?_
  refine pw_cV dX8_blend_52 (sp_X8_fail) mi_X8_fail mv_X8_fail ml_X8_48 sh_253 rfl rfl rfl rfl ⟨rfl, rfl⟩ rfl rfl ?_
  exact pw_iretF dX8_blend_55 rfl rfl rfl rfl rfl

set_option maxRecDepth 100000 in
set_option maxHeartbeats 4000000 in
theorem sp_X8_blend_no3 {l : Launch} {G : GC} {ad : Nat → Nat} {h g1 : HP} {len : Nat} (hlen : h 253 9 = nI len) (hl40 : len ≤ 40) (eg : rdH (hput (hput (hput h 253 5 0) 253 10 (nI len)) 253 9 0) len = g1) (e : g1 253 12 = 0) {P : Nat} (hP : g1 253 13 = nI P) (hP4 : P ≤ 4) (e2 : anyB (fun k => decide (g1 259 k = 0)) P = false) {tn : Nat → Nat} (ht : anyB (wmB (fun k => g1 258 k) (g1 254 0)) P = false → ∀ k, k < P → g1 258 k = nI (tn k) ∧ tn k < 24) (e3 : ¬ rmI (anyB (wmB (fun k => g1 258 k) (g1 254 0)) P) (anyB (fun k => decide (mL g1 (tn k) 1 < g1 259 k)) P) (maxF (fun k => mL g1 (tn k) 3) P + 1) (g1 254 0) = 0) : PF l G yX8_blend (.code yX8_blend cX8_blend 5 ((Option.some FieldType.int))) { frames := 5, cells := 0, slots := 0, locals := 106 } [.ref (ad 253)] SW ad (h) (some (.int 0)) (faH (hput g1 253 6 (rmI (anyB (wmB (fun k => g1 258 k) (g1 254 0)) P) (anyB (fun k => decide (mL g1 (tn k) 1 < g1 259 k)) P) (maxF (fun k => mL g1 (tn k) 3) P + 1) (g1 254 0))) 2) := by
  refine PF.mk (L0 := [some (.ref (ad 253)), none, none, none, none]) RX8 "blend" 0 0 (by decide +kernel) rfl rfl ⟨rfl, rfl⟩ (by simp [Value.category]) (Nat.le_of_ble_eq_true rfl) rfl ?_
  refine pw_aload_n dX8_blend_0 rfl ?_
  refine pw_iconst dX8_blend_1 (v := 0) (by decide) ?_
  refine pw_puti dX8_blend_2 lf_X8_42 lp_8_5 sh_253 rfl rfl rfl ?_
  refine pw_aload_n dX8_blend_5 rfl ?_
  refine pw_aload_n dX8_blend_6 rfl ?_
  refine pw_geti dX8_blend_7 lf_X8_115 sh_253 rfl ?_
  rw [show (hput h 253 5 0) 253 9 = nI len from hlen]
  refine pw_puti dX8_blend_10 lf_X8_77 lp_8_10 sh_253 rfl rfl rfl ?_
  refine pw_aload_n dX8_blend_13 rfl ?_
  refine pw_iconst dX8_blend_14 (v := 0) (by decide) ?_
  refine pw_puti dX8_blend_15 lf_X8_115 lp_8_9 sh_253 rfl rfl rfl ?_
  refine pw_aload_n dX8_blend_18 rfl ?_
  refine pw_cVn dX8_blend_19 (sp_X8_reads (h := (hput (hput (hput h 253 5 0) 253 10 (nI len)) 253 9 0)) (len := len) rfl hl40) mi_X8_reads mv_X8_reads ml_X8_118 sh_253 rfl rfl rfl rfl ⟨rfl, rfl⟩ rfl rfl ?_
  rw [eg]
  refine pw_aload_n dX8_blend_22 rfl ?_
  refine pw_geti dX8_blend_23 lf_X8_70 sh_253 rfl ?_
  refine pw_if_eq dX8_blend_26 (tgt := 43) (by decide) (fun c26 => ?_) (fun c26 => absurd c26 (fun q => q e))
  refine pw_aload_n dX8_blend_43 rfl ?_
  refine pw_cV dX8_blend_44 (sp_X8_isAnyNothing hP hP4) mi_X8_isAnyNothing mv_X8_isAnyNothing ml_X8_121 sh_253 rfl rfl rfl rfl ⟨rfl, rfl⟩ rfl rfl ?_
  refine pw_if_eq dX8_blend_47 (tgt := 56) (by decide) (fun c47 => ?_) (fun c47 => absurd c47 (fun q => q (b2iF e2)))
  refine pw_aload_n dX8_blend_56 rfl ?_
  refine pw_cV dX8_blend_57 (sp_X8_refusal hP hP4 ht) mi_X8_refusal mv_X8_refusal ml_X8_124 sh_253 rfl rfl rfl rfl ⟨rfl, rfl⟩ rfl rfl ?_
  refine pw_istore_n dX8_blend_60 (by decide) rfl ?_
  refine pw_iload_n dX8_blend_61 rfl ?_
  refine pw_if_eq dX8_blend_62 (tgt := 72) (by decide) (fun c62 => absurd c62 (e3)) (fun c62 => ?_)
  refine pw_aload_n dX8_blend_65 rfl ?_
  refine pw_iconst dX8_blend_66 (v := 2) (by decide) ?_
  refine pw_iload_n dX8_blend_67 rfl ?_
  refine pw_cV dX8_blend_68 (sp_X8_refuse) mi_X8_refuse mv_X8_refuse ml_X8_127 sh_253 rfl rfl rfl rfl ⟨rfl, rfl⟩ rfl rfl ?_
  exact pw_iretF dX8_blend_71 rfl rfl rfl rfl rfl

set_option maxRecDepth 100000 in
set_option maxHeartbeats 4000000 in
theorem lq_X8_blend {l : Launch} {G : GC} {ad : Nat → Nat} {h3 : HP} {nL nH P M : Nat} {tn : Nat → Nat} (hP3 : h3 253 13 = nI P) (hP4 : P ≤ 4) (ht3 : ∀ k, k < P → h3 258 k = nI (tn k) ∧ tn k < 24) (hL3 : h3 254 0 = nI nL) (hLq : qmH h3 tn P 254 0 = nI nL) (hL24 : nL < 24) (hnH : bm2 h3 tn P nL 254 1 = nI nH) (hH12 : nH ≤ 12) (hn : mL (bm2 h3 tn P nL) nL 2 = nI P) (hpk : ∀ i, i < P → mL (bm2 h3 tn P nL) nL (5 + i) = nI (tn i) ∧ tn i < 24) (hT : mL (bm2 h3 tn P nL) nL 0 = bmT h3 P) (hT0 : bmT h3 P ≠ 0) (hM : M < 1000000) (hMM : fsM (bm2 h3 tn P nL) tn nL P (bmT h3 P) nH = nI M) {y1 y2 : Int32} : ∀ (mu9 : Nat) (i : Nat) (hi : i ≤ P) (hmu9 : P - i < mu9), PW l G cX8_blend RX8 5 ((Option.some FieldType.int)) [] { frames := 5, cells := 0, slots := 0, locals := 106 } (gNm "blend") (gME G SW ad (gR SW ad (some (.int (nI nL))) (fgH (fsH (bm2 h3 tn P nL) tn nL P (bmT h3 P) nH) nL nH M)) gNo 0 0) 156 [some (.ref (ad 253)), some (.int y1), some (.int y2), some (.int (nI nL)), some (.int (nI i))] [] SW ad (pmH (sL (bm1 h3 tn P nL) nL 2 (nI P)) nL i) 0 0 := by
  intro mu9
  induction mu9 with
  | zero => intro i hi hmu9; exact absurd hmu9 (Nat.not_lt_zero _)
  | succ mu9 ih =>
    intro i hi hmu9
    have e13 : pmH (sL (bm1 h3 tn P nL) nL 2 (nI P)) nL i 253 13 = nI P := by
      rw [pmH_o _ _ (by decide), sL, hput_ne _ _ _ (by decide), bm1, coH_o _ _ _ _ _ (by decide), qmH_o _ _ (by decide)]; exact hP3
    refine pw_iload dX8_blend_156 rfl ?_
    refine pw_aload_n dX8_blend_158 rfl ?_
    refine pw_geti dX8_blend_159 lf_X8_92 sh_253 rfl ?_
    refine pw_icmp_ge dX8_blend_162 (tgt := 204) (by decide) (fun c162 => ?_) (fun c162 => ?_)
    · skip
      have hi8 : i = P := eqN e13 hi (by omega) c162
      rw [hi8]
      refine pw_heq (show _ = bm2 h3 tn P nL from rfl) ?_
      refine pw_aload_n dX8_blend_204 rfl ?_
      refine pw_iload_n dX8_blend_205 rfl ?_
      refine pw_cVn dX8_blend_206 (sp_X8_findShares hL24 hnH hH12 hn hP4 hpk hT hT0 hM hMM) mi_X8_findShares mv_X8_findShares ml_X8_130 sh_253 rfl rfl rfl rfl ⟨rfl, rfl⟩ rfl rfl ?_
      refine pw_iload_n dX8_blend_209 rfl ?_
      exact pw_iretF dX8_blend_210 rfl rfl rfl rfl rfl
    · skip
      have hi9 : i < P := ltN e13 hi (by omega) c162
      refine pw_aload_n dX8_blend_165 rfl ?_
      refine pw_iload_n dX8_blend_166 rfl ?_
      refine pw_iconst dX8_blend_167 (v := 5) (by decide) ?_
      refine pw_iload dX8_blend_168 rfl ?_
      refine pw_iadd dX8_blend_170 ?_
      rw [show (5 : Int32) + nI i = nI (5 + i) from nI_add 5 i]
      refine pw_aload_n dX8_blend_171 rfl ?_
      refine pw_getr dX8_blend_172 lf_X8_27 sh_253 rfl ?_
      refine pw_iload dX8_blend_175 rfl ?_
      refine pw_iaload dX8_blend_177 sh_258 (vpin (N := 4) (by omega) (by decide)) ?_
      rw [nI_cl (show i < 2147483648 by omega)]
      refine pw_cVn dX8_blend_178 (sp_X8_setL (lot := nL) (k := 5 + i) (by omega)) mi_X8_setL mv_X8_setL ml_X8_59 sh_253 rfl rfl rfl rfl ⟨rfl, rfl⟩ rfl rfl ?_
      refine pw_aload_n dX8_blend_181 rfl ?_
      refine pw_iload_n dX8_blend_182 rfl ?_
      refine pw_bipush dX8_blend_183 (v := 9) (by decide) ?_
      refine pw_iload dX8_blend_185 rfl ?_
      refine pw_iadd dX8_blend_187 ?_
      rw [show (9 : Int32) + nI i = nI (9 + i) from nI_add 9 i]
      refine pw_aload_n dX8_blend_188 rfl ?_
      refine pw_getr dX8_blend_189 lf_X8_30 sh_253 rfl ?_
      refine pw_iload dX8_blend_192 rfl ?_
      refine pw_iaload dX8_blend_194 sh_259 (vpin (N := 4) (by omega) (by decide)) ?_
      rw [nI_cl (show i < 2147483648 by omega)]
      refine pw_cVn dX8_blend_195 (sp_X8_setL (lot := nL) (k := 9 + i) (by omega)) mi_X8_setL mv_X8_setL ml_X8_59 sh_253 rfl rfl rfl rfl ⟨rfl, rfl⟩ rfl rfl ?_
      refine pw_heq (show _ = pmH (sL (bm1 h3 tn P nL) nL 2 (nI P)) nL (i + 1) from rfl) ?_
      refine pw_iinc dX8_blend_198 rfl (d := 1) (by decide) (by decide) rfl ?_
      rw [nI_1]
      refine pw_goto dX8_blend_201 (tgt := 156) (by decide) ?_
      exact ih (i + 1) (by omega) (by omega)

set_option maxRecDepth 100000 in
set_option maxHeartbeats 4000000 in
theorem lp_X8_blend {l : Launch} {G : GC} {ad : Nat → Nat} {h3 : HP} {nL nH P M : Nat} {tn : Nat → Nat} (hP3 : h3 253 13 = nI P) (hP4 : P ≤ 4) (ht3 : ∀ k, k < P → h3 258 k = nI (tn k) ∧ tn k < 24) (hL3 : h3 254 0 = nI nL) (hLq : qmH h3 tn P 254 0 = nI nL) (hL24 : nL < 24) (hnH : bm2 h3 tn P nL 254 1 = nI nH) (hH12 : nH ≤ 12) (hn : mL (bm2 h3 tn P nL) nL 2 = nI P) (hpk : ∀ i, i < P → mL (bm2 h3 tn P nL) nL (5 + i) = nI (tn i) ∧ tn i < 24) (hT : mL (bm2 h3 tn P nL) nL 0 = bmT h3 P) (hT0 : bmT h3 P ≠ 0) (hM : M < 1000000) (hMM : fsM (bm2 h3 tn P nL) tn nL P (bmT h3 P) nH = nI M) {y1 : Int32} : ∀ (mu9 : Nat) (i : Nat) (x : Int32) (hi : i ≤ P) (hx : x = sumC (fun k => h3 259 k) i) (hmu9 : P - i < mu9), PW l G cX8_blend RX8 5 ((Option.some FieldType.int)) [] { frames := 5, cells := 0, slots := 0, locals := 106 } (gNm "blend") (gME G SW ad (gR SW ad (some (.int (nI nL))) (fgH (fsH (bm2 h3 tn P nL) tn nL P (bmT h3 P) nH) nL nH M)) gNo 0 0) 80 [some (.ref (ad 253)), some (.int y1), some (.int x), some (.int (nI i)), none] [] SW ad (qmH h3 tn i) 0 0 := by
  intro mu9
  induction mu9 with
  | zero => intro i x hi hx hmu9; exact absurd hmu9 (Nat.not_lt_zero _)
  | succ mu9 ih =>
    intro i x hi hx hmu9
    have e13 : qmH h3 tn i 253 13 = nI P := by rw [qmH_o _ _ (by decide)]; exact hP3
    refine pw_iload_n dX8_blend_80 rfl ?_
    refine pw_aload_n dX8_blend_81 rfl ?_
    refine pw_geti dX8_blend_82 lf_X8_92 sh_253 rfl ?_
    refine pw_icmp_ge dX8_blend_85 (tgt := 132) (by decide) (fun c85 => ?_) (fun c85 => ?_)
    · skip
      have hi8 : i = P := eqN e13 hi (by omega) c85
      rw [hi8] at hx ⊢
      have e13P : qmH h3 tn P 253 13 = nI P := by rw [qmH_o _ _ (by decide)]; exact hP3
      have htP : ∀ k, k < P → qmH h3 tn P 258 k = nI (tn k) ∧ tn k < 24 := fun k hk => by rw [qmH_o _ _ (by decide)]; exact ht3 k hk
      refine pw_aload_n dX8_blend_132 rfl ?_
      refine pw_iload_n dX8_blend_133 rfl ?_
      refine pw_aload_n dX8_blend_134 rfl ?_
      refine pw_cV dX8_blend_135 (sp_X8_nextGeneration e13P hP4 htP) mi_X8_nextGeneration mv_X8_nextGeneration ml_X8_112 sh_253 rfl rfl rfl rfl ⟨rfl, rfl⟩ rfl rfl ?_
      refine pw_iconst dX8_blend_138 (v := (-1)) (by decide) ?_
      refine pw_cV dX8_blend_139 (sp_X8_comes (lot := nL) hL24 hLq) mi_X8_comes mv_X8_comes ml_X8_66 sh_253 rfl rfl rfl rfl ⟨rfl, rfl⟩ rfl rfl ?_
      rw [hx]
      refine pw_heq (show _ = bm1 h3 tn P nL from rfl) ?_
      refine pw_istore_n dX8_blend_142 (by decide) rfl ?_
      refine pw_aload_n dX8_blend_143 rfl ?_
      refine pw_iload_n dX8_blend_144 rfl ?_
      refine pw_iconst dX8_blend_145 (v := 2) (by decide) ?_
      refine pw_aload_n dX8_blend_146 rfl ?_
      refine pw_geti dX8_blend_147 lf_X8_92 sh_253 rfl ?_
      rw [show bm1 h3 tn P nL 253 13 = nI P from by rw [bm1, coH_o _ _ _ _ _ (by decide)]; exact e13P]
      refine pw_cVn dX8_blend_150 (sp_X8_setL (lot := nL) (k := 2) (by omega)) mi_X8_setL mv_X8_setL ml_X8_59 sh_253 rfl rfl rfl rfl ⟨rfl, rfl⟩ rfl rfl ?_
      refine pw_iconst dX8_blend_153 (v := 0) (by decide) ?_
      refine pw_istore dX8_blend_154 (by decide) rfl ?_
      exact lq_X8_blend hP3 hP4 ht3 hL3 hLq hL24 hnH hH12 hn hpk hT hT0 hM hMM (P + 1) 0 (Nat.zero_le _) (by omega)
    · skip
      have hi9 : i < P := ltN e13 hi (by omega) c85
      have ht9 := ht3 i hi9
      have ht24 := ht9.2
      have e58 : qmH h3 tn i 258 i = nI (tn i) := by rw [qmH_o _ _ (by decide)]; exact ht9.1
      refine pw_iload_n dX8_blend_88 rfl ?_
      refine pw_aload_n dX8_blend_89 rfl ?_
      refine pw_getr dX8_blend_90 lf_X8_30 sh_253 rfl ?_
      refine pw_iload_n dX8_blend_93 rfl ?_
      refine pw_iaload dX8_blend_94 sh_259 (vpin (N := 4) (by omega) (by decide)) ?_
      rw [nI_cl (show i < 2147483648 by omega)]
      refine pw_iadd dX8_blend_95 ?_
      refine pw_istore_n dX8_blend_96 (by decide) rfl ?_
      refine pw_aload_n dX8_blend_97 rfl ?_
      refine pw_aload_n dX8_blend_98 rfl ?_
      refine pw_getr dX8_blend_99 lf_X8_27 sh_253 rfl ?_
      refine pw_iload_n dX8_blend_102 rfl ?_
      refine pw_iaload dX8_blend_103 sh_258 (vpin (N := 4) (by omega) (by decide)) ?_
      rw [nI_cl (show i < 2147483648 by omega)]
      rw [e58]
      refine pw_iconst dX8_blend_104 (v := 1) (by decide) ?_
      refine pw_aload_n dX8_blend_105 rfl ?_
      refine pw_aload_n dX8_blend_106 rfl ?_
      refine pw_getr dX8_blend_107 lf_X8_27 sh_253 rfl ?_
      refine pw_iload_n dX8_blend_110 rfl ?_
      refine pw_iaload dX8_blend_111 sh_258 (vpin (N := 4) (by omega) (by decide)) ?_
      rw [nI_cl (show i < 2147483648 by omega)]
      rw [e58]
      refine pw_iconst dX8_blend_112 (v := 1) (by decide) ?_
      refine pw_cV dX8_blend_113 (sp_X8_l (lot := tn i) (k := 1) (by omega)) mi_X8_l mv_X8_l ml_X8_102 sh_253 rfl rfl rfl rfl ⟨rfl, rfl⟩ rfl rfl ?_
      refine pw_aload_n dX8_blend_116 rfl ?_
      refine pw_getr dX8_blend_117 lf_X8_30 sh_253 rfl ?_
      refine pw_iload_n dX8_blend_120 rfl ?_
      refine pw_iaload dX8_blend_121 sh_259 (vpin (N := 4) (by omega) (by decide)) ?_
      rw [nI_cl (show i < 2147483648 by omega)]
      refine pw_isub dX8_blend_122 ?_
      refine pw_cVn dX8_blend_123 (sp_X8_setL (lot := tn i) (k := 1) (by omega)) mi_X8_setL mv_X8_setL ml_X8_59 sh_253 rfl rfl rfl rfl ⟨rfl, rfl⟩ rfl rfl ?_
      refine pw_heq (show _ = qmH h3 tn (i + 1) from rfl) ?_
      refine pw_iinc dX8_blend_126 rfl (d := 1) (by decide) (by decide) rfl ?_
      rw [nI_1]
      refine pw_goto dX8_blend_129 (tgt := 80) (by decide) ?_
      refine ih (i + 1) _ (by omega) ?_ (by omega)
      rw [hx, qmH_o _ _ (by decide)]; rfl

set_option maxRecDepth 100000 in
set_option maxHeartbeats 4000000 in
theorem sp_X8_blend_ok {l : Launch} {G : GC} {ad : Nat → Nat} {h g1 : HP} {len : Nat} (hlen : h 253 9 = nI len) (hl40 : len ≤ 40) (eg : rdH (hput (hput (hput h 253 5 0) 253 10 (nI len)) 253 9 0) len = g1) (e : g1 253 12 = 0) {P : Nat} (hP : g1 253 13 = nI P) (hP4 : P ≤ 4) (e2 : anyB (fun k => decide (g1 259 k = 0)) P = false) {tn : Nat → Nat} (ht : anyB (wmB (fun k => g1 258 k) (g1 254 0)) P = false → ∀ k, k < P → g1 258 k = nI (tn k) ∧ tn k < 24) (e3 : rmI (anyB (wmB (fun k => g1 258 k) (g1 254 0)) P) (anyB (fun k => decide (mL g1 (tn k) 1 < g1 259 k)) P) (maxF (fun k => mL g1 (tn k) 3) P + 1) (g1 254 0) = 0) {h3 : HP} (hrem : PF l G yX8_remember (.code yX8_remember cX8_remember 2 ((Option.none : Option FieldType))) { frames := 0, cells := 0, slots := 0, locals := 0 } [.ref (ad 253)] SW ad (g1) (none) (h3)) {nL nH M : Nat} (hP3 : h3 253 13 = nI P) (ht3 : ∀ k, k < P → h3 258 k = nI (tn k) ∧ tn k < 24) (hL3 : h3 254 0 = nI nL) (hLq : qmH h3 tn P 254 0 = nI nL) (hL24 : nL < 24) (hnH : bm2 h3 tn P nL 254 1 = nI nH) (hH12 : nH ≤ 12) (hn : mL (bm2 h3 tn P nL) nL 2 = nI P) (hpk : ∀ i, i < P → mL (bm2 h3 tn P nL) nL (5 + i) = nI (tn i) ∧ tn i < 24) (hT : mL (bm2 h3 tn P nL) nL 0 = bmT h3 P) (hT0 : bmT h3 P ≠ 0) (hM : M < 1000000) (hMM : fsM (bm2 h3 tn P nL) tn nL P (bmT h3 P) nH = nI M) : PF l G yX8_blend (.code yX8_blend cX8_blend 5 ((Option.some FieldType.int))) { frames := 5, cells := 0, slots := 0, locals := 106 } [.ref (ad 253)] SW ad (h) (some (.int (nI nL))) (fgH (fsH (bm2 h3 tn P nL) tn nL P (bmT h3 P) nH) nL nH M) := by
  refine PF.mk (L0 := [some (.ref (ad 253)), none, none, none, none]) RX8 "blend" 0 0 (by decide +kernel) rfl rfl ⟨rfl, rfl⟩ (by simp [Value.category]) (Nat.le_of_ble_eq_true rfl) rfl ?_
  refine pw_aload_n dX8_blend_0 rfl ?_
  refine pw_iconst dX8_blend_1 (v := 0) (by decide) ?_
  refine pw_puti dX8_blend_2 lf_X8_42 lp_8_5 sh_253 rfl rfl rfl ?_
  refine pw_aload_n dX8_blend_5 rfl ?_
  refine pw_aload_n dX8_blend_6 rfl ?_
  refine pw_geti dX8_blend_7 lf_X8_115 sh_253 rfl ?_
  rw [show (hput h 253 5 0) 253 9 = nI len from hlen]
  refine pw_puti dX8_blend_10 lf_X8_77 lp_8_10 sh_253 rfl rfl rfl ?_
  refine pw_aload_n dX8_blend_13 rfl ?_
  refine pw_iconst dX8_blend_14 (v := 0) (by decide) ?_
  refine pw_puti dX8_blend_15 lf_X8_115 lp_8_9 sh_253 rfl rfl rfl ?_
  refine pw_aload_n dX8_blend_18 rfl ?_
  refine pw_cVn dX8_blend_19 (sp_X8_reads (h := (hput (hput (hput h 253 5 0) 253 10 (nI len)) 253 9 0)) (len := len) rfl hl40) mi_X8_reads mv_X8_reads ml_X8_118 sh_253 rfl rfl rfl rfl ⟨rfl, rfl⟩ rfl rfl ?_
  rw [eg]
  refine pw_aload_n dX8_blend_22 rfl ?_
  refine pw_geti dX8_blend_23 lf_X8_70 sh_253 rfl ?_
  refine pw_if_eq dX8_blend_26 (tgt := 43) (by decide) (fun c26 => ?_) (fun c26 => absurd c26 (fun q => q e))
  refine pw_aload_n dX8_blend_43 rfl ?_
  refine pw_cV dX8_blend_44 (sp_X8_isAnyNothing hP hP4) mi_X8_isAnyNothing mv_X8_isAnyNothing ml_X8_121 sh_253 rfl rfl rfl rfl ⟨rfl, rfl⟩ rfl rfl ?_
  refine pw_if_eq dX8_blend_47 (tgt := 56) (by decide) (fun c47 => ?_) (fun c47 => absurd c47 (fun q => q (b2iF e2)))
  refine pw_aload_n dX8_blend_56 rfl ?_
  refine pw_cV dX8_blend_57 (sp_X8_refusal hP hP4 ht) mi_X8_refusal mv_X8_refusal ml_X8_124 sh_253 rfl rfl rfl rfl ⟨rfl, rfl⟩ rfl rfl ?_
  refine pw_istore_n dX8_blend_60 (by decide) rfl ?_
  refine pw_iload_n dX8_blend_61 rfl ?_
  refine pw_if_eq dX8_blend_62 (tgt := 72) (by decide) (fun c62 => ?_) (fun c62 => absurd c62 (fun q => q e3))
  refine pw_aload_n dX8_blend_72 rfl ?_
  refine pw_cVn dX8_blend_73 (hrem) mi_X8_remember mv_X8_remember ml_X8_63 sh_253 rfl rfl rfl rfl ⟨rfl, rfl⟩ rfl rfl ?_
  refine pw_iconst dX8_blend_76 (v := 0) (by decide) ?_
  refine pw_istore_n dX8_blend_77 (by decide) rfl ?_
  refine pw_iconst dX8_blend_78 (v := 0) (by decide) ?_
  refine pw_istore_n dX8_blend_79 (by decide) rfl ?_
  exact lp_X8_blend hP3 hP4 ht3 hL3 hLq hL24 hnH hH12 hn hpk hT hT0 hM hMM (P + 1) 0 0 (Nat.zero_le _) rfl (by omega)

