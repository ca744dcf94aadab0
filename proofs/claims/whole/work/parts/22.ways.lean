/-! THE WAYS AND WHAT THE BOOK ASKS OF THEM -/
theorem leN {a b : Nat} (ha : a < 2 ^ 31) (c : ¬ (nI b < nI a)) : a ≤ b := by
  rcases Nat.lt_or_ge b a with q | q
  · exact absurd (nI_lt q ha) c
  · exact q
theorem gtN {a b : Nat} (hb : b < 2 ^ 31) (c : nI b < nI a) : b < a := by
  rcases Nat.lt_or_ge b a with q | q
  · exact q
  · exact absurd c (Int32.not_lt.mpr (nI_le q hb))
def wyP (g : Nat → Int32) (np : Nat → Nat) (pl : Nat → Nat → Nat) (lot b i : Nat) : Int32 := if lot < b then sumC (fun k => g (0 * 24 + pl b k)) i else if b = lot then 1 else 0
def wyH (h : HP) (np : Nat → Nat) (pl : Nat → Nat → Nat) (lot : Nat) : Nat → HP
  | 0 => h
  | b + 1 => hput (wyH h np pl lot b) 252 (0 * 24 + b) (wyP (wyH h np pl lot b 252) np pl lot b (np b))
theorem wyH_o (h : HP) (np : Nat → Nat) (pl : Nat → Nat → Nat) (lot : Nat) {q : Nat} (hq : q ≠ 252) : ∀ b, wyH h np pl lot b q = h q
  | 0 => rfl
  | b + 1 => by
      funext j
      show hput _ _ _ _ q j = _
      rw [hput_ne _ _ _ hq, wyH_o h np pl lot hq b]
set_option maxRecDepth 100000 in
set_option maxHeartbeats 4000000 in
theorem lq_X4_waysInto {l : Launch} {G : GC} {ad : Nat → Nat} {h : HP} {nL nH nB nC : Nat} {np : Nat → Nat} {pl : Nat → Nat → Nat} (hw : WF h nL nH nB nC np pl) {lot into : Nat} (hlot : lot < nL) (hinto : into < nL) {b : Nat} (hb : b ≤ into) (K : ∀ (i : Nat) (x5 : Int32), PW l G cX4_waysInto RX4 7 ((Option.some FieldType.int)) [] { frames := 3, cells := 0, slots := 0, locals := 66 } (gNm "waysInto") (gME G SW ad (gR SW ad (some (.int (wyH h np pl lot (into + 1) 252 (0 * 24 + into)))) (wyH h np pl lot (into + 1))) gNo 0 0) 3 [some (.ref (ad 2)), some (.int (nI lot)), some (.int (nI into)), some (.ref (ad 251)), some (.int (nI (b + 1))), some (.int x5), some (.int (nI i))] [] SW ad ((wyH h np pl lot (b + 1))) 0 0) : ∀ (mu9 : Nat) (i : Nat) (x5 : Int32) (hi : i ≤ np b) (hx5 : x5 = wyP ((wyH h np pl lot b) 252) np pl lot b i) (hmu9 : np b - i < mu9), PW l G cX4_waysInto RX4 7 ((Option.some FieldType.int)) [] { frames := 3, cells := 0, slots := 0, locals := 66 } (gNm "waysInto") (gME G SW ad (gR SW ad (some (.int (wyH h np pl lot (into + 1) 252 (0 * 24 + into)))) (wyH h np pl lot (into + 1))) gNo 0 0) 25 [some (.ref (ad 2)), some (.int (nI lot)), some (.int (nI into)), some (.ref (ad 251)), some (.int (nI b)), some (.int x5), some (.int (nI i))] [] SW ad ((wyH h np pl lot b)) 0 0 := by
  intro mu9
  induction mu9 with
  | zero => intro i x5 hi hx5 hmu9; exact absurd hmu9 (Nat.not_lt_zero _)
  | succ mu9 ih =>
    intro i x5 hi hx5 hmu9
    have hb1 := hw.1.2
    have hb24 : b < 24 := by omega
    have hnp := hw.2.2.2.2.1 b hb24
    refine pw_iload dX4_waysInto_25 rfl ?_
    refine pw_iload_n dX4_waysInto_27 rfl ?_
    refine pw_icmp_le dX4_waysInto_28 (tgt := 69) (by decide) (fun c28 => ?_) (fun c28 => ?_)
    · skip
      have ev : wyP ((wyH h np pl lot b) 252) np pl lot b i = wyP ((wyH h np pl lot b) 252) np pl lot b (np b) := by
        have q9 : ¬ lot < b := fun q => absurd c28 (nI_ge q (by omega))
        rw [wyP, if_neg q9, wyP, if_neg q9]
      rw [ev] at hx5
      refine pw_aload_n dX4_waysInto_69 rfl ?_
      refine pw_iconst dX4_waysInto_70 (v := 0) (by decide) ?_
      refine pw_iload dX4_waysInto_71 rfl ?_
      refine pw_iload dX4_waysInto_73 rfl ?_
      refine pw_cVn dX4_waysInto_75 (sp_X6_put tq_251 (r := 0) (k := b) rfl rfl (by decide) hb24) mi_X6_put mv_X6_put ml_X4_46 sh_251 rfl rfl rfl rfl ⟨rfl, rfl⟩ rfl rfl ?_
      refine pw_iinc dX4_waysInto_78 rfl (d := 1) (by decide) (by decide) rfl ?_
      rw [nI_1]
      refine pw_goto dX4_waysInto_81 (tgt := 3) (by decide) ?_
      rw [hx5]
      exact K i _
    · skip
      have hg9 : lot < b := gtN (by omega) (Int32.not_le.mp c28)
      refine pw_iload dX4_waysInto_31 rfl ?_
      refine pw_aload_n dX4_waysInto_33 rfl ?_
      refine pw_iload dX4_waysInto_34 rfl ?_
      refine pw_cV dX4_waysInto_36 (sp_X4_partsOf hb24) mi_X4_partsOf mv_X4_partsOf ml_X4_105 sh_2 rfl rfl rfl rfl ⟨rfl, rfl⟩ rfl rfl ?_
      rw [wyH_o h np pl lot (q := 4) (by decide), hnp.1]
      refine pw_icmp_ge dX4_waysInto_39 (tgt := 69) (by decide) (fun c39 => ?_) (fun c39 => ?_)
      · skip
        have ev : wyP ((wyH h np pl lot b) 252) np pl lot b i = wyP ((wyH h np pl lot b) 252) np pl lot b (np b) := by
          rw [eqN rfl hi (by omega) c39]
        rw [ev] at hx5
        refine pw_aload_n dX4_waysInto_69 rfl ?_
        refine pw_iconst dX4_waysInto_70 (v := 0) (by decide) ?_
        refine pw_iload dX4_waysInto_71 rfl ?_
        refine pw_iload dX4_waysInto_73 rfl ?_
        refine pw_cVn dX4_waysInto_75 (sp_X6_put tq_251 (r := 0) (k := b) rfl rfl (by decide) hb24) mi_X6_put mv_X6_put ml_X4_46 sh_251 rfl rfl rfl rfl ⟨rfl, rfl⟩ rfl rfl ?_
        refine pw_iinc dX4_waysInto_78 rfl (d := 1) (by decide) (by decide) rfl ?_
        rw [nI_1]
        refine pw_goto dX4_waysInto_81 (tgt := 3) (by decide) ?_
        rw [hx5]
        exact K i _
      · skip
        have hi9 : i < np b := ltN rfl hi (by omega) c39
        refine pw_iload dX4_waysInto_42 rfl ?_
        refine pw_aload_n dX4_waysInto_44 rfl ?_
        refine pw_iconst dX4_waysInto_45 (v := 0) (by decide) ?_
        refine pw_aload_n dX4_waysInto_46 rfl ?_
        refine pw_getr dX4_waysInto_47 lf_X4_20 sh_2 rfl ?_
        refine pw_iload dX4_waysInto_50 rfl ?_
        refine pw_iload dX4_waysInto_52 rfl ?_
        refine pw_cV dX4_waysInto_54 (sp_X6_at tq_5 (r := b) (k := i) rfl rfl (hb24) (by omega)) mi_X6_at mv_X6_at ml_X4_80 sh_5 rfl rfl rfl rfl ⟨rfl, rfl⟩ rfl rfl ?_
        rw [wyH_o h np pl lot (q := 6) (by decide), (hw.2.2.2.2.2 b i hb24 (by omega)).1]
        refine pw_cV dX4_waysInto_57 (sp_X6_at tq_251 (r := 0) (k := pl b i) rfl rfl (by decide) (hw.2.2.2.2.2 b i hb24 (by omega)).2) mi_X6_at mv_X6_at ml_X4_80 sh_251 rfl rfl rfl rfl ⟨rfl, rfl⟩ rfl rfl ?_
        refine pw_iadd dX4_waysInto_60 ?_
        refine pw_istore dX4_waysInto_61 (by decide) rfl ?_
        refine pw_iinc dX4_waysInto_63 rfl (d := 1) (by decide) (by decide) rfl ?_
        rw [nI_1]
        refine pw_goto dX4_waysInto_66 (tgt := 25) (by decide) ?_
        exact ih (i + 1) _ (by omega) (by rw [hx5, wyP, if_pos hg9, wyP, if_pos hg9]; rfl) (by omega)

set_option maxRecDepth 100000 in
set_option maxHeartbeats 4000000 in
theorem lp_X4_waysInto {l : Launch} {G : GC} {ad : Nat → Nat} {h : HP} {nL nH nB nC : Nat} {np : Nat → Nat} {pl : Nat → Nat → Nat} (hw : WF h nL nH nB nC np pl) {lot into : Nat} (hlot : lot < nL) (hinto : into < nL)  : ∀ (mu9 : Nat) (b : Nat) (ls5 : Option Value) (ls6 : Option Value) (hb : b ≤ into + 1) (hmu9 : into + 1 - b < mu9), PW l G cX4_waysInto RX4 7 ((Option.some FieldType.int)) [] { frames := 3, cells := 0, slots := 0, locals := 66 } (gNm "waysInto") (gME G SW ad (gR SW ad (some (.int (wyH h np pl lot (into + 1) 252 (0 * 24 + into)))) (wyH h np pl lot (into + 1))) gNo 0 0) 3 [some (.ref (ad 2)), some (.int (nI lot)), some (.int (nI into)), some (.ref (ad 251)), some (.int (nI b)), ls5, ls6] [] SW ad ((wyH h np pl lot b)) 0 0 := by
  intro mu9
  induction mu9 with
  | zero => intro b ls5 ls6 hb hmu9; exact absurd hmu9 (Nat.not_lt_zero _)
  | succ mu9 ih =>
    intro b ls5 ls6 hb hmu9
    have hb1 := hw.1.2
    refine pw_iload dX4_waysInto_3 rfl ?_
    refine pw_iload_n dX4_waysInto_5 rfl ?_
    refine pw_icmp_gt dX4_waysInto_6 (tgt := 84) (by decide) (fun c6 => ?_) (fun c6 => ?_)
    · skip
      have hb8 : b = into + 1 := by have := gtN (a := b) (b := into) (by omega) c6; omega
      subst hb8
      refine pw_aload_n dX4_waysInto_84 rfl ?_
      refine pw_iconst dX4_waysInto_85 (v := 0) (by decide) ?_
      refine pw_iload_n dX4_waysInto_86 rfl ?_
      refine pw_cV dX4_waysInto_87 (sp_X6_at tq_251 (r := 0) (k := into) rfl rfl (by decide) (by omega)) mi_X6_at mv_X6_at ml_X4_80 sh_251 rfl rfl rfl rfl ⟨rfl, rfl⟩ rfl rfl ?_
      exact pw_iretF dX4_waysInto_90 rfl rfl rfl rfl rfl
    · skip
      have hb9 : b ≤ into := leN (by omega) c6
      refine pw_iload dX4_waysInto_9 rfl ?_
      refine pw_iload_n dX4_waysInto_11 rfl ?_
      refine pw_icmp_ne dX4_waysInto_12 (tgt := 19) (by decide) (fun c12 => ?_) (fun c12 => ?_)
      · skip
        have eb9 : ¬ b = lot := fun q => c12 (by rw [q])
        refine pw_iconst dX4_waysInto_19 (v := 0) (by decide) ?_
        refine pw_istore dX4_waysInto_20 (by decide) rfl ?_
        refine pw_iconst dX4_waysInto_22 (v := 0) (by decide) ?_
        refine pw_istore dX4_waysInto_23 (by decide) rfl ?_
        exact lq_X4_waysInto hw hlot hinto hb9 (fun i z => ih (b + 1) _ _ (by omega) (by omega)) (np b + 1) 0 _ (Nat.zero_le _) (by rw [wyP, if_neg eb9]; split <;> rfl) (by omega)
      · skip
        have eb9 : b = lot := by exact (nI_eq (by omega) (by omega)).mp c12
        refine pw_iconst dX4_waysInto_15 (v := 1) (by decide) ?_
        refine pw_goto dX4_waysInto_16 (tgt := 20) (by decide) ?_
        refine pw_istore dX4_waysInto_20 (by decide) rfl ?_
        refine pw_iconst dX4_waysInto_22 (v := 0) (by decide) ?_
        refine pw_istore dX4_waysInto_23 (by decide) rfl ?_
        exact lq_X4_waysInto hw hlot hinto hb9 (fun i z => ih (b + 1) _ _ (by omega) (by omega)) (np b + 1) 0 _ (Nat.zero_le _) (by rw [eb9, wyP, if_neg (Nat.lt_irrefl _), if_pos rfl]) (by omega)

set_option maxRecDepth 100000 in
set_option maxHeartbeats 4000000 in
theorem sp_X4_waysInto {l : Launch} {G : GC} {ad : Nat → Nat} {h : HP} {nL nH nB nC : Nat} {np : Nat → Nat} {pl : Nat → Nat → Nat} (hw : WF h nL nH nB nC np pl) {lot into : Nat} (hlot : lot < nL) (hinto : into < nL) : PF l G yX4_waysInto (.code yX4_waysInto cX4_waysInto 7 ((Option.some FieldType.int))) { frames := 3, cells := 0, slots := 0, locals := 66 } [.ref (ad 2), .int (nI lot), .int (nI into), .ref (ad 251)] SW ad (h) (some (.int (wyH h np pl lot (into + 1) 252 (0 * 24 + into)))) (wyH h np pl lot (into + 1)) := by
  refine PF.mk (L0 := [some (.ref (ad 2)), some (.int (nI lot)), some (.int (nI into)), some (.ref (ad 251)), none, none, none]) RX4 "waysInto" 0 0 (by decide +kernel) rfl rfl ⟨rfl, rfl⟩ (by simp [Value.category]) (Nat.le_of_ble_eq_true rfl) rfl ?_
  refine pw_iconst dX4_waysInto_0 (v := 0) (by decide) ?_
  refine pw_istore dX4_waysInto_1 (by decide) rfl ?_
  exact lp_X4_waysInto hw hlot hinto (into + 2) 0 none none (Nat.zero_le _) (by omega)

set_option maxRecDepth 100000 in
set_option maxHeartbeats 4000000 in
theorem sp_X7_ways_no1 {l : Launch} {G : GC} {ad : Nat → Nat} (hfl : l.stackTraces = false) {h : HP} {m : Int32} {n : Int32} (e1 : wiB n 0 (h 2 5 - 1) = false) : PT l G yX7_ways (.code yX7_ways cX7_ways 3 ((Option.some FieldType.int))) { frames := 8, cells := 2, slots := 12, locals := 132 } [.ref (ad 0), .int (n), .int (m)] SW ad (h) (.inr "java/lang/IndexOutOfBoundsException") (h) := by
  refine PT.mk (L0 := [some (.ref (ad 0)), some (.int (n)), some (.int (m))]) RX7 "ways" 2 12 (by decide +kernel) rfl rfl ⟨rfl, rfl⟩ (by simp [Value.category]) (Nat.le_of_ble_eq_true rfl) rfl ?_
  refine pw_aload_n dX7_ways_0 rfl ?_
  refine pw_iload_n dX7_ways_1 rfl ?_
  refine pw_flV dX7_ways_2 (sp_X7_requireLot_no hfl e1) mi_X7_requireLot mv_X7_requireLot ml_X7_122 sh_0 rfl rfl rfl rfl rfl rfl ?_
  exact px_outT rfl rfl rfl rfl

set_option maxRecDepth 100000 in
set_option maxHeartbeats 4000000 in
theorem sp_X7_ways_no2 {l : Launch} {G : GC} {ad : Nat → Nat} (hfl : l.stackTraces = false) {h : HP} {nL nH nB nC : Nat} {np : Nat → Nat} {pl : Nat → Nat → Nat} (hw : WF h nL nH nB nC np pl) {lot : Nat} (hlot : lot < nL) {m : Int32} (e : wiB m 0 (h 2 5 - 1) = false) : PT l G yX7_ways (.code yX7_ways cX7_ways 3 ((Option.some FieldType.int))) { frames := 8, cells := 2, slots := 12, locals := 132 } [.ref (ad 0), .int (nI lot), .int (m)] SW ad (h) (.inr "java/lang/IndexOutOfBoundsException") (h) := by
  refine PT.mk (L0 := [some (.ref (ad 0)), some (.int (nI lot)), some (.int (m))]) RX7 "ways" 2 12 (by decide +kernel) rfl rfl ⟨rfl, rfl⟩ (by simp [Value.category]) (Nat.le_of_ble_eq_true rfl) rfl ?_
  have hb1 := hw.1.2
  have hlot24 : lot < 24 := by omega
  refine pw_aload_n dX7_ways_0 rfl ?_
  refine pw_iload_n dX7_ways_1 rfl ?_
  refine pw_okV dX7_ways_2 (sp_X7_requireLot_ok hfl (wi_ok hw.1.1 hlot (by have := hw.1.2; omega))) mi_X7_requireLot mv_X7_requireLot ml_X7_122 sh_0 rfl rfl rfl rfl rfl rfl ?_
  refine pw_aload_n dX7_ways_5 rfl ?_
  refine pw_iload_n dX7_ways_6 rfl ?_
  refine pw_flV dX7_ways_7 (sp_X7_requireLot_no hfl e) mi_X7_requireLot mv_X7_requireLot ml_X7_122 sh_0 rfl rfl rfl rfl rfl rfl ?_
  exact px_outT rfl rfl rfl rfl

set_option maxRecDepth 100000 in
set_option maxHeartbeats 4000000 in
theorem sp_X7_ways_ok {l : Launch} {G : GC} {ad : Nat → Nat} (hfl : l.stackTraces = false) {h : HP} {nL nH nB nC : Nat} {np : Nat → Nat} {pl : Nat → Nat → Nat} (hw : WF h nL nH nB nC np pl) {lot into : Nat} (hlot : lot < nL) (hinto : into < nL)  : PT l G yX7_ways (.code yX7_ways cX7_ways 3 ((Option.some FieldType.int))) { frames := 8, cells := 2, slots := 12, locals := 132 } [.ref (ad 0), .int (nI lot), .int (nI into)] SW ad (h) (.inl (some (.int (wyH h np pl lot (into + 1) 252 (0 * 24 + into))))) (wyH h np pl lot (into + 1)) := by
  refine PT.mk (L0 := [some (.ref (ad 0)), some (.int (nI lot)), some (.int (nI into))]) RX7 "ways" 2 12 (by decide +kernel) rfl rfl ⟨rfl, rfl⟩ (by simp [Value.category]) (Nat.le_of_ble_eq_true rfl) rfl ?_
  have hb1 := hw.1.2
  have hlot24 : lot < 24 := by omega
  refine pw_aload_n dX7_ways_0 rfl ?_
  refine pw_iload_n dX7_ways_1 rfl ?_
  refine pw_okV dX7_ways_2 (sp_X7_requireLot_ok hfl (wi_ok hw.1.1 hlot (by have := hw.1.2; omega))) mi_X7_requireLot mv_X7_requireLot ml_X7_122 sh_0 rfl rfl rfl rfl rfl rfl ?_
  refine pw_aload_n dX7_ways_5 rfl ?_
  refine pw_iload_n dX7_ways_6 rfl ?_
  refine pw_okV dX7_ways_7 (sp_X7_requireLot_ok hfl (wi_ok hw.1.1 hinto (by have := hw.1.2; omega))) mi_X7_requireLot mv_X7_requireLot ml_X7_122 sh_0 rfl rfl rfl rfl rfl rfl ?_
  refine pw_aload_n dX7_ways_10 rfl ?_
  refine pw_getr dX7_ways_11 lf_X7_10 sh_0 rfl ?_
  refine pw_getr dX7_ways_14 lf_X7_63 sh_1 rfl ?_
  refine pw_iload_n dX7_ways_17 rfl ?_
  refine pw_iload_n dX7_ways_18 rfl ?_
  refine pw_aload_n dX7_ways_19 rfl ?_
  refine pw_getr dX7_ways_20 lf_X7_45 sh_0 rfl ?_
  refine pw_cV dX7_ways_23 (sp_X4_waysInto hw hlot hinto) mi_X4_waysInto mv_X4_waysInto ml_X7_301 sh_2 rfl rfl rfl rfl ⟨rfl, rfl⟩ rfl rfl ?_
  exact pw_iretT dX7_ways_26 rfl rfl rfl rfl rfl

