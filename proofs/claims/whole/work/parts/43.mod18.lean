/-! THE MODEL'S CALLS, second part -/
def gaB (g : HP) (lot k o : Nat) : Bool := decide (0 < mL g lot (13 + o) - mL g lot (13 + k)) || (decide (mL g lot (13 + o) - mL g lot (13 + k) = 0) && decide (nI o < nI k))
def gaC (g : HP) (lot nH k : Nat) : Nat := cntB (gaB g lot k) nH
def gtB (g : HP) (lot nH : Nat) (m : Int32) (k : Nat) : Bool := decide (0 < mL g lot (13 + k)) && decide (nI (gaC g lot nH k) = m)
theorem plI_c {h h' : HP} (e : h' 254 = h 254) (nC c b : Nat) : plI h' nC c b = plI h nC c b := by
  unfold plI liB ahB mHd mWi
  rw [e]
theorem caF_c {h h' : HP} (e : h' 254 = h 254) (nC b : Nat) (p : Int32) : ∀ n c, caF h' nC b p n c = caF h nC b p n c
  | 0, _ => rfl
  | n + 1, c => by rw [caF, caF, plI_c e, caF_c e nC b p n (c + 1)]
theorem firstF_s {p : Nat → Bool} {i n : Nat} (h : p i = false) : firstF p i (n + 1) = firstF p (i + 1) n := by rw [firstF, h]; rfl
theorem firstF_t {p : Nat → Bool} {i n : Nat} (h : p i = true) : firstF p i (n + 1) = nI i := by rw [firstF, h]; rfl
theorem gt_f {g : HP} {lot nH k : Nat} {m : Int32} (h : ¬ (0 < mL g lot (13 + k) ∧ nI (gaC g lot nH k) = m)) : gtB g lot nH m k = false := by
  unfold gtB
  rw [Bool.and_eq_false_iff, decide_eq_false_iff_not, decide_eq_false_iff_not]
  exact Classical.not_and_iff_not_or_not.mp h
def gb1 (g : HP) (c b : Nat) (q : Int32) : HP := hput g 254 (776 + 16 * c + b) (mHd g c b - q)
def gb2 (g : HP) (c b : Nat) (q : Int32) : HP := hput (gb1 g c b q) 254 (904 + 16 * c + b) (if mWi (gb1 g c b q) c b < mHd g c b - q then mWi (gb1 g c b q) c b else mHd g c b - q)
def gbM (g : HP) (c b : Nat) (q : Int32) : HP := sB (gb2 g c b q) b 2 (mB (gb2 g c b q) b 2 + q)
set_option maxRecDepth 100000 in
set_option maxHeartbeats 4000000 in
theorem sp_X8_greatest_no1 {l : Launch} {G : GC} {ad : Nat → Nat} {h : HP} {n : Int32} {m : Int32} (e : wiB n 0 (h 254 0 - 1) = false) : PF l G yX8_greatest (.code yX8_greatest cX8_greatest 8 ((Option.some FieldType.int))) { frames := 2, cells := 0, slots := 0, locals := 43 } [.ref (ad 253), .int (n), .int (m)] SW ad (h) (some (.int 0)) (faH (faH h 0) 1) := by
  refine PF.mk (L0 := [some (.ref (ad 253)), some (.int (n)), some (.int (m)), none, none, none, none, none]) RX8 "greatest" 0 0 (by decide +kernel) rfl rfl ⟨rfl, rfl⟩ (by simp [Value.category]) (Nat.le_of_ble_eq_true rfl) rfl ?_
  refine pw_aload_n dX8_greatest_0 rfl ?_
  refine pw_iconst dX8_greatest_1 (v := 0) (by decide) ?_
  refine pw_puti dX8_greatest_2 lf_X8_42 lp_8_5 sh_253 rfl rfl rfl ?_
  refine pw_aload_n dX8_greatest_5 rfl ?_
  refine pw_iload_n dX8_greatest_6 rfl ?_
  refine pw_cV dX8_greatest_7 (sp_X8_isLot) mi_X8_isLot mv_X8_isLot ml_X8_98 sh_253 rfl rfl rfl rfl ⟨rfl, rfl⟩ rfl rfl ?_
  refine pw_if_ne dX8_greatest_10 (tgt := 19) (by decide) (fun c10 => absurd c10 (fun q => q (b2iF e))) (fun c10 => ?_)
  refine pw_aload_n dX8_greatest_13 rfl ?_
  refine pw_iconst dX8_greatest_14 (v := 1) (by decide) ?_
  refine pw_cV dX8_greatest_15 (sp_X8_fail) mi_X8_fail mv_X8_fail ml_X8_48 sh_253 rfl rfl rfl rfl ⟨rfl, rfl⟩ rfl rfl ?_
  exact pw_iretF dX8_greatest_18 rfl rfl rfl rfl rfl

set_option maxRecDepth 100000 in
set_option maxHeartbeats 4000000 in
theorem lq_X8_greatest {l : Launch} {G : GC} {ad : Nat → Nat} {g : HP} {nL nH nB nC : Nat} {np : Nat → Nat} {pl : Nat → Nat → Nat} {lb : Nat → Nat} (hw : MW g nL nH nB nC np pl lb) {lot : Nat} (hlot24 : lot < 24) {m vv : Int32} {E1 : HP} {k : Nat} (hk9 : k < nH) (hE : 0 < mL g lot (13 + k) → nI (gaC g lot nH k) = m → vv = nI k ∧ E1 = g) (K : ¬ (0 < mL g lot (13 + k) ∧ nI (gaC g lot nH k) = m) → ∀ (y4 y5 y6 : Int32) (y7 : Option Value), PW l G cX8_greatest RX8 8 ((Option.some FieldType.int)) [] { frames := 2, cells := 0, slots := 0, locals := 43 } (gNm "greatest") (gME G SW ad (gR SW ad (some (.int vv)) (E1)) gNo 0 0) 21 [some (.ref (ad 253)), some (.int (nI lot)), some (.int m), some (.int (nI (k + 1))), some (.int y4), some (.int y5), some (.int y6), y7] [] SW ad (g) 0 0) : ∀ (mu9 : Nat) (i : Nat) (x : Int32) (y7 : Option Value) (hi : i ≤ nH) (hx : x = nI (cntB (gaB g lot k) i)) (hmu9 : nH - i < mu9), PW l G cX8_greatest RX8 8 ((Option.some FieldType.int)) [] { frames := 2, cells := 0, slots := 0, locals := 43 } (gNm "greatest") (gME G SW ad (gR SW ad (some (.int vv)) (E1)) gNo 0 0) 48 [some (.ref (ad 253)), some (.int (nI lot)), some (.int m), some (.int (nI k)), some (.int (mL g lot (13 + k))), some (.int x), some (.int (nI i)), y7] [] SW ad (g) 0 0 := by
  intro mu9
  induction mu9 with
  | zero => intro i x y7 hi hx hmu9; exact absurd hmu9 (Nat.not_lt_zero _)
  | succ mu9 ih =>
    intro i x y7 hi hx hmu9
    have hb1 := hw.1.2
    have hb2 := hw.2.1.2
    refine pw_iload dX8_greatest_48 rfl ?_
    refine pw_aload_n dX8_greatest_50 rfl ?_
    refine pw_getr dX8_greatest_51 lf_X8_9 sh_253 rfl ?_
    refine pw_iconst dX8_greatest_54 (v := 1) (by decide) ?_
    refine pw_iaload dX8_greatest_55 sh_254 (vpin (n := 1) (N := 1032) (by decide) (by decide)) ?_
    refine pw_icmp_ge dX8_greatest_56 (tgt := 106) (by decide) (fun c56 => ?_) (fun c56 => ?_)
    · skip
      have hi8 : i = nH := eqN hw.2.1.1 hi (by omega) c56
      rw [hi8] at hx
      refine pw_iload dX8_greatest_106 rfl ?_
      refine pw_if_le dX8_greatest_108 (tgt := 119) (by decide) (fun c108 => ?_) (fun c108 => ?_)
      · skip
        refine pw_iinc dX8_greatest_119 rfl (d := 1) (by decide) (by decide) rfl ?_
        rw [nI_1]
        refine pw_goto dX8_greatest_122 (tgt := 21) (by decide) ?_
        exact K (by exact fun q => absurd q.1 (Int32.not_lt.mpr c108)) _ _ _ _
      · skip
        refine pw_iload dX8_greatest_111 rfl ?_
        refine pw_iload_n dX8_greatest_113 rfl ?_
        refine pw_icmp_ne dX8_greatest_114 (tgt := 119) (by decide) (fun c114 => ?_) (fun c114 => ?_)
        · skip
          refine pw_iinc dX8_greatest_119 rfl (d := 1) (by decide) (by decide) rfl ?_
          rw [nI_1]
          refine pw_goto dX8_greatest_122 (tgt := 21) (by decide) ?_
          exact K (by exact fun q => c114 (by rw [hx]; exact q.2)) _ _ _ _
        · skip
          refine pw_iload_n dX8_greatest_117 rfl ?_
          have hv9 := hE (Int32.not_le.mp c108) (by rw [gaC, ← hx]; exact c114)
          rw [hv9.1, hv9.2]
          exact pw_iretF dX8_greatest_118 rfl rfl rfl rfl rfl
    · skip
      have hi9 : i < nH := ltN hw.2.1.1 hi (by omega) c56
      refine pw_aload_n dX8_greatest_59 rfl ?_
      refine pw_iload_n dX8_greatest_60 rfl ?_
      refine pw_bipush dX8_greatest_61 (v := 13) (by decide) ?_
      refine pw_iload dX8_greatest_63 rfl ?_
      refine pw_iadd dX8_greatest_65 ?_
      rw [show (13 : Int32) + nI i = nI (13 + i) from nI_add 13 i]
      refine pw_cV dX8_greatest_66 (sp_X8_l (lot := lot) (k := 13 + i) (by omega)) mi_X8_l mv_X8_l ml_X8_102 sh_253 rfl rfl rfl rfl ⟨rfl, rfl⟩ rfl rfl ?_
      refine pw_iload dX8_greatest_69 rfl ?_
      refine pw_isub dX8_greatest_71 ?_
      refine pw_istore dX8_greatest_72 (by decide) rfl ?_
      refine pw_iload dX8_greatest_74 rfl ?_
      refine pw_iload dX8_greatest_76 rfl ?_
      refine pw_if_gt dX8_greatest_78 (tgt := 92) (by decide) (fun c78 => ?_) (fun c78 => ?_)
      · skip
        refine pw_iconst dX8_greatest_92 (v := 1) (by decide) ?_
        refine pw_goto dX8_greatest_93 (tgt := 97) (by decide) ?_
        refine pw_iadd dX8_greatest_97 ?_
        refine pw_istore dX8_greatest_98 (by decide) rfl ?_
        refine pw_iinc dX8_greatest_100 rfl (d := 1) (by decide) (by decide) rfl ?_
        rw [nI_1]
        refine pw_goto dX8_greatest_103 (tgt := 48) (by decide) ?_
        refine ih (i + 1) _ _ (by omega) ?_ (by omega)
        exact cnt_s hx (by unfold gaB; rw [decide_eq_true c78]; rfl)
      · skip
        refine pw_iload dX8_greatest_81 rfl ?_
        refine pw_if_ne dX8_greatest_83 (tgt := 96) (by decide) (fun c83 => ?_) (fun c83 => ?_)
        · skip
          refine pw_iconst dX8_greatest_96 (v := 0) (by decide) ?_
          refine pw_iadd dX8_greatest_97 ?_
          refine pw_istore dX8_greatest_98 (by decide) rfl ?_
          refine pw_iinc dX8_greatest_100 rfl (d := 1) (by decide) (by decide) rfl ?_
          rw [nI_1]
          refine pw_goto dX8_greatest_103 (tgt := 48) (by decide) ?_
          refine ih (i + 1) _ _ (by omega) ?_ (by omega)
          rw [Int32.add_zero]
          exact cnt_n hx (by unfold gaB; rw [decide_eq_false c78, decide_eq_false c83]; rfl)
        · skip
          refine pw_iload dX8_greatest_86 rfl ?_
          refine pw_iload_n dX8_greatest_88 rfl ?_
          refine pw_icmp_ge dX8_greatest_89 (tgt := 96) (by decide) (fun c89 => ?_) (fun c89 => ?_)
          · skip
            refine pw_iconst dX8_greatest_96 (v := 0) (by decide) ?_
            refine pw_iadd dX8_greatest_97 ?_
            refine pw_istore dX8_greatest_98 (by decide) rfl ?_
            refine pw_iinc dX8_greatest_100 rfl (d := 1) (by decide) (by decide) rfl ?_
            rw [nI_1]
            refine pw_goto dX8_greatest_103 (tgt := 48) (by decide) ?_
            refine ih (i + 1) _ _ (by omega) ?_ (by omega)
            rw [Int32.add_zero]
            exact cnt_n hx (by unfold gaB; rw [decide_eq_false c78, decide_eq_false (Int32.not_lt.mpr c89), Bool.and_false]; rfl)
          · skip
            refine pw_iconst dX8_greatest_92 (v := 1) (by decide) ?_
            refine pw_goto dX8_greatest_93 (tgt := 97) (by decide) ?_
            refine pw_iadd dX8_greatest_97 ?_
            refine pw_istore dX8_greatest_98 (by decide) rfl ?_
            refine pw_iinc dX8_greatest_100 rfl (d := 1) (by decide) (by decide) rfl ?_
            rw [nI_1]
            refine pw_goto dX8_greatest_103 (tgt := 48) (by decide) ?_
            refine ih (i + 1) _ _ (by omega) ?_ (by omega)
            exact cnt_s hx (by unfold gaB; rw [decide_eq_true c83, decide_eq_true (Int32.not_le.mp c89)]; exact Bool.or_true _)

set_option maxRecDepth 100000 in
set_option maxHeartbeats 4000000 in
theorem lp_X8_greatest_ok {l : Launch} {G : GC} {ad : Nat → Nat} {g : HP} {nL nH nB nC : Nat} {np : Nat → Nat} {pl : Nat → Nat → Nat} {lb : Nat → Nat} (hw : MW g nL nH nB nC np pl lb) {lot : Nat} (hlot24 : lot < 24) {m : Int32} {t : Nat} (ht : t < nH) (hF : gtB g lot nH m t = true) (hN : ∀ k, k < t → gtB g lot nH m k = false)  : ∀ (mu9 : Nat) (k : Nat) (y4 : Option Value) (y5 : Option Value) (y6 : Option Value) (y7 : Option Value) (hk : k ≤ t) (hmu9 : t - k < mu9), PW l G cX8_greatest RX8 8 ((Option.some FieldType.int)) [] { frames := 2, cells := 0, slots := 0, locals := 43 } (gNm "greatest") (gME G SW ad (gR SW ad (some (.int (nI t))) (g)) gNo 0 0) 21 [some (.ref (ad 253)), some (.int (nI lot)), some (.int m), some (.int (nI k)), y4, y5, y6, y7] [] SW ad (g) 0 0 := by
  intro mu9
  induction mu9 with
  | zero => intro k y4 y5 y6 y7 hk hmu9; exact absurd hmu9 (Nat.not_lt_zero _)
  | succ mu9 ih =>
    intro k y4 y5 y6 y7 hk hmu9
    have hb1 := hw.1.2
    have hb2 := hw.2.1.2
    refine pw_iload_n dX8_greatest_21 rfl ?_
    refine pw_aload_n dX8_greatest_22 rfl ?_
    refine pw_getr dX8_greatest_23 lf_X8_9 sh_253 rfl ?_
    refine pw_iconst dX8_greatest_26 (v := 1) (by decide) ?_
    refine pw_iaload dX8_greatest_27 sh_254 (vpin (n := 1) (N := 1032) (by decide) (by decide)) ?_
    refine pw_icmp_ge dX8_greatest_28 (tgt := 125) (by decide) (fun c28 => ?_) (fun c28 => ?_)
    · skip
      exact absurd c28 (by rw [show g 254 (Int32.toNatClampNeg 1) = nI nH from hw.2.1.1]; exact nI_ge (by omega) (by omega))
    · skip
      have hk9 : k < nH := by omega
      refine pw_aload_n dX8_greatest_31 rfl ?_
      refine pw_iload_n dX8_greatest_32 rfl ?_
      refine pw_bipush dX8_greatest_33 (v := 13) (by decide) ?_
      refine pw_iload_n dX8_greatest_35 rfl ?_
      refine pw_iadd dX8_greatest_36 ?_
      rw [show (13 : Int32) + nI k = nI (13 + k) from nI_add 13 k]
      refine pw_cV dX8_greatest_37 (sp_X8_l (lot := lot) (k := 13 + k) (by omega)) mi_X8_l mv_X8_l ml_X8_102 sh_253 rfl rfl rfl rfl ⟨rfl, rfl⟩ rfl rfl ?_
      refine pw_istore dX8_greatest_40 (by decide) rfl ?_
      refine pw_iconst dX8_greatest_42 (v := 0) (by decide) ?_
      refine pw_istore dX8_greatest_43 (by decide) rfl ?_
      refine pw_iconst dX8_greatest_45 (v := 0) (by decide) ?_
      refine pw_istore dX8_greatest_46 (by decide) rfl ?_
      refine lq_X8_greatest hw hlot24 hk9 (fun p1 p2 => ?_) (fun p9 y4 y5 y6 y7 => ?_) (nH + 1) 0 0 _ (Nat.zero_le _) rfl (by omega)
      · rcases Nat.lt_or_ge k t with q | q
        · exact absurd (hN k q) (by unfold gtB; rw [decide_eq_true p1, decide_eq_true p2]; decide)
        · exact ⟨by rw [show k = t by omega], rfl⟩
      · rcases Nat.lt_or_ge k t with q | q
        · exact ih (k + 1) _ _ _ _ (by omega) (by omega)
        · rw [show t = k by omega, gt_f p9] at hF; cases hF

set_option maxRecDepth 100000 in
set_option maxHeartbeats 4000000 in
theorem lp_X8_greatest_no {l : Launch} {G : GC} {ad : Nat → Nat} {g : HP} {nL nH nB nC : Nat} {np : Nat → Nat} {pl : Nat → Nat → Nat} {lb : Nat → Nat} (hw : MW g nL nH nB nC np pl lb) {lot : Nat} (hlot24 : lot < 24) {m : Int32} (hN : ∀ k, k < nH → gtB g lot nH m k = false)  : ∀ (mu9 : Nat) (k : Nat) (y4 : Option Value) (y5 : Option Value) (y6 : Option Value) (y7 : Option Value) (hk : k ≤ nH) (hmu9 : nH - k < mu9), PW l G cX8_greatest RX8 8 ((Option.some FieldType.int)) [] { frames := 2, cells := 0, slots := 0, locals := 43 } (gNm "greatest") (gME G SW ad (gR SW ad (some (.int 0)) (faH g 2)) gNo 0 0) 21 [some (.ref (ad 253)), some (.int (nI lot)), some (.int m), some (.int (nI k)), y4, y5, y6, y7] [] SW ad (g) 0 0 := by
  intro mu9
  induction mu9 with
  | zero => intro k y4 y5 y6 y7 hk hmu9; exact absurd hmu9 (Nat.not_lt_zero _)
  | succ mu9 ih =>
    intro k y4 y5 y6 y7 hk hmu9
    have hb1 := hw.1.2
    have hb2 := hw.2.1.2
    refine pw_iload_n dX8_greatest_21 rfl ?_
    refine pw_aload_n dX8_greatest_22 rfl ?_
    refine pw_getr dX8_greatest_23 lf_X8_9 sh_253 rfl ?_
    refine pw_iconst dX8_greatest_26 (v := 1) (by decide) ?_
    refine pw_iaload dX8_greatest_27 sh_254 (vpin (n := 1) (N := 1032) (by decide) (by decide)) ?_
    refine pw_icmp_ge dX8_greatest_28 (tgt := 125) (by decide) (fun c28 => ?_) (fun c28 => ?_)
    · skip
      refine pw_aload_n dX8_greatest_125 rfl ?_
      refine pw_iconst dX8_greatest_126 (v := 2) (by decide) ?_
      refine pw_cV dX8_greatest_127 (sp_X8_fail) mi_X8_fail mv_X8_fail ml_X8_48 sh_253 rfl rfl rfl rfl ⟨rfl, rfl⟩ rfl rfl ?_
      exact pw_iretF dX8_greatest_130 rfl rfl rfl rfl rfl
    · skip
      have hk9 : k < nH := ltN hw.2.1.1 hk (by omega) c28
      refine pw_aload_n dX8_greatest_31 rfl ?_
      refine pw_iload_n dX8_greatest_32 rfl ?_
      refine pw_bipush dX8_greatest_33 (v := 13) (by decide) ?_
      refine pw_iload_n dX8_greatest_35 rfl ?_
      refine pw_iadd dX8_greatest_36 ?_
      rw [show (13 : Int32) + nI k = nI (13 + k) from nI_add 13 k]
      refine pw_cV dX8_greatest_37 (sp_X8_l (lot := lot) (k := 13 + k) (by omega)) mi_X8_l mv_X8_l ml_X8_102 sh_253 rfl rfl rfl rfl ⟨rfl, rfl⟩ rfl rfl ?_
      refine pw_istore dX8_greatest_40 (by decide) rfl ?_
      refine pw_iconst dX8_greatest_42 (v := 0) (by decide) ?_
      refine pw_istore dX8_greatest_43 (by decide) rfl ?_
      refine pw_iconst dX8_greatest_45 (v := 0) (by decide) ?_
      refine pw_istore dX8_greatest_46 (by decide) rfl ?_
      refine lq_X8_greatest hw hlot24 hk9 (fun p1 p2 => ?_) (fun p9 y4 y5 y6 y7 => ?_) (nH + 1) 0 0 _ (Nat.zero_le _) rfl (by omega)
      · exact absurd (hN k hk9) (by unfold gtB; rw [decide_eq_true p1, decide_eq_true p2]; decide)
      · exact ih (k + 1) _ _ _ _ (by omega) (by omega)

set_option maxRecDepth 100000 in
set_option maxHeartbeats 4000000 in
theorem sp_X8_greatest_ok {l : Launch} {G : GC} {ad : Nat → Nat} {h : HP} {nL nH nB nC : Nat} {np : Nat → Nat} {pl : Nat → Nat → Nat} {lb : Nat → Nat} (hw : MW h nL nH nB nC np pl lb) {lot : Nat} (hlot : lot < nL) {m : Int32} {t : Nat} (ht : t < nH) (hF : gtB h lot nH m t = true) (hN : ∀ k, k < t → gtB h lot nH m k = false) : PF l G yX8_greatest (.code yX8_greatest cX8_greatest 8 ((Option.some FieldType.int))) { frames := 2, cells := 0, slots := 0, locals := 43 } [.ref (ad 253), .int (nI lot), .int (m)] SW ad (h) (some (.int (nI t))) (faH h 0) := by
  refine PF.mk (L0 := [some (.ref (ad 253)), some (.int (nI lot)), some (.int (m)), none, none, none, none, none]) RX8 "greatest" 0 0 (by decide +kernel) rfl rfl ⟨rfl, rfl⟩ (by simp [Value.category]) (Nat.le_of_ble_eq_true rfl) rfl ?_
  have hwf : MW (hput h 253 5 0) nL nH nB nC np pl lb := MW_o hw (hput_ne h 5 0 (by decide))
  have hb1 := hw.1.2
  have hb2 := hw.2.1.2
  have hb3 := hw.2.2.1.2
  have hb4 := hw.2.2.2.1.2
  have hlot24 : lot < 24 := by omega
  refine pw_aload_n dX8_greatest_0 rfl ?_
  refine pw_iconst dX8_greatest_1 (v := 0) (by decide) ?_
  refine pw_puti dX8_greatest_2 lf_X8_42 lp_8_5 sh_253 rfl rfl rfl ?_
  refine pw_aload_n dX8_greatest_5 rfl ?_
  refine pw_iload_n dX8_greatest_6 rfl ?_
  refine pw_cV dX8_greatest_7 (sp_X8_isLot) mi_X8_isLot mv_X8_isLot ml_X8_98 sh_253 rfl rfl rfl rfl ⟨rfl, rfl⟩ rfl rfl ?_
  refine pw_if_ne dX8_greatest_10 (tgt := 19) (by decide) (fun c10 => ?_) (fun c10 => absurd c10 (b2iT (show wiB (nI lot) 0 (h 254 0 - 1) = true from wi_ok hw.1.1 hlot (by have := hw.1.2; omega))))
  refine pw_iconst dX8_greatest_19 (v := 0) (by decide) ?_
  refine pw_istore_n dX8_greatest_20 (by decide) rfl ?_
  exact lp_X8_greatest_ok (g := (hput h 253 5 0)) hwf hlot24 ht hF hN (nH + 1) 0 none none none none (Nat.zero_le _) (by omega)

set_option maxRecDepth 100000 in
set_option maxHeartbeats 4000000 in
theorem sp_X8_greatest_no2 {l : Launch} {G : GC} {ad : Nat → Nat} {h : HP} {nL nH nB nC : Nat} {np : Nat → Nat} {pl : Nat → Nat → Nat} {lb : Nat → Nat} (hw : MW h nL nH nB nC np pl lb) {lot : Nat} (hlot : lot < nL) {m : Int32} (hN : ∀ k, k < nH → gtB h lot nH m k = false) : PF l G yX8_greatest (.code yX8_greatest cX8_greatest 8 ((Option.some FieldType.int))) { frames := 2, cells := 0, slots := 0, locals := 43 } [.ref (ad 253), .int (nI lot), .int (m)] SW ad (h) (some (.int 0)) (faH (faH h 0) 2) := by
  refine PF.mk (L0 := [some (.ref (ad 253)), some (.int (nI lot)), some (.int (m)), none, none, none, none, none]) RX8 "greatest" 0 0 (by decide +kernel) rfl rfl ⟨rfl, rfl⟩ (by simp [Value.category]) (Nat.le_of_ble_eq_true rfl) rfl ?_
  have hwf : MW (hput h 253 5 0) nL nH nB nC np pl lb := MW_o hw (hput_ne h 5 0 (by decide))
  have hb1 := hw.1.2
  have hb2 := hw.2.1.2
  have hb3 := hw.2.2.1.2
  have hb4 := hw.2.2.2.1.2
  have hlot24 : lot < 24 := by omega
  refine pw_aload_n dX8_greatest_0 rfl ?_
  refine pw_iconst dX8_greatest_1 (v := 0) (by decide) ?_
  refine pw_puti dX8_greatest_2 lf_X8_42 lp_8_5 sh_253 rfl rfl rfl ?_
  refine pw_aload_n dX8_greatest_5 rfl ?_
  refine pw_iload_n dX8_greatest_6 rfl ?_
  refine pw_cV dX8_greatest_7 (sp_X8_isLot) mi_X8_isLot mv_X8_isLot ml_X8_98 sh_253 rfl rfl rfl rfl ⟨rfl, rfl⟩ rfl rfl ?_
  refine pw_if_ne dX8_greatest_10 (tgt := 19) (by decide) (fun c10 => ?_) (fun c10 => absurd c10 (b2iT (show wiB (nI lot) 0 (h 254 0 - 1) = true from wi_ok hw.1.1 hlot (by have := hw.1.2; omega))))
  refine pw_iconst dX8_greatest_19 (v := 0) (by decide) ?_
  refine pw_istore_n dX8_greatest_20 (by decide) rfl ?_
  exact lp_X8_greatest_no (g := (hput h 253 5 0)) hwf hlot24 hN (nH + 1) 0 none none none none (Nat.zero_le _) (by omega)

set_option maxRecDepth 100000 in
set_option maxHeartbeats 4000000 in
theorem lp_X8_meanVintage {l : Launch} {G : GC} {ad : Nat → Nat} {g : HP} {nL nH nB nC : Nat} {np : Nat → Nat} {pl : Nat → Nat → Nat} {lb : Nat → Nat} (hw : MW g nL nH nB nC np pl lb) {lot : Nat} (hlot24 : lot < 24) (h0 : g 253 5 = 0)  : ∀ (mu9 : Nat) (i : Nat) (x : Int32) (hi : i ≤ nH) (hx : x = sumC (fun k => mL g lot (13 + k) * mHv g k 0) i) (hmu9 : nH - i < mu9), PW l G cX8_meanVintage RX8 4 ((Option.some FieldType.double)) [] { frames := 2, cells := 0, slots := 0, locals := 43 } (gNm "meanVintage") (gME G SW ad (gR SW ad (some (.double (mil (sumC (fun k => mL g lot (13 + k) * mHv g k 0) nH)))) (g)) gNo 0 0) 21 [some (.ref (ad 253)), some (.int (nI lot)), some (.int x), some (.int (nI i))] [] SW ad (g) 0 0 := by
  intro mu9
  induction mu9 with
  | zero => intro i x hi hx hmu9; exact absurd hmu9 (Nat.not_lt_zero _)
  | succ mu9 ih =>
    intro i x hi hx hmu9
    have hb1 := hw.1.2
    have hb2 := hw.2.1.2
    refine pw_iload_n dX8_meanVintage_21 rfl ?_
    refine pw_aload_n dX8_meanVintage_22 rfl ?_
    refine pw_getr dX8_meanVintage_23 lf_X8_9 sh_253 rfl ?_
    refine pw_iconst dX8_meanVintage_26 (v := 1) (by decide) ?_
    refine pw_iaload dX8_meanVintage_27 sh_254 (vpin (n := 1) (N := 1032) (by decide) (by decide)) ?_
    refine pw_icmp_ge dX8_meanVintage_28 (tgt := 63) (by decide) (fun c28 => ?_) (fun c28 => ?_)
    · skip
      have hi8 : i = nH := eqN hw.2.1.1 hi (by omega) c28
      refine pw_iload_n dX8_meanVintage_63 rfl ?_
      refine pw_i2d dX8_meanVintage_64 ?_
      refine pw_ldc2 dX8_meanVintage_65 lk_X8_153 ?_
      refine pw_ddiv dX8_meanVintage_68 (mil_n64 _) ?_
      exact pw_dretF dX8_meanVintage_69 rfl rfl (by rw [hx, hi8]; rfl) rfl
    · skip
      have hi9 : i < nH := ltN hw.2.1.1 hi (by omega) c28
      refine pw_aload_n dX8_meanVintage_31 rfl ?_
      refine pw_geti dX8_meanVintage_32 lf_X8_42 sh_253 rfl ?_
      refine pw_if_ne dX8_meanVintage_35 (tgt := 63) (by decide) (fun c35 => absurd c35 (fun q => q h0)) (fun c35 => ?_)
      refine pw_iload_n dX8_meanVintage_38 rfl ?_
      refine pw_aload_n dX8_meanVintage_39 rfl ?_
      refine pw_iload_n dX8_meanVintage_40 rfl ?_
      refine pw_bipush dX8_meanVintage_41 (v := 13) (by decide) ?_
      refine pw_iload_n dX8_meanVintage_43 rfl ?_
      refine pw_iadd dX8_meanVintage_44 ?_
      rw [show (13 : Int32) + nI i = nI (13 + i) from nI_add 13 i]
      refine pw_cV dX8_meanVintage_45 (sp_X8_l (lot := lot) (k := 13 + i) (by omega)) mi_X8_l mv_X8_l ml_X8_102 sh_253 rfl rfl rfl rfl ⟨rfl, rfl⟩ rfl rfl ?_
      refine pw_aload_n dX8_meanVintage_48 rfl ?_
      refine pw_iload_n dX8_meanVintage_49 rfl ?_
      refine pw_iconst dX8_meanVintage_50 (v := 0) (by decide) ?_
      refine pw_cV dX8_meanVintage_51 (sp_X8_h (r := i) (k := 0) (by omega)) mi_X8_h mv_X8_h ml_X8_144 sh_253 rfl rfl rfl rfl ⟨rfl, rfl⟩ rfl rfl ?_
      refine pw_imul dX8_meanVintage_54 ?_
      refine pw_iadd dX8_meanVintage_55 ?_
      refine pw_istore_n dX8_meanVintage_56 (by decide) rfl ?_
      refine pw_iinc dX8_meanVintage_57 rfl (d := 1) (by decide) (by decide) rfl ?_
      rw [nI_1]
      refine pw_goto dX8_meanVintage_60 (tgt := 21) (by decide) ?_
      refine ih (i + 1) _ (by omega) ?_ (by omega)
      rw [hx]; rfl

set_option maxRecDepth 100000 in
set_option maxHeartbeats 4000000 in
theorem sp_X8_meanVintage_no1 {l : Launch} {G : GC} {ad : Nat → Nat} {h : HP} {nL nH nB nC : Nat} {np : Nat → Nat} {pl : Nat → Nat → Nat} {lb : Nat → Nat} (hw : MW h nL nH nB nC np pl lb) {n : Int32} (e : wiB n 0 (h 254 0 - 1) = false) : PF l G yX8_meanVintage (.code yX8_meanVintage cX8_meanVintage 4 ((Option.some FieldType.double))) { frames := 2, cells := 0, slots := 0, locals := 43 } [.ref (ad 253), .int (n)] SW ad (h) (some (.double (mil 0))) (faH h 1) := by
  refine PF.mk (L0 := [some (.ref (ad 253)), some (.int (n)), none, none]) RX8 "meanVintage" 0 0 (by decide +kernel) rfl rfl ⟨rfl, rfl⟩ (by simp [Value.category]) (Nat.le_of_ble_eq_true rfl) rfl ?_
  refine pw_aload_n dX8_meanVintage_0 rfl ?_
  refine pw_aload_n dX8_meanVintage_1 rfl ?_
  refine pw_iload_n dX8_meanVintage_2 rfl ?_
  refine pw_cV dX8_meanVintage_3 (sp_X8_isLot) mi_X8_isLot mv_X8_isLot ml_X8_98 sh_253 rfl rfl rfl rfl ⟨rfl, rfl⟩ rfl rfl ?_
  refine pw_if_eq dX8_meanVintage_6 (tgt := 13) (by decide) (fun c6 => ?_) (fun c6 => absurd c6 (fun q => q (b2iF e)))
  refine pw_iconst dX8_meanVintage_13 (v := 1) (by decide) ?_
  refine pw_puti dX8_meanVintage_14 lf_X8_42 lp_8_5 sh_253 rfl rfl rfl ?_
  refine pw_iconst dX8_meanVintage_17 (v := 0) (by decide) ?_
  refine pw_istore_n dX8_meanVintage_18 (by decide) rfl ?_
  refine pw_iconst dX8_meanVintage_19 (v := 0) (by decide) ?_
  refine pw_istore_n dX8_meanVintage_20 (by decide) rfl ?_
  refine pw_iload_n dX8_meanVintage_21 rfl ?_
  refine pw_aload_n dX8_meanVintage_22 rfl ?_
  refine pw_getr dX8_meanVintage_23 lf_X8_9 sh_253 rfl ?_
  refine pw_iconst dX8_meanVintage_26 (v := 1) (by decide) ?_
  refine pw_iaload dX8_meanVintage_27 sh_254 (vpin (n := 1) (N := 1032) (by decide) (by decide)) ?_
  refine pw_icmp_ge dX8_meanVintage_28 (tgt := 63) (by decide) (fun c28 => ?_) (fun c28 => ?_)
  · skip
    refine pw_iload_n dX8_meanVintage_63 rfl ?_
    refine pw_i2d dX8_meanVintage_64 ?_
    refine pw_ldc2 dX8_meanVintage_65 lk_X8_153 ?_
    refine pw_ddiv dX8_meanVintage_68 (mil_n64 _) ?_
    exact pw_dretF dX8_meanVintage_69 rfl rfl rfl rfl
  · skip
    refine pw_aload_n dX8_meanVintage_31 rfl ?_
    refine pw_geti dX8_meanVintage_32 lf_X8_42 sh_253 rfl ?_
    refine pw_if_ne dX8_meanVintage_35 (tgt := 63) (by decide) (fun c35 => ?_) (fun c35 => absurd c35 ((show ¬ ((1 : Int32) = 0) from by decide)))
    refine pw_iload_n dX8_meanVintage_63 rfl ?_
    refine pw_i2d dX8_meanVintage_64 ?_
    refine pw_ldc2 dX8_meanVintage_65 lk_X8_153 ?_
    refine pw_ddiv dX8_meanVintage_68 (mil_n64 _) ?_
    exact pw_dretF dX8_meanVintage_69 rfl rfl rfl rfl

set_option maxRecDepth 100000 in
set_option maxHeartbeats 4000000 in
theorem sp_X8_meanVintage_ok {l : Launch} {G : GC} {ad : Nat → Nat} {h : HP} {nL nH nB nC : Nat} {np : Nat → Nat} {pl : Nat → Nat → Nat} {lb : Nat → Nat} (hw : MW h nL nH nB nC np pl lb) {lot : Nat} (hlot : lot < nL) : PF l G yX8_meanVintage (.code yX8_meanVintage cX8_meanVintage 4 ((Option.some FieldType.double))) { frames := 2, cells := 0, slots := 0, locals := 43 } [.ref (ad 253), .int (nI lot)] SW ad (h) (some (.double (mil (sumC (fun k => mL h lot (13 + k) * mHv h k 0) nH)))) (faH h 0) := by
  refine PF.mk (L0 := [some (.ref (ad 253)), some (.int (nI lot)), none, none]) RX8 "meanVintage" 0 0 (by decide +kernel) rfl rfl ⟨rfl, rfl⟩ (by simp [Value.category]) (Nat.le_of_ble_eq_true rfl) rfl ?_
  have hwf : MW (hput h 253 5 0) nL nH nB nC np pl lb := MW_o hw (hput_ne h 5 0 (by decide))
  have hb1 := hw.1.2
  have hb2 := hw.2.1.2
  have hb3 := hw.2.2.1.2
  have hb4 := hw.2.2.2.1.2
  have hlot24 : lot < 24 := by omega
  refine pw_aload_n dX8_meanVintage_0 rfl ?_
  refine pw_aload_n dX8_meanVintage_1 rfl ?_
  refine pw_iload_n dX8_meanVintage_2 rfl ?_
  refine pw_cV dX8_meanVintage_3 (sp_X8_isLot) mi_X8_isLot mv_X8_isLot ml_X8_98 sh_253 rfl rfl rfl rfl ⟨rfl, rfl⟩ rfl rfl ?_
  refine pw_if_eq dX8_meanVintage_6 (tgt := 13) (by decide) (fun c6 => absurd c6 (b2iT (show wiB (nI lot) 0 (h 254 0 - 1) = true from wi_ok hw.1.1 hlot (by have := hw.1.2; omega)))) (fun c6 => ?_)
  refine pw_iconst dX8_meanVintage_9 (v := 0) (by decide) ?_
  refine pw_goto dX8_meanVintage_10 (tgt := 14) (by decide) ?_
  refine pw_puti dX8_meanVintage_14 lf_X8_42 lp_8_5 sh_253 rfl rfl rfl ?_
  refine pw_iconst dX8_meanVintage_17 (v := 0) (by decide) ?_
  refine pw_istore_n dX8_meanVintage_18 (by decide) rfl ?_
  refine pw_iconst dX8_meanVintage_19 (v := 0) (by decide) ?_
  refine pw_istore_n dX8_meanVintage_20 (by decide) rfl ?_
  exact lp_X8_meanVintage (g := (hput h 253 5 0)) hwf hlot24 rfl (nH + 1) 0 0 (Nat.zero_le _) rfl (by omega)

set_option maxRecDepth 100000 in
set_option maxHeartbeats 4000000 in
theorem sp_X8_forbids_no1 {l : Launch} {G : GC} {ad : Nat → Nat} {h : HP} {n : Int32} {v g s r : Int32} (e : wiB n 0 (h 254 0 - 1) = false) : PF l G yX8_forbids (.code yX8_forbids cX8_forbids 6 ((Option.some FieldType.int))) { frames := 4, cells := 0, slots := 0, locals := 97 } [.ref (ad 253), .int (n), .int (v), .int (g), .int (s), .int (r)] SW ad (h) (some (.int 0)) (faH (faH h 0) 1) := by
  refine PF.mk (L0 := [some (.ref (ad 253)), some (.int (n)), some (.int (v)), some (.int (g)), some (.int (s)), some (.int (r))]) RX8 "forbids" 0 0 (by decide +kernel) rfl rfl ⟨rfl, rfl⟩ (by simp [Value.category]) (Nat.le_of_ble_eq_true rfl) rfl ?_
  refine pw_aload_n dX8_forbids_0 rfl ?_
  refine pw_iconst dX8_forbids_1 (v := 0) (by decide) ?_
  refine pw_puti dX8_forbids_2 lf_X8_42 lp_8_5 sh_253 rfl rfl rfl ?_
  refine pw_aload_n dX8_forbids_5 rfl ?_
  refine pw_iload_n dX8_forbids_6 rfl ?_
  refine pw_cV dX8_forbids_7 (sp_X8_isLot) mi_X8_isLot mv_X8_isLot ml_X8_98 sh_253 rfl rfl rfl rfl ⟨rfl, rfl⟩ rfl rfl ?_
  refine pw_if_ne dX8_forbids_10 (tgt := 19) (by decide) (fun c10 => absurd c10 (fun q => q (b2iF e))) (fun c10 => ?_)
  refine pw_aload_n dX8_forbids_13 rfl ?_
  refine pw_iconst dX8_forbids_14 (v := 1) (by decide) ?_
  refine pw_cV dX8_forbids_15 (sp_X8_fail) mi_X8_fail mv_X8_fail ml_X8_48 sh_253 rfl rfl rfl rfl ⟨rfl, rfl⟩ rfl rfl ?_
  exact pw_iretF dX8_forbids_18 rfl rfl rfl rfl rfl

set_option maxRecDepth 100000 in
set_option maxHeartbeats 4000000 in
theorem sp_X8_forbids_no2 {l : Launch} {G : GC} {ad : Nat → Nat} {h : HP} {nL nH nB nC : Nat} {np : Nat → Nat} {pl : Nat → Nat → Nat} {lb : Nat → Nat} (hw : MW h nL nH nB nC np pl lb) {lot : Nat} (hlot : lot < nL) {v g s r : Int32} (e : lbB v g s r = false) : PF l G yX8_forbids (.code yX8_forbids cX8_forbids 6 ((Option.some FieldType.int))) { frames := 4, cells := 0, slots := 0, locals := 97 } [.ref (ad 253), .int (nI lot), .int (v), .int (g), .int (s), .int (r)] SW ad (h) (some (.int 0)) (faH (faH h 0) 2) := by
  refine PF.mk (L0 := [some (.ref (ad 253)), some (.int (nI lot)), some (.int (v)), some (.int (g)), some (.int (s)), some (.int (r))]) RX8 "forbids" 0 0 (by decide +kernel) rfl rfl ⟨rfl, rfl⟩ (by simp [Value.category]) (Nat.le_of_ble_eq_true rfl) rfl ?_
  have hwf : MW (hput h 253 5 0) nL nH nB nC np pl lb := MW_o hw (hput_ne h 5 0 (by decide))
  have hb1 := hw.1.2
  have hb2 := hw.2.1.2
  have hb3 := hw.2.2.1.2
  have hb4 := hw.2.2.2.1.2
  have hlot24 : lot < 24 := by omega
  refine pw_aload_n dX8_forbids_0 rfl ?_
  refine pw_iconst dX8_forbids_1 (v := 0) (by decide) ?_
  refine pw_puti dX8_forbids_2 lf_X8_42 lp_8_5 sh_253 rfl rfl rfl ?_
  refine pw_aload_n dX8_forbids_5 rfl ?_
  refine pw_iload_n dX8_forbids_6 rfl ?_
  refine pw_cV dX8_forbids_7 (sp_X8_isLot) mi_X8_isLot mv_X8_isLot ml_X8_98 sh_253 rfl rfl rfl rfl ⟨rfl, rfl⟩ rfl rfl ?_
  refine pw_if_ne dX8_forbids_10 (tgt := 19) (by decide) (fun c10 => ?_) (fun c10 => absurd c10 (b2iT (show wiB (nI lot) 0 (h 254 0 - 1) = true from wi_ok hw.1.1 hlot (by have := hw.1.2; omega))))
  refine pw_iload_n dX8_forbids_19 rfl ?_
  refine pw_iload_n dX8_forbids_20 rfl ?_
  refine pw_iload dX8_forbids_21 rfl ?_
  refine pw_iload dX8_forbids_23 rfl ?_
  refine pw_cS dX8_forbids_25 (sp_X8_isLabel) mi_X8_isLabel ms_X8_isLabel ml_X8_158 rfl rfl ⟨rfl, rfl⟩ rfl rfl ?_
  refine pw_if_eq dX8_forbids_28 (tgt := 45) (by decide) (fun c28 => ?_) (fun c28 => absurd c28 (fun q => q (b2iF e)))
  refine pw_aload_n dX8_forbids_45 rfl ?_
  refine pw_iconst dX8_forbids_46 (v := 2) (by decide) ?_
  refine pw_cV dX8_forbids_47 (sp_X8_fail) mi_X8_fail mv_X8_fail ml_X8_48 sh_253 rfl rfl rfl rfl ⟨rfl, rfl⟩ rfl rfl ?_
  exact pw_iretF dX8_forbids_50 rfl rfl rfl rfl rfl

set_option maxRecDepth 100000 in
set_option maxHeartbeats 4000000 in
theorem sp_X8_forbids_ok {l : Launch} {G : GC} {ad : Nat → Nat} {h : HP} {nL nH nB nC : Nat} {np : Nat → Nat} {pl : Nat → Nat → Nat} {lb : Nat → Nat} (hw : MW h nL nH nB nC np pl lb) {lot : Nat} (hlot : lot < nL) {v g s r : Int32} (e : lbB v g s r = true) : PF l G yX8_forbids (.code yX8_forbids cX8_forbids 6 ((Option.some FieldType.int))) { frames := 4, cells := 0, slots := 0, locals := 97 } [.ref (ad 253), .int (nI lot), .int (v), .int (g), .int (s), .int (r)] SW ad (h) (some (.int (fbM h lot nH v g s r))) (faH h 0) := by
  refine PF.mk (L0 := [some (.ref (ad 253)), some (.int (nI lot)), some (.int (v)), some (.int (g)), some (.int (s)), some (.int (r))]) RX8 "forbids" 0 0 (by decide +kernel) rfl rfl ⟨rfl, rfl⟩ (by simp [Value.category]) (Nat.le_of_ble_eq_true rfl) rfl ?_
  have hwf : MW (hput h 253 5 0) nL nH nB nC np pl lb := MW_o hw (hput_ne h 5 0 (by decide))
  have hb1 := hw.1.2
  have hb2 := hw.2.1.2
  have hb3 := hw.2.2.1.2
  have hb4 := hw.2.2.2.1.2
  have hlot24 : lot < 24 := by omega
  refine pw_aload_n dX8_forbids_0 rfl ?_
  refine pw_iconst dX8_forbids_1 (v := 0) (by decide) ?_
  refine pw_puti dX8_forbids_2 lf_X8_42 lp_8_5 sh_253 rfl rfl rfl ?_
  refine pw_aload_n dX8_forbids_5 rfl ?_
  refine pw_iload_n dX8_forbids_6 rfl ?_
  refine pw_cV dX8_forbids_7 (sp_X8_isLot) mi_X8_isLot mv_X8_isLot ml_X8_98 sh_253 rfl rfl rfl rfl ⟨rfl, rfl⟩ rfl rfl ?_
  refine pw_if_ne dX8_forbids_10 (tgt := 19) (by decide) (fun c10 => ?_) (fun c10 => absurd c10 (b2iT (show wiB (nI lot) 0 (h 254 0 - 1) = true from wi_ok hw.1.1 hlot (by have := hw.1.2; omega))))
  refine pw_iload_n dX8_forbids_19 rfl ?_
  refine pw_iload_n dX8_forbids_20 rfl ?_
  refine pw_iload dX8_forbids_21 rfl ?_
  refine pw_iload dX8_forbids_23 rfl ?_
  refine pw_cS dX8_forbids_25 (sp_X8_isLabel) mi_X8_isLabel ms_X8_isLabel ml_X8_158 rfl rfl ⟨rfl, rfl⟩ rfl rfl ?_
  refine pw_if_eq dX8_forbids_28 (tgt := 45) (by decide) (fun c28 => absurd c28 (b2iT e)) (fun c28 => ?_)
  refine pw_aload_n dX8_forbids_31 rfl ?_
  refine pw_iload_n dX8_forbids_32 rfl ?_
  refine pw_iload_n dX8_forbids_33 rfl ?_
  refine pw_iload_n dX8_forbids_34 rfl ?_
  refine pw_iload dX8_forbids_35 rfl ?_
  refine pw_iload dX8_forbids_37 rfl ?_
  refine pw_cV dX8_forbids_39 (sp_X8_forbidding hwf hlot24) mi_X8_forbidding mv_X8_forbidding ml_X8_162 sh_253 rfl rfl rfl rfl ⟨rfl, rfl⟩ rfl rfl ?_
  refine pw_goto dX8_forbids_42 (tgt := 50) (by decide) ?_
  exact pw_iretF dX8_forbids_50 rfl rfl rfl rfl rfl

set_option maxRecDepth 100000 in
set_option maxHeartbeats 4000000 in
theorem sp_X8_bottling_no1 {l : Launch} {G : GC} {ad : Nat → Nat} {h : HP} {n m : Int32} (e : wiB n 0 (h 254 2 - 1) = false) : PF l G yX8_bottling (.code yX8_bottling cX8_bottling 3 ((Option.some FieldType.int))) { frames := 5, cells := 0, slots := 0, locals := 118 } [.ref (ad 253), .int (n), .int (m)] SW ad (h) (some (.int 0)) (faH (faH h 0) 1) := by
  refine PF.mk (L0 := [some (.ref (ad 253)), some (.int (n)), some (.int (m))]) RX8 "bottling" 0 0 (by decide +kernel) rfl rfl ⟨rfl, rfl⟩ (by simp [Value.category]) (Nat.le_of_ble_eq_true rfl) rfl ?_
  refine pw_aload_n dX8_bottling_0 rfl ?_
  refine pw_iconst dX8_bottling_1 (v := 0) (by decide) ?_
  refine pw_puti dX8_bottling_2 lf_X8_42 lp_8_5 sh_253 rfl rfl rfl ?_
  refine pw_aload_n dX8_bottling_5 rfl ?_
  refine pw_iload_n dX8_bottling_6 rfl ?_
  refine pw_cV dX8_bottling_7 (sp_X8_isBottling) mi_X8_isBottling mv_X8_isBottling ml_X8_172 sh_253 rfl rfl rfl rfl ⟨rfl, rfl⟩ rfl rfl ?_
  refine pw_if_ne dX8_bottling_10 (tgt := 19) (by decide) (fun c10 => absurd c10 (fun q => q (b2iF e))) (fun c10 => ?_)
  refine pw_aload_n dX8_bottling_13 rfl ?_
  refine pw_iconst dX8_bottling_14 (v := 1) (by decide) ?_
  refine pw_cV dX8_bottling_15 (sp_X8_fail) mi_X8_fail mv_X8_fail ml_X8_48 sh_253 rfl rfl rfl rfl ⟨rfl, rfl⟩ rfl rfl ?_
  exact pw_iretF dX8_bottling_18 rfl rfl rfl rfl rfl

set_option maxRecDepth 100000 in
set_option maxHeartbeats 4000000 in
theorem sp_X8_bottling_no2 {l : Launch} {G : GC} {ad : Nat → Nat} {h : HP} {nL nH nB nC : Nat} {np : Nat → Nat} {pl : Nat → Nat → Nat} {lb : Nat → Nat} (hw : MW h nL nH nB nC np pl lb) {b : Nat} (hbB : b < nB) {m : Int32} (e : wiB m 0 6 = false) (e7 : ¬ m = 7) (e8 : ¬ m = 8) : PF l G yX8_bottling (.code yX8_bottling cX8_bottling 3 ((Option.some FieldType.int))) { frames := 5, cells := 0, slots := 0, locals := 118 } [.ref (ad 253), .int (nI b), .int (m)] SW ad (h) (some (.int 0)) (faH (faH h 0) 2) := by
  refine PF.mk (L0 := [some (.ref (ad 253)), some (.int (nI b)), some (.int (m))]) RX8 "bottling" 0 0 (by decide +kernel) rfl rfl ⟨rfl, rfl⟩ (by simp [Value.category]) (Nat.le_of_ble_eq_true rfl) rfl ?_
  have hwf : MW (hput h 253 5 0) nL nH nB nC np pl lb := MW_o hw (hput_ne h 5 0 (by decide))
  have hb1 := hw.1.2
  have hb2 := hw.2.1.2
  have hb3 := hw.2.2.1.2
  have hb4 := hw.2.2.2.1.2
  have hb16 : b < 16 := by omega
  refine pw_aload_n dX8_bottling_0 rfl ?_
  refine pw_iconst dX8_bottling_1 (v := 0) (by decide) ?_
  refine pw_puti dX8_bottling_2 lf_X8_42 lp_8_5 sh_253 rfl rfl rfl ?_
  refine pw_aload_n dX8_bottling_5 rfl ?_
  refine pw_iload_n dX8_bottling_6 rfl ?_
  refine pw_cV dX8_bottling_7 (sp_X8_isBottling) mi_X8_isBottling mv_X8_isBottling ml_X8_172 sh_253 rfl rfl rfl rfl ⟨rfl, rfl⟩ rfl rfl ?_
  refine pw_if_ne dX8_bottling_10 (tgt := 19) (by decide) (fun c10 => ?_) (fun c10 => absurd c10 (b2iT (show wiB (nI b) 0 (h 254 2 - 1) = true from wi_ok hw.2.2.1.1 hbB (by have := hw.2.2.1.2; omega))))
  refine pw_iload_n dX8_bottling_19 rfl ?_
  refine pw_iconst dX8_bottling_20 (v := 0) (by decide) ?_
  refine pw_bipush dX8_bottling_21 (v := 6) (by decide) ?_
  refine pw_cS dX8_bottling_23 (sp_X8_isIn) mi_X8_isIn ms_X8_isIn ml_X8_55 rfl rfl ⟨rfl, rfl⟩ rfl rfl ?_
  refine pw_if_eq dX8_bottling_26 (tgt := 36) (by decide) (fun c26 => ?_) (fun c26 => absurd c26 (fun q => q (b2iF e)))
  refine pw_iload_n dX8_bottling_36 rfl ?_
  refine pw_bipush dX8_bottling_37 (v := 7) (by decide) ?_
  refine pw_icmp_ne dX8_bottling_39 (tgt := 50) (by decide) (fun c39 => ?_) (fun c39 => absurd c39 (e7))
  refine pw_iload_n dX8_bottling_50 rfl ?_
  refine pw_bipush dX8_bottling_51 (v := 8) (by decide) ?_
  refine pw_icmp_ne dX8_bottling_53 (tgt := 72) (by decide) (fun c53 => ?_) (fun c53 => absurd c53 (e8))
  refine pw_aload_n dX8_bottling_72 rfl ?_
  refine pw_iconst dX8_bottling_73 (v := 2) (by decide) ?_
  refine pw_cV dX8_bottling_74 (sp_X8_fail) mi_X8_fail mv_X8_fail ml_X8_48 sh_253 rfl rfl rfl rfl ⟨rfl, rfl⟩ rfl rfl ?_
  exact pw_iretF dX8_bottling_77 rfl rfl rfl rfl rfl

set_option maxRecDepth 100000 in
set_option maxHeartbeats 4000000 in
theorem sp_X8_bottling_k {l : Launch} {G : GC} {ad : Nat → Nat} {h : HP} {nL nH nB nC : Nat} {np : Nat → Nat} {pl : Nat → Nat → Nat} {lb : Nat → Nat} (hw : MW h nL nH nB nC np pl lb) {b : Nat} (hbB : b < nB) {j : Nat} (hj : j < 7) : PF l G yX8_bottling (.code yX8_bottling cX8_bottling 3 ((Option.some FieldType.int))) { frames := 5, cells := 0, slots := 0, locals := 118 } [.ref (ad 253), .int (nI b), .int (nI j)] SW ad (h) (some (.int (mB h b j))) (faH h 0) := by
  refine PF.mk (L0 := [some (.ref (ad 253)), some (.int (nI b)), some (.int (nI j))]) RX8 "bottling" 0 0 (by decide +kernel) rfl rfl ⟨rfl, rfl⟩ (by simp [Value.category]) (Nat.le_of_ble_eq_true rfl) rfl ?_
  have hwf : MW (hput h 253 5 0) nL nH nB nC np pl lb := MW_o hw (hput_ne h 5 0 (by decide))
  have hb1 := hw.1.2
  have hb2 := hw.2.1.2
  have hb3 := hw.2.2.1.2
  have hb4 := hw.2.2.2.1.2
  have hb16 : b < 16 := by omega
  refine pw_aload_n dX8_bottling_0 rfl ?_
  refine pw_iconst dX8_bottling_1 (v := 0) (by decide) ?_
  refine pw_puti dX8_bottling_2 lf_X8_42 lp_8_5 sh_253 rfl rfl rfl ?_
  refine pw_aload_n dX8_bottling_5 rfl ?_
  refine pw_iload_n dX8_bottling_6 rfl ?_
  refine pw_cV dX8_bottling_7 (sp_X8_isBottling) mi_X8_isBottling mv_X8_isBottling ml_X8_172 sh_253 rfl rfl rfl rfl ⟨rfl, rfl⟩ rfl rfl ?_
  refine pw_if_ne dX8_bottling_10 (tgt := 19) (by decide) (fun c10 => ?_) (fun c10 => absurd c10 (b2iT (show wiB (nI b) 0 (h 254 2 - 1) = true from wi_ok hw.2.2.1.1 hbB (by have := hw.2.2.1.2; omega))))
  refine pw_iload_n dX8_bottling_19 rfl ?_
  refine pw_iconst dX8_bottling_20 (v := 0) (by decide) ?_
  refine pw_bipush dX8_bottling_21 (v := 6) (by decide) ?_
  refine pw_cS dX8_bottling_23 (sp_X8_isIn) mi_X8_isIn ms_X8_isIn ml_X8_55 rfl rfl ⟨rfl, rfl⟩ rfl rfl ?_
  refine pw_if_eq dX8_bottling_26 (tgt := 36) (by decide) (fun c26 => absurd c26 (b2iT (wi_ok (x := 7) (N := 7) rfl hj (by decide)))) (fun c26 => ?_)
  refine pw_aload_n dX8_bottling_29 rfl ?_
  refine pw_iload_n dX8_bottling_30 rfl ?_
  refine pw_iload_n dX8_bottling_31 rfl ?_
  refine pw_cV dX8_bottling_32 (sp_X8_b (b := b) (k := j) (by omega)) mi_X8_b mv_X8_b ml_X8_169 sh_253 rfl rfl rfl rfl ⟨rfl, rfl⟩ rfl rfl ?_
  exact pw_iretF dX8_bottling_35 rfl rfl rfl rfl rfl

set_option maxRecDepth 100000 in
set_option maxHeartbeats 4000000 in
theorem sp_X8_bottling_k7 {l : Launch} {G : GC} {ad : Nat → Nat} {h : HP} {nL nH nB nC : Nat} {np : Nat → Nat} {pl : Nat → Nat → Nat} {lb : Nat → Nat} (hw : MW h nL nH nB nC np pl lb) {b : Nat} (hbB : b < nB) : PF l G yX8_bottling (.code yX8_bottling cX8_bottling 3 ((Option.some FieldType.int))) { frames := 5, cells := 0, slots := 0, locals := 118 } [.ref (ad 253), .int (nI b), .int (7)] SW ad (h) (some (.int (nI (cntB (fun c => liB h b c) nC)))) (faH h 0) := by
  refine PF.mk (L0 := [some (.ref (ad 253)), some (.int (nI b)), some (.int (7))]) RX8 "bottling" 0 0 (by decide +kernel) rfl rfl ⟨rfl, rfl⟩ (by simp [Value.category]) (Nat.le_of_ble_eq_true rfl) rfl ?_
  have hwf : MW (hput h 253 5 0) nL nH nB nC np pl lb := MW_o hw (hput_ne h 5 0 (by decide))
  have hb1 := hw.1.2
  have hb2 := hw.2.1.2
  have hb3 := hw.2.2.1.2
  have hb4 := hw.2.2.2.1.2
  have hb16 : b < 16 := by omega
  refine pw_aload_n dX8_bottling_0 rfl ?_
  refine pw_iconst dX8_bottling_1 (v := 0) (by decide) ?_
  refine pw_puti dX8_bottling_2 lf_X8_42 lp_8_5 sh_253 rfl rfl rfl ?_
  refine pw_aload_n dX8_bottling_5 rfl ?_
  refine pw_iload_n dX8_bottling_6 rfl ?_
  refine pw_cV dX8_bottling_7 (sp_X8_isBottling) mi_X8_isBottling mv_X8_isBottling ml_X8_172 sh_253 rfl rfl rfl rfl ⟨rfl, rfl⟩ rfl rfl ?_
  refine pw_if_ne dX8_bottling_10 (tgt := 19) (by decide) (fun c10 => ?_) (fun c10 => absurd c10 (b2iT (show wiB (nI b) 0 (h 254 2 - 1) = true from wi_ok hw.2.2.1.1 hbB (by have := hw.2.2.1.2; omega))))
  refine pw_iload_n dX8_bottling_19 rfl ?_
  refine pw_iconst dX8_bottling_20 (v := 0) (by decide) ?_
  refine pw_bipush dX8_bottling_21 (v := 6) (by decide) ?_
  refine pw_cS dX8_bottling_23 (sp_X8_isIn) mi_X8_isIn ms_X8_isIn ml_X8_55 rfl rfl ⟨rfl, rfl⟩ rfl rfl ?_
  refine pw_if_eq dX8_bottling_26 (tgt := 36) (by decide) (fun c26 => ?_) (fun c26 => absurd c26 (fun q => q (b2iF rfl)))
  refine pw_iload_n dX8_bottling_36 rfl ?_
  refine pw_bipush dX8_bottling_37 (v := 7) (by decide) ?_
  refine pw_icmp_ne dX8_bottling_39 (tgt := 50) (by decide) (fun c39 => absurd c39 (fun q => q rfl)) (fun c39 => ?_)
  refine pw_aload_n dX8_bottling_42 rfl ?_
  refine pw_iload_n dX8_bottling_43 rfl ?_
  refine pw_cV dX8_bottling_44 (sp_X8_listMany hwf hb16) mi_X8_listMany mv_X8_listMany ml_X8_175 sh_253 rfl rfl rfl rfl ⟨rfl, rfl⟩ rfl rfl ?_
  refine pw_goto dX8_bottling_47 (tgt := 77) (by decide) ?_
  exact pw_iretF dX8_bottling_77 rfl rfl rfl rfl rfl

set_option maxRecDepth 100000 in
set_option maxHeartbeats 4000000 in
theorem sp_X8_bottling_k8t {l : Launch} {G : GC} {ad : Nat → Nat} {h : HP} {nL nH nB nC : Nat} {np : Nat → Nat} {pl : Nat → Nat → Nat} {lb : Nat → Nat} (hw : MW h nL nH nB nC np pl lb) {b : Nat} (hbB : b < nB) (e : (decide (fbM h (lb b) nH (mB h b 3) (mB h b 4) (mB h b 5) (mB h b 6) = 0)) = true) : PF l G yX8_bottling (.code yX8_bottling cX8_bottling 3 ((Option.some FieldType.int))) { frames := 5, cells := 0, slots := 0, locals := 118 } [.ref (ad 253), .int (nI b), .int (8)] SW ad (h) (some (.int 1)) (faH h 0) := by
  refine PF.mk (L0 := [some (.ref (ad 253)), some (.int (nI b)), some (.int (8))]) RX8 "bottling" 0 0 (by decide +kernel) rfl rfl ⟨rfl, rfl⟩ (by simp [Value.category]) (Nat.le_of_ble_eq_true rfl) rfl ?_
  have hwf : MW (hput h 253 5 0) nL nH nB nC np pl lb := MW_o hw (hput_ne h 5 0 (by decide))
  have hb1 := hw.1.2
  have hb2 := hw.2.1.2
  have hb3 := hw.2.2.1.2
  have hb4 := hw.2.2.2.1.2
  have hb16 : b < 16 := by omega
  refine pw_aload_n dX8_bottling_0 rfl ?_
  refine pw_iconst dX8_bottling_1 (v := 0) (by decide) ?_
  refine pw_puti dX8_bottling_2 lf_X8_42 lp_8_5 sh_253 rfl rfl rfl ?_
  refine pw_aload_n dX8_bottling_5 rfl ?_
  refine pw_iload_n dX8_bottling_6 rfl ?_
  refine pw_cV dX8_bottling_7 (sp_X8_isBottling) mi_X8_isBottling mv_X8_isBottling ml_X8_172 sh_253 rfl rfl rfl rfl ⟨rfl, rfl⟩ rfl rfl ?_
  refine pw_if_ne dX8_bottling_10 (tgt := 19) (by decide) (fun c10 => ?_) (fun c10 => absurd c10 (b2iT (show wiB (nI b) 0 (h 254 2 - 1) = true from wi_ok hw.2.2.1.1 hbB (by have := hw.2.2.1.2; omega))))
  refine pw_iload_n dX8_bottling_19 rfl ?_
  refine pw_iconst dX8_bottling_20 (v := 0) (by decide) ?_
  refine pw_bipush dX8_bottling_21 (v := 6) (by decide) ?_
  refine pw_cS dX8_bottling_23 (sp_X8_isIn) mi_X8_isIn ms_X8_isIn ml_X8_55 rfl rfl ⟨rfl, rfl⟩ rfl rfl ?_
  refine pw_if_eq dX8_bottling_26 (tgt := 36) (by decide) (fun c26 => ?_) (fun c26 => absurd c26 (fun q => q (b2iF rfl)))
  refine pw_iload_n dX8_bottling_36 rfl ?_
  refine pw_bipush dX8_bottling_37 (v := 7) (by decide) ?_
  refine pw_icmp_ne dX8_bottling_39 (tgt := 50) (by decide) (fun c39 => ?_) (fun c39 => absurd c39 (by decide))
  refine pw_iload_n dX8_bottling_50 rfl ?_
  refine pw_bipush dX8_bottling_51 (v := 8) (by decide) ?_
  refine pw_icmp_ne dX8_bottling_53 (tgt := 72) (by decide) (fun c53 => absurd c53 (fun q => q rfl)) (fun c53 => ?_)
  refine pw_aload_n dX8_bottling_56 rfl ?_
  refine pw_iload_n dX8_bottling_57 rfl ?_
  refine pw_cV dX8_bottling_58 (sp_X8_isAllowedNow hwf hb16) mi_X8_isAllowedNow mv_X8_isAllowedNow ml_X8_178 sh_253 rfl rfl rfl rfl ⟨rfl, rfl⟩ rfl rfl ?_
  refine pw_if_eq dX8_bottling_61 (tgt := 68) (by decide) (fun c61 => absurd c61 (b2iT e)) (fun c61 => ?_)
  refine pw_iconst dX8_bottling_64 (v := 1) (by decide) ?_
  refine pw_goto dX8_bottling_65 (tgt := 77) (by decide) ?_
  exact pw_iretF dX8_bottling_77 rfl rfl rfl rfl rfl

set_option maxRecDepth 100000 in
set_option maxHeartbeats 4000000 in
theorem sp_X8_bottling_k8f {l : Launch} {G : GC} {ad : Nat → Nat} {h : HP} {nL nH nB nC : Nat} {np : Nat → Nat} {pl : Nat → Nat → Nat} {lb : Nat → Nat} (hw : MW h nL nH nB nC np pl lb) {b : Nat} (hbB : b < nB) (e : (decide (fbM h (lb b) nH (mB h b 3) (mB h b 4) (mB h b 5) (mB h b 6) = 0)) = false) : PF l G yX8_bottling (.code yX8_bottling cX8_bottling 3 ((Option.some FieldType.int))) { frames := 5, cells := 0, slots := 0, locals := 118 } [.ref (ad 253), .int (nI b), .int (8)] SW ad (h) (some (.int 0)) (faH h 0) := by
  refine PF.mk (L0 := [some (.ref (ad 253)), some (.int (nI b)), some (.int (8))]) RX8 "bottling" 0 0 (by decide +kernel) rfl rfl ⟨rfl, rfl⟩ (by simp [Value.category]) (Nat.le_of_ble_eq_true rfl) rfl ?_
  have hwf : MW (hput h 253 5 0) nL nH nB nC np pl lb := MW_o hw (hput_ne h 5 0 (by decide))
  have hb1 := hw.1.2
  have hb2 := hw.2.1.2
  have hb3 := hw.2.2.1.2
  have hb4 := hw.2.2.2.1.2
  have hb16 : b < 16 := by omega
  refine pw_aload_n dX8_bottling_0 rfl ?_
  refine pw_iconst dX8_bottling_1 (v := 0) (by decide) ?_
  refine pw_puti dX8_bottling_2 lf_X8_42 lp_8_5 sh_253 rfl rfl rfl ?_
  refine pw_aload_n dX8_bottling_5 rfl ?_
  refine pw_iload_n dX8_bottling_6 rfl ?_
  refine pw_cV dX8_bottling_7 (sp_X8_isBottling) mi_X8_isBottling mv_X8_isBottling ml_X8_172 sh_253 rfl rfl rfl rfl ⟨rfl, rfl⟩ rfl rfl ?_
  refine pw_if_ne dX8_bottling_10 (tgt := 19) (by decide) (fun c10 => ?_) (fun c10 => absurd c10 (b2iT (show wiB (nI b) 0 (h 254 2 - 1) = true from wi_ok hw.2.2.1.1 hbB (by have := hw.2.2.1.2; omega))))
  refine pw_iload_n dX8_bottling_19 rfl ?_
  refine pw_iconst dX8_bottling_20 (v := 0) (by decide) ?_
  refine pw_bipush dX8_bottling_21 (v := 6) (by decide) ?_
  refine pw_cS dX8_bottling_23 (sp_X8_isIn) mi_X8_isIn ms_X8_isIn ml_X8_55 rfl rfl ⟨rfl, rfl⟩ rfl rfl ?_
  refine pw_if_eq dX8_bottling_26 (tgt := 36) (by decide) (fun c26 => ?_) (fun c26 => absurd c26 (fun q => q (b2iF rfl)))
  refine pw_iload_n dX8_bottling_36 rfl ?_
  refine pw_bipush dX8_bottling_37 (v := 7) (by decide) ?_
  refine pw_icmp_ne dX8_bottling_39 (tgt := 50) (by decide) (fun c39 => ?_) (fun c39 => absurd c39 (by decide))
  refine pw_iload_n dX8_bottling_50 rfl ?_
  refine pw_bipush dX8_bottling_51 (v := 8) (by decide) ?_
  refine pw_icmp_ne dX8_bottling_53 (tgt := 72) (by decide) (fun c53 => absurd c53 (fun q => q rfl)) (fun c53 => ?_)
  refine pw_aload_n dX8_bottling_56 rfl ?_
  refine pw_iload_n dX8_bottling_57 rfl ?_
  refine pw_cV dX8_bottling_58 (sp_X8_isAllowedNow hwf hb16) mi_X8_isAllowedNow mv_X8_isAllowedNow ml_X8_178 sh_253 rfl rfl rfl rfl ⟨rfl, rfl⟩ rfl rfl ?_
  refine pw_if_eq dX8_bottling_61 (tgt := 68) (by decide) (fun c61 => ?_) (fun c61 => absurd c61 (fun q => q (b2iF e)))
  refine pw_iconst dX8_bottling_68 (v := 0) (by decide) ?_
  refine pw_goto dX8_bottling_69 (tgt := 77) (by decide) ?_
  exact pw_iretF dX8_bottling_77 rfl rfl rfl rfl rfl

set_option maxRecDepth 100000 in
set_option maxHeartbeats 4000000 in
theorem sp_X8_reason_no {l : Launch} {G : GC} {ad : Nat → Nat} {h : HP} (e : h 253 6 = 0) : PF l G yX8_reason (.code yX8_reason cX8_reason 1 ((Option.some FieldType.int))) { frames := 0, cells := 0, slots := 0, locals := 0 } [.ref (ad 253)] SW ad (h) (some (.int (h 253 6))) (faH h 1) := by
  refine PF.mk (L0 := [some (.ref (ad 253))]) RX8 "reason" 0 0 (by decide +kernel) rfl rfl ⟨rfl, rfl⟩ (by simp [Value.category]) (Nat.le_of_ble_eq_true rfl) rfl ?_
  refine pw_aload_n dX8_reason_0 rfl ?_
  refine pw_aload_n dX8_reason_1 rfl ?_
  refine pw_geti dX8_reason_2 lf_X8_45 sh_253 rfl ?_
  refine pw_if_ne dX8_reason_5 (tgt := 12) (by decide) (fun c5 => absurd c5 (fun q => q e)) (fun c5 => ?_)
  refine pw_iconst dX8_reason_8 (v := 1) (by decide) ?_
  refine pw_goto dX8_reason_9 (tgt := 13) (by decide) ?_
  refine pw_puti dX8_reason_13 lf_X8_42 lp_8_5 sh_253 rfl rfl rfl ?_
  refine pw_aload_n dX8_reason_16 rfl ?_
  refine pw_geti dX8_reason_17 lf_X8_45 sh_253 rfl ?_
  exact pw_iretF dX8_reason_20 rfl rfl rfl rfl rfl

set_option maxRecDepth 100000 in
set_option maxHeartbeats 4000000 in
theorem sp_X8_reason_ok {l : Launch} {G : GC} {ad : Nat → Nat} {h : HP} (e : ¬ h 253 6 = 0) : PF l G yX8_reason (.code yX8_reason cX8_reason 1 ((Option.some FieldType.int))) { frames := 0, cells := 0, slots := 0, locals := 0 } [.ref (ad 253)] SW ad (h) (some (.int (h 253 6))) (faH h 0) := by
  refine PF.mk (L0 := [some (.ref (ad 253))]) RX8 "reason" 0 0 (by decide +kernel) rfl rfl ⟨rfl, rfl⟩ (by simp [Value.category]) (Nat.le_of_ble_eq_true rfl) rfl ?_
  refine pw_aload_n dX8_reason_0 rfl ?_
  refine pw_aload_n dX8_reason_1 rfl ?_
  refine pw_geti dX8_reason_2 lf_X8_45 sh_253 rfl ?_
  refine pw_if_ne dX8_reason_5 (tgt := 12) (by decide) (fun c5 => ?_) (fun c5 => absurd c5 (e))
  refine pw_iconst dX8_reason_12 (v := 0) (by decide) ?_
  refine pw_puti dX8_reason_13 lf_X8_42 lp_8_5 sh_253 rfl rfl rfl ?_
  refine pw_aload_n dX8_reason_16 rfl ?_
  refine pw_geti dX8_reason_17 lf_X8_45 sh_253 rfl ?_
  exact pw_iretF dX8_reason_20 rfl rfl rfl rfl rfl

set_option maxRecDepth 100000 in
set_option maxHeartbeats 4000000 in
theorem sp_X8_addCustomer_no1 {l : Launch} {G : GC} {ad : Nat → Nat} {h : HP} {k : Int32} (e : wiB k 0 2 = false) : PF l G yX8_addCustomer (.code yX8_addCustomer cX8_addCustomer 3 ((Option.some FieldType.int))) { frames := 1, cells := 0, slots := 0, locals := 22 } [.ref (ad 253), .int (k)] SW ad (h) (some (.int 0)) (faH h 1) := by
  refine PF.mk (L0 := [some (.ref (ad 253)), some (.int (k)), none]) RX8 "addCustomer" 0 0 (by decide +kernel) rfl rfl ⟨rfl, rfl⟩ (by simp [Value.category]) (Nat.le_of_ble_eq_true rfl) rfl ?_
  refine pw_aload_n dX8_addCustomer_0 rfl ?_
  refine pw_iload_n dX8_addCustomer_1 rfl ?_
  refine pw_iconst dX8_addCustomer_2 (v := 0) (by decide) ?_
  refine pw_iconst dX8_addCustomer_3 (v := 2) (by decide) ?_
  refine pw_cS dX8_addCustomer_4 (sp_X8_isIn) mi_X8_isIn ms_X8_isIn ml_X8_55 rfl rfl ⟨rfl, rfl⟩ rfl rfl ?_
  refine pw_if_ne dX8_addCustomer_7 (tgt := 14) (by decide) (fun c7 => absurd c7 (fun q => q (b2iF e))) (fun c7 => ?_)
  refine pw_iconst dX8_addCustomer_10 (v := 1) (by decide) ?_
  refine pw_goto dX8_addCustomer_11 (tgt := 30) (by decide) ?_
  refine pw_puti dX8_addCustomer_30 lf_X8_42 lp_8_5 sh_253 rfl rfl rfl ?_
  refine pw_aload_n dX8_addCustomer_33 rfl ?_
  refine pw_geti dX8_addCustomer_34 lf_X8_42 sh_253 rfl ?_
  refine pw_if_eq dX8_addCustomer_37 (tgt := 42) (by decide) (fun c37 => absurd c37 ((show ¬ ((1 : Int32) = 0) from by decide))) (fun c37 => ?_)
  refine pw_iconst dX8_addCustomer_40 (v := 0) (by decide) ?_
  exact pw_iretF dX8_addCustomer_41 rfl rfl rfl rfl rfl

set_option maxRecDepth 100000 in
set_option maxHeartbeats 4000000 in
theorem sp_X8_addCustomer_no2 {l : Launch} {G : GC} {ad : Nat → Nat} {h : HP} {k : Int32} (e : wiB k 0 2 = true) (e2 : h 254 3 = 8) : PF l G yX8_addCustomer (.code yX8_addCustomer cX8_addCustomer 3 ((Option.some FieldType.int))) { frames := 1, cells := 0, slots := 0, locals := 22 } [.ref (ad 253), .int (k)] SW ad (h) (some (.int 0)) (faH h 2) := by
  refine PF.mk (L0 := [some (.ref (ad 253)), some (.int (k)), none]) RX8 "addCustomer" 0 0 (by decide +kernel) rfl rfl ⟨rfl, rfl⟩ (by simp [Value.category]) (Nat.le_of_ble_eq_true rfl) rfl ?_
  refine pw_aload_n dX8_addCustomer_0 rfl ?_
  refine pw_iload_n dX8_addCustomer_1 rfl ?_
  refine pw_iconst dX8_addCustomer_2 (v := 0) (by decide) ?_
  refine pw_iconst dX8_addCustomer_3 (v := 2) (by decide) ?_
  refine pw_cS dX8_addCustomer_4 (sp_X8_isIn) mi_X8_isIn ms_X8_isIn ml_X8_55 rfl rfl ⟨rfl, rfl⟩ rfl rfl ?_
  refine pw_if_ne dX8_addCustomer_7 (tgt := 14) (by decide) (fun c7 => ?_) (fun c7 => absurd c7 (b2iT e))
  refine pw_aload_n dX8_addCustomer_14 rfl ?_
  refine pw_getr dX8_addCustomer_15 lf_X8_9 sh_253 rfl ?_
  refine pw_iconst dX8_addCustomer_18 (v := 3) (by decide) ?_
  refine pw_iaload dX8_addCustomer_19 sh_254 (vpin (n := 3) (N := 1032) (by decide) (by decide)) ?_
  refine pw_bipush dX8_addCustomer_20 (v := 8) (by decide) ?_
  refine pw_icmp_ne dX8_addCustomer_22 (tgt := 29) (by decide) (fun c22 => absurd c22 (fun q => q e2)) (fun c22 => ?_)
  refine pw_iconst dX8_addCustomer_25 (v := 2) (by decide) ?_
  refine pw_goto dX8_addCustomer_26 (tgt := 30) (by decide) ?_
  refine pw_puti dX8_addCustomer_30 lf_X8_42 lp_8_5 sh_253 rfl rfl rfl ?_
  refine pw_aload_n dX8_addCustomer_33 rfl ?_
  refine pw_geti dX8_addCustomer_34 lf_X8_42 sh_253 rfl ?_
  refine pw_if_eq dX8_addCustomer_37 (tgt := 42) (by decide) (fun c37 => absurd c37 ((show ¬ ((2 : Int32) = 0) from by decide))) (fun c37 => ?_)
  refine pw_iconst dX8_addCustomer_40 (v := 0) (by decide) ?_
  exact pw_iretF dX8_addCustomer_41 rfl rfl rfl rfl rfl

set_option maxRecDepth 100000 in
set_option maxHeartbeats 4000000 in
theorem sp_X8_addCustomer_ok {l : Launch} {G : GC} {ad : Nat → Nat} {h : HP} {k : Int32} (e : wiB k 0 2 = true) (e2 : ¬ h 254 3 = 8) {h3 : HP} (hrem : PF l G yX8_remember (.code yX8_remember cX8_remember 2 ((Option.none : Option FieldType))) { frames := 0, cells := 0, slots := 0, locals := 0 } [.ref (ad 253)] SW ad (hput h 253 5 0) (none) (h3)) {nC : Nat} (hC3 : h3 254 3 = nI nC) (hC8 : nC < 8) : PF l G yX8_addCustomer (.code yX8_addCustomer cX8_addCustomer 3 ((Option.some FieldType.int))) { frames := 1, cells := 0, slots := 0, locals := 22 } [.ref (ad 253), .int (k)] SW ad (h) (some (.int (nI nC))) (hput (hput h3 254 (768 + nC) k) 254 3 (nI (nC + 1))) := by
  refine PF.mk (L0 := [some (.ref (ad 253)), some (.int (k)), none]) RX8 "addCustomer" 0 0 (by decide +kernel) rfl rfl ⟨rfl, rfl⟩ (by simp [Value.category]) (Nat.le_of_ble_eq_true rfl) rfl ?_
  have hK3 : hput h3 254 (768 + nC) k 254 3 = nI nC := by
    simp only [hput, if_true]
    rw [if_neg (by omega)]; exact hC3
  refine pw_aload_n dX8_addCustomer_0 rfl ?_
  refine pw_iload_n dX8_addCustomer_1 rfl ?_
  refine pw_iconst dX8_addCustomer_2 (v := 0) (by decide) ?_
  refine pw_iconst dX8_addCustomer_3 (v := 2) (by decide) ?_
  refine pw_cS dX8_addCustomer_4 (sp_X8_isIn) mi_X8_isIn ms_X8_isIn ml_X8_55 rfl rfl ⟨rfl, rfl⟩ rfl rfl ?_
  refine pw_if_ne dX8_addCustomer_7 (tgt := 14) (by decide) (fun c7 => ?_) (fun c7 => absurd c7 (b2iT e))
  refine pw_aload_n dX8_addCustomer_14 rfl ?_
  refine pw_getr dX8_addCustomer_15 lf_X8_9 sh_253 rfl ?_
  refine pw_iconst dX8_addCustomer_18 (v := 3) (by decide) ?_
  refine pw_iaload dX8_addCustomer_19 sh_254 (vpin (n := 3) (N := 1032) (by decide) (by decide)) ?_
  refine pw_bipush dX8_addCustomer_20 (v := 8) (by decide) ?_
  refine pw_icmp_ne dX8_addCustomer_22 (tgt := 29) (by decide) (fun c22 => ?_) (fun c22 => absurd c22 (e2))
  refine pw_iconst dX8_addCustomer_29 (v := 0) (by decide) ?_
  refine pw_puti dX8_addCustomer_30 lf_X8_42 lp_8_5 sh_253 rfl rfl rfl ?_
  refine pw_aload_n dX8_addCustomer_33 rfl ?_
  refine pw_geti dX8_addCustomer_34 lf_X8_42 sh_253 rfl ?_
  refine pw_if_eq dX8_addCustomer_37 (tgt := 42) (by decide) (fun c37 => ?_) (fun c37 => absurd c37 (fun q => q rfl))
  refine pw_aload_n dX8_addCustomer_42 rfl ?_
  refine pw_cVn dX8_addCustomer_43 (hrem) mi_X8_remember mv_X8_remember ml_X8_63 sh_253 rfl rfl rfl rfl ⟨rfl, rfl⟩ rfl rfl ?_
  refine pw_aload_n dX8_addCustomer_46 rfl ?_
  refine pw_getr dX8_addCustomer_47 lf_X8_9 sh_253 rfl ?_
  refine pw_iconst dX8_addCustomer_50 (v := 3) (by decide) ?_
  refine pw_iaload dX8_addCustomer_51 sh_254 (vpin (n := 3) (N := 1032) (by decide) (by decide)) ?_
  rw [show h3 254 (Int32.toNatClampNeg 3) = nI nC from hC3]
  refine pw_istore_n dX8_addCustomer_52 (by decide) rfl ?_
  refine pw_aload_n dX8_addCustomer_53 rfl ?_
  refine pw_getr dX8_addCustomer_54 lf_X8_9 sh_253 rfl ?_
  refine pw_sipush dX8_addCustomer_57 (v := 768) (by decide) ?_
  refine pw_iload_n dX8_addCustomer_60 rfl ?_
  refine pw_iadd dX8_addCustomer_61 ?_
  rw [show (768 : Int32) + nI nC = nI (768 + nC) from nI_add 768 nC]
  refine pw_iload_n dX8_addCustomer_62 rfl ?_
  refine pw_iastore dX8_addCustomer_63 sh_254 (vpin (by omega) (by decide)) ?_
  rw [nI_cl (show 768 + nC < 2147483648 by omega)]
  refine pw_aload_n dX8_addCustomer_64 rfl ?_
  refine pw_getr dX8_addCustomer_65 lf_X8_9 sh_253 rfl ?_
  refine pw_iconst dX8_addCustomer_68 (v := 3) (by decide) ?_
  refine pw_dup2 dX8_addCustomer_69 rfl rfl ?_
  refine pw_iaload dX8_addCustomer_70 sh_254 (vpin (n := 3) (N := 1032) (by decide) (by decide)) ?_
  rw [show hput h3 254 (768 + nC) k 254 (Int32.toNatClampNeg 3) = nI nC from hK3]
  refine pw_iconst dX8_addCustomer_71 (v := 1) (by decide) ?_
  refine pw_iadd dX8_addCustomer_72 ?_
  rw [nI_1]
  refine pw_iastore dX8_addCustomer_73 sh_254 (vpin (n := 3) (N := 1032) (by decide) (by decide)) ?_
  refine pw_iload_n dX8_addCustomer_74 rfl ?_
  exact pw_iretF dX8_addCustomer_75 rfl rfl rfl rfl rfl

set_option maxRecDepth 100000 in
set_option maxHeartbeats 4000000 in
theorem sp_X8_wish_no1 {l : Launch} {G : GC} {ad : Nat → Nat} {h : HP} {n m : Int32} {q : Int32} (e : wiB n 0 (h 254 3 - 1) = false) : PF l G yX8_wish (.code yX8_wish cX8_wish 5 ((Option.some FieldType.int))) { frames := 2, cells := 0, slots := 0, locals := 43 } [.ref (ad 253), .int (n), .int (m), .int (q)] SW ad (h) (some (.int 0)) (faH (faH h 0) 1) := by
  refine PF.mk (L0 := [some (.ref (ad 253)), some (.int (n)), some (.int (m)), some (.int (q)), none]) RX8 "wish" 0 0 (by decide +kernel) rfl rfl ⟨rfl, rfl⟩ (by simp [Value.category]) (Nat.le_of_ble_eq_true rfl) rfl ?_
  refine pw_aload_n dX8_wish_0 rfl ?_
  refine pw_iconst dX8_wish_1 (v := 0) (by decide) ?_
  refine pw_puti dX8_wish_2 lf_X8_42 lp_8_5 sh_253 rfl rfl rfl ?_
  refine pw_aload_n dX8_wish_5 rfl ?_
  refine pw_iload_n dX8_wish_6 rfl ?_
  refine pw_cV dX8_wish_7 (sp_X8_isCustomer) mi_X8_isCustomer mv_X8_isCustomer ml_X8_196 sh_253 rfl rfl rfl rfl ⟨rfl, rfl⟩ rfl rfl ?_
  refine pw_if_eq dX8_wish_10 (tgt := 21) (by decide) (fun c10 => ?_) (fun c10 => absurd c10 (fun q => q (b2iF e)))
  refine pw_aload_n dX8_wish_21 rfl ?_
  refine pw_iconst dX8_wish_22 (v := 1) (by decide) ?_
  refine pw_cV dX8_wish_23 (sp_X8_fail) mi_X8_fail mv_X8_fail ml_X8_48 sh_253 rfl rfl rfl rfl ⟨rfl, rfl⟩ rfl rfl ?_
  exact pw_iretF dX8_wish_26 rfl rfl rfl rfl rfl

set_option maxRecDepth 100000 in
set_option maxHeartbeats 4000000 in
theorem sp_X8_wish_no2 {l : Launch} {G : GC} {ad : Nat → Nat} {h : HP} {n m : Int32} {q : Int32} (e : wiB n 0 (h 254 3 - 1) = true) (e2 : wiB m 0 (h 254 2 - 1) = false) : PF l G yX8_wish (.code yX8_wish cX8_wish 5 ((Option.some FieldType.int))) { frames := 2, cells := 0, slots := 0, locals := 43 } [.ref (ad 253), .int (n), .int (m), .int (q)] SW ad (h) (some (.int 0)) (faH (faH h 0) 1) := by
  refine PF.mk (L0 := [some (.ref (ad 253)), some (.int (n)), some (.int (m)), some (.int (q)), none]) RX8 "wish" 0 0 (by decide +kernel) rfl rfl ⟨rfl, rfl⟩ (by simp [Value.category]) (Nat.le_of_ble_eq_true rfl) rfl ?_
  refine pw_aload_n dX8_wish_0 rfl ?_
  refine pw_iconst dX8_wish_1 (v := 0) (by decide) ?_
  refine pw_puti dX8_wish_2 lf_X8_42 lp_8_5 sh_253 rfl rfl rfl ?_
  refine pw_aload_n dX8_wish_5 rfl ?_
  refine pw_iload_n dX8_wish_6 rfl ?_
  refine pw_cV dX8_wish_7 (sp_X8_isCustomer) mi_X8_isCustomer mv_X8_isCustomer ml_X8_196 sh_253 rfl rfl rfl rfl ⟨rfl, rfl⟩ rfl rfl ?_
  refine pw_if_eq dX8_wish_10 (tgt := 21) (by decide) (fun c10 => absurd c10 (b2iT e)) (fun c10 => ?_)
  refine pw_aload_n dX8_wish_13 rfl ?_
  refine pw_iload_n dX8_wish_14 rfl ?_
  refine pw_cV dX8_wish_15 (sp_X8_isBottling) mi_X8_isBottling mv_X8_isBottling ml_X8_172 sh_253 rfl rfl rfl rfl ⟨rfl, rfl⟩ rfl rfl ?_
  refine pw_if_ne dX8_wish_18 (tgt := 27) (by decide) (fun c18 => absurd c18 (fun q => q (b2iF e2))) (fun c18 => ?_)
  refine pw_aload_n dX8_wish_21 rfl ?_
  refine pw_iconst dX8_wish_22 (v := 1) (by decide) ?_
  refine pw_cV dX8_wish_23 (sp_X8_fail) mi_X8_fail mv_X8_fail ml_X8_48 sh_253 rfl rfl rfl rfl ⟨rfl, rfl⟩ rfl rfl ?_
  exact pw_iretF dX8_wish_26 rfl rfl rfl rfl rfl

set_option maxRecDepth 100000 in
set_option maxHeartbeats 4000000 in
theorem sp_X8_wish_no3 {l : Launch} {G : GC} {ad : Nat → Nat} {h : HP} {nL nH nB nC : Nat} {np : Nat → Nat} {pl : Nat → Nat → Nat} {lb : Nat → Nat} (hw : MW h nL nH nB nC np pl lb) {c b : Nat} (hcC : c < nC) (hbB : b < nB) {q : Int32} (e : wiB q 0 3333 = false) : PF l G yX8_wish (.code yX8_wish cX8_wish 5 ((Option.some FieldType.int))) { frames := 2, cells := 0, slots := 0, locals := 43 } [.ref (ad 253), .int (nI c), .int (nI b), .int (q)] SW ad (h) (some (.int 0)) (faH (faH h 0) 2) := by
  refine PF.mk (L0 := [some (.ref (ad 253)), some (.int (nI c)), some (.int (nI b)), some (.int (q)), none]) RX8 "wish" 0 0 (by decide +kernel) rfl rfl ⟨rfl, rfl⟩ (by simp [Value.category]) (Nat.le_of_ble_eq_true rfl) rfl ?_
  have hwf : MW (hput h 253 5 0) nL nH nB nC np pl lb := MW_o hw (hput_ne h 5 0 (by decide))
  have hb1 := hw.1.2
  have hb2 := hw.2.1.2
  have hb3 := hw.2.2.1.2
  have hb4 := hw.2.2.2.1.2
  have hb16 : b < 16 := by omega
  have hc8 : c < 8 := by omega
  refine pw_aload_n dX8_wish_0 rfl ?_
  refine pw_iconst dX8_wish_1 (v := 0) (by decide) ?_
  refine pw_puti dX8_wish_2 lf_X8_42 lp_8_5 sh_253 rfl rfl rfl ?_
  refine pw_aload_n dX8_wish_5 rfl ?_
  refine pw_iload_n dX8_wish_6 rfl ?_
  refine pw_cV dX8_wish_7 (sp_X8_isCustomer) mi_X8_isCustomer mv_X8_isCustomer ml_X8_196 sh_253 rfl rfl rfl rfl ⟨rfl, rfl⟩ rfl rfl ?_
  refine pw_if_eq dX8_wish_10 (tgt := 21) (by decide) (fun c10 => absurd c10 (b2iT (show wiB (nI c) 0 (h 254 3 - 1) = true from wi_ok hw.2.2.2.1.1 hcC (by have := hw.2.2.2.1.2; omega)))) (fun c10 => ?_)
  refine pw_aload_n dX8_wish_13 rfl ?_
  refine pw_iload_n dX8_wish_14 rfl ?_
  refine pw_cV dX8_wish_15 (sp_X8_isBottling) mi_X8_isBottling mv_X8_isBottling ml_X8_172 sh_253 rfl rfl rfl rfl ⟨rfl, rfl⟩ rfl rfl ?_
  refine pw_if_ne dX8_wish_18 (tgt := 27) (by decide) (fun c18 => ?_) (fun c18 => absurd c18 (b2iT (show wiB (nI b) 0 (h 254 2 - 1) = true from wi_ok hw.2.2.1.1 hbB (by have := hw.2.2.1.2; omega))))
  refine pw_iload_n dX8_wish_27 rfl ?_
  refine pw_iconst dX8_wish_28 (v := 0) (by decide) ?_
  refine pw_sipush dX8_wish_29 (v := 3333) (by decide) ?_
  refine pw_cS dX8_wish_32 (sp_X8_isIn) mi_X8_isIn ms_X8_isIn ml_X8_55 rfl rfl ⟨rfl, rfl⟩ rfl rfl ?_
  refine pw_if_ne dX8_wish_35 (tgt := 44) (by decide) (fun c35 => absurd c35 (fun q => q (b2iF e))) (fun c35 => ?_)
  refine pw_aload_n dX8_wish_38 rfl ?_
  refine pw_iconst dX8_wish_39 (v := 2) (by decide) ?_
  refine pw_cV dX8_wish_40 (sp_X8_fail) mi_X8_fail mv_X8_fail ml_X8_48 sh_253 rfl rfl rfl rfl ⟨rfl, rfl⟩ rfl rfl ?_
  exact pw_iretF dX8_wish_43 rfl rfl rfl rfl rfl

set_option maxRecDepth 100000 in
set_option maxHeartbeats 4000000 in
theorem sp_X8_wish_ok {l : Launch} {G : GC} {ad : Nat → Nat} {h : HP} {nL nH nB nC : Nat} {np : Nat → Nat} {pl : Nat → Nat → Nat} {lb : Nat → Nat} (hw : MW h nL nH nB nC np pl lb) {c b : Nat} (hcC : c < nC) (hbB : b < nB) {q : Int32} (e : wiB q 0 3333 = true) {h3 : HP} (hrem : PF l G yX8_remember (.code yX8_remember cX8_remember 2 ((Option.none : Option FieldType))) { frames := 0, cells := 0, slots := 0, locals := 0 } [.ref (ad 253)] SW ad (hput h 253 5 0) (none) (h3)) : PF l G yX8_wish (.code yX8_wish cX8_wish 5 ((Option.some FieldType.int))) { frames := 2, cells := 0, slots := 0, locals := 43 } [.ref (ad 253), .int (nI c), .int (nI b), .int (q)] SW ad (h) (some (.int (mWi h c b))) (hput h3 254 (904 + 16 * c + b) q) := by
  refine PF.mk (L0 := [some (.ref (ad 253)), some (.int (nI c)), some (.int (nI b)), some (.int (q)), none]) RX8 "wish" 0 0 (by decide +kernel) rfl rfl ⟨rfl, rfl⟩ (by simp [Value.category]) (Nat.le_of_ble_eq_true rfl) rfl ?_
  have hwf : MW (hput h 253 5 0) nL nH nB nC np pl lb := MW_o hw (hput_ne h 5 0 (by decide))
  have hb1 := hw.1.2
  have hb2 := hw.2.1.2
  have hb3 := hw.2.2.1.2
  have hb4 := hw.2.2.2.1.2
  have hb16 : b < 16 := by omega
  have hc8 : c < 8 := by omega
  refine pw_aload_n dX8_wish_0 rfl ?_
  refine pw_iconst dX8_wish_1 (v := 0) (by decide) ?_
  refine pw_puti dX8_wish_2 lf_X8_42 lp_8_5 sh_253 rfl rfl rfl ?_
  refine pw_aload_n dX8_wish_5 rfl ?_
  refine pw_iload_n dX8_wish_6 rfl ?_
  refine pw_cV dX8_wish_7 (sp_X8_isCustomer) mi_X8_isCustomer mv_X8_isCustomer ml_X8_196 sh_253 rfl rfl rfl rfl ⟨rfl, rfl⟩ rfl rfl ?_
  refine pw_if_eq dX8_wish_10 (tgt := 21) (by decide) (fun c10 => absurd c10 (b2iT (show wiB (nI c) 0 (h 254 3 - 1) = true from wi_ok hw.2.2.2.1.1 hcC (by have := hw.2.2.2.1.2; omega)))) (fun c10 => ?_)
  refine pw_aload_n dX8_wish_13 rfl ?_
  refine pw_iload_n dX8_wish_14 rfl ?_
  refine pw_cV dX8_wish_15 (sp_X8_isBottling) mi_X8_isBottling mv_X8_isBottling ml_X8_172 sh_253 rfl rfl rfl rfl ⟨rfl, rfl⟩ rfl rfl ?_
  refine pw_if_ne dX8_wish_18 (tgt := 27) (by decide) (fun c18 => ?_) (fun c18 => absurd c18 (b2iT (show wiB (nI b) 0 (h 254 2 - 1) = true from wi_ok hw.2.2.1.1 hbB (by have := hw.2.2.1.2; omega))))
  refine pw_iload_n dX8_wish_27 rfl ?_
  refine pw_iconst dX8_wish_28 (v := 0) (by decide) ?_
  refine pw_sipush dX8_wish_29 (v := 3333) (by decide) ?_
  refine pw_cS dX8_wish_32 (sp_X8_isIn) mi_X8_isIn ms_X8_isIn ml_X8_55 rfl rfl ⟨rfl, rfl⟩ rfl rfl ?_
  refine pw_if_ne dX8_wish_35 (tgt := 44) (by decide) (fun c35 => ?_) (fun c35 => absurd c35 (b2iT e))
  refine pw_aload_n dX8_wish_44 rfl ?_
  refine pw_iload_n dX8_wish_45 rfl ?_
  refine pw_iload_n dX8_wish_46 rfl ?_
  refine pw_cV dX8_wish_47 (sp_X8_wished (c := c) (b := b) (by omega)) mi_X8_wished mv_X8_wished ml_X8_184 sh_253 rfl rfl rfl rfl ⟨rfl, rfl⟩ rfl rfl ?_
  refine pw_istore dX8_wish_50 (by decide) rfl ?_
  refine pw_aload_n dX8_wish_52 rfl ?_
  refine pw_cVn dX8_wish_53 (hrem) mi_X8_remember mv_X8_remember ml_X8_63 sh_253 rfl rfl rfl rfl ⟨rfl, rfl⟩ rfl rfl ?_
  refine pw_aload_n dX8_wish_56 rfl ?_
  refine pw_getr dX8_wish_57 lf_X8_9 sh_253 rfl ?_
  refine pw_sipush dX8_wish_60 (v := 904) (by decide) ?_
  refine pw_bipush dX8_wish_63 (v := 16) (by decide) ?_
  refine pw_iload_n dX8_wish_65 rfl ?_
  refine pw_imul dX8_wish_66 ?_
  refine pw_iadd dX8_wish_67 ?_
  refine pw_iload_n dX8_wish_68 rfl ?_
  refine pw_iadd dX8_wish_69 ?_
  refine pw_iload_n dX8_wish_70 rfl ?_
  rw [show (904 : Int32) + 16 * nI c + nI b = nI (904 + 16 * c + b) from ixM 904 16 c b]
  refine pw_iastore dX8_wish_71 sh_254 (vpin (by omega) (by decide)) ?_
  rw [nI_cl (show 904 + 16 * c + b < 2147483648 by omega)]
  refine pw_iload dX8_wish_72 rfl ?_
  exact pw_iretF dX8_wish_74 rfl rfl rfl rfl rfl

set_option maxRecDepth 100000 in
set_option maxHeartbeats 4000000 in
theorem sp_X8_giveBack_no1 {l : Launch} {G : GC} {ad : Nat → Nat} {h : HP} {n m : Int32} {q : Int32} (e : wiB n 0 (h 254 3 - 1) = false) : PF l G yX8_giveBack (.code yX8_giveBack cX8_giveBack 5 ((Option.some FieldType.int))) { frames := 2, cells := 0, slots := 0, locals := 43 } [.ref (ad 253), .int (n), .int (m), .int (q)] SW ad (h) (some (.int 0)) (faH (faH h 0) 1) := by
  refine PF.mk (L0 := [some (.ref (ad 253)), some (.int (n)), some (.int (m)), some (.int (q)), none]) RX8 "giveBack" 0 0 (by decide +kernel) rfl rfl ⟨rfl, rfl⟩ (by simp [Value.category]) (Nat.le_of_ble_eq_true rfl) rfl ?_
  refine pw_aload_n dX8_giveBack_0 rfl ?_
  refine pw_iconst dX8_giveBack_1 (v := 0) (by decide) ?_
  refine pw_puti dX8_giveBack_2 lf_X8_42 lp_8_5 sh_253 rfl rfl rfl ?_
  refine pw_aload_n dX8_giveBack_5 rfl ?_
  refine pw_iload_n dX8_giveBack_6 rfl ?_
  refine pw_cV dX8_giveBack_7 (sp_X8_isCustomer) mi_X8_isCustomer mv_X8_isCustomer ml_X8_196 sh_253 rfl rfl rfl rfl ⟨rfl, rfl⟩ rfl rfl ?_
  refine pw_if_eq dX8_giveBack_10 (tgt := 21) (by decide) (fun c10 => ?_) (fun c10 => absurd c10 (fun q => q (b2iF e)))
  refine pw_aload_n dX8_giveBack_21 rfl ?_
  refine pw_iconst dX8_giveBack_22 (v := 1) (by decide) ?_
  refine pw_cV dX8_giveBack_23 (sp_X8_fail) mi_X8_fail mv_X8_fail ml_X8_48 sh_253 rfl rfl rfl rfl ⟨rfl, rfl⟩ rfl rfl ?_
  exact pw_iretF dX8_giveBack_26 rfl rfl rfl rfl rfl

set_option maxRecDepth 100000 in
set_option maxHeartbeats 4000000 in
theorem sp_X8_giveBack_no2 {l : Launch} {G : GC} {ad : Nat → Nat} {h : HP} {n m : Int32} {q : Int32} (e : wiB n 0 (h 254 3 - 1) = true) (e2 : wiB m 0 (h 254 2 - 1) = false) : PF l G yX8_giveBack (.code yX8_giveBack cX8_giveBack 5 ((Option.some FieldType.int))) { frames := 2, cells := 0, slots := 0, locals := 43 } [.ref (ad 253), .int (n), .int (m), .int (q)] SW ad (h) (some (.int 0)) (faH (faH h 0) 1) := by
  refine PF.mk (L0 := [some (.ref (ad 253)), some (.int (n)), some (.int (m)), some (.int (q)), none]) RX8 "giveBack" 0 0 (by decide +kernel) rfl rfl ⟨rfl, rfl⟩ (by simp [Value.category]) (Nat.le_of_ble_eq_true rfl) rfl ?_
  refine pw_aload_n dX8_giveBack_0 rfl ?_
  refine pw_iconst dX8_giveBack_1 (v := 0) (by decide) ?_
  refine pw_puti dX8_giveBack_2 lf_X8_42 lp_8_5 sh_253 rfl rfl rfl ?_
  refine pw_aload_n dX8_giveBack_5 rfl ?_
  refine pw_iload_n dX8_giveBack_6 rfl ?_
  refine pw_cV dX8_giveBack_7 (sp_X8_isCustomer) mi_X8_isCustomer mv_X8_isCustomer ml_X8_196 sh_253 rfl rfl rfl rfl ⟨rfl, rfl⟩ rfl rfl ?_
  refine pw_if_eq dX8_giveBack_10 (tgt := 21) (by decide) (fun c10 => absurd c10 (b2iT e)) (fun c10 => ?_)
  refine pw_aload_n dX8_giveBack_13 rfl ?_
  refine pw_iload_n dX8_giveBack_14 rfl ?_
  refine pw_cV dX8_giveBack_15 (sp_X8_isBottling) mi_X8_isBottling mv_X8_isBottling ml_X8_172 sh_253 rfl rfl rfl rfl ⟨rfl, rfl⟩ rfl rfl ?_
  refine pw_if_ne dX8_giveBack_18 (tgt := 27) (by decide) (fun c18 => absurd c18 (fun q => q (b2iF e2))) (fun c18 => ?_)
  refine pw_aload_n dX8_giveBack_21 rfl ?_
  refine pw_iconst dX8_giveBack_22 (v := 1) (by decide) ?_
  refine pw_cV dX8_giveBack_23 (sp_X8_fail) mi_X8_fail mv_X8_fail ml_X8_48 sh_253 rfl rfl rfl rfl ⟨rfl, rfl⟩ rfl rfl ?_
  exact pw_iretF dX8_giveBack_26 rfl rfl rfl rfl rfl

set_option maxRecDepth 100000 in
set_option maxHeartbeats 4000000 in
theorem sp_X8_giveBack_no3 {l : Launch} {G : GC} {ad : Nat → Nat} {h : HP} {nL nH nB nC : Nat} {np : Nat → Nat} {pl : Nat → Nat → Nat} {lb : Nat → Nat} (hw : MW h nL nH nB nC np pl lb) {c b : Nat} (hcC : c < nC) (hbB : b < nB) {q : Int32} (e : wiB q 1 3333 = false) : PF l G yX8_giveBack (.code yX8_giveBack cX8_giveBack 5 ((Option.some FieldType.int))) { frames := 2, cells := 0, slots := 0, locals := 43 } [.ref (ad 253), .int (nI c), .int (nI b), .int (q)] SW ad (h) (some (.int 0)) (faH (faH h 0) 2) := by
  refine PF.mk (L0 := [some (.ref (ad 253)), some (.int (nI c)), some (.int (nI b)), some (.int (q)), none]) RX8 "giveBack" 0 0 (by decide +kernel) rfl rfl ⟨rfl, rfl⟩ (by simp [Value.category]) (Nat.le_of_ble_eq_true rfl) rfl ?_
  have hwf : MW (hput h 253 5 0) nL nH nB nC np pl lb := MW_o hw (hput_ne h 5 0 (by decide))
  have hb1 := hw.1.2
  have hb2 := hw.2.1.2
  have hb3 := hw.2.2.1.2
  have hb4 := hw.2.2.2.1.2
  have hb16 : b < 16 := by omega
  have hc8 : c < 8 := by omega
  refine pw_aload_n dX8_giveBack_0 rfl ?_
  refine pw_iconst dX8_giveBack_1 (v := 0) (by decide) ?_
  refine pw_puti dX8_giveBack_2 lf_X8_42 lp_8_5 sh_253 rfl rfl rfl ?_
  refine pw_aload_n dX8_giveBack_5 rfl ?_
  refine pw_iload_n dX8_giveBack_6 rfl ?_
  refine pw_cV dX8_giveBack_7 (sp_X8_isCustomer) mi_X8_isCustomer mv_X8_isCustomer ml_X8_196 sh_253 rfl rfl rfl rfl ⟨rfl, rfl⟩ rfl rfl ?_
  refine pw_if_eq dX8_giveBack_10 (tgt := 21) (by decide) (fun c10 => absurd c10 (b2iT (show wiB (nI c) 0 (h 254 3 - 1) = true from wi_ok hw.2.2.2.1.1 hcC (by have := hw.2.2.2.1.2; omega)))) (fun c10 => ?_)
  refine pw_aload_n dX8_giveBack_13 rfl ?_
  refine pw_iload_n dX8_giveBack_14 rfl ?_
  refine pw_cV dX8_giveBack_15 (sp_X8_isBottling) mi_X8_isBottling mv_X8_isBottling ml_X8_172 sh_253 rfl rfl rfl rfl ⟨rfl, rfl⟩ rfl rfl ?_
  refine pw_if_ne dX8_giveBack_18 (tgt := 27) (by decide) (fun c18 => ?_) (fun c18 => absurd c18 (b2iT (show wiB (nI b) 0 (h 254 2 - 1) = true from wi_ok hw.2.2.1.1 hbB (by have := hw.2.2.1.2; omega))))
  refine pw_iload_n dX8_giveBack_27 rfl ?_
  refine pw_iconst dX8_giveBack_28 (v := 1) (by decide) ?_
  refine pw_sipush dX8_giveBack_29 (v := 3333) (by decide) ?_
  refine pw_cS dX8_giveBack_32 (sp_X8_isIn) mi_X8_isIn ms_X8_isIn ml_X8_55 rfl rfl ⟨rfl, rfl⟩ rfl rfl ?_
  refine pw_if_eq dX8_giveBack_35 (tgt := 48) (by decide) (fun c35 => ?_) (fun c35 => absurd c35 (fun q => q (b2iF e)))
  refine pw_aload_n dX8_giveBack_48 rfl ?_
  refine pw_iconst dX8_giveBack_49 (v := 2) (by decide) ?_
  refine pw_cV dX8_giveBack_50 (sp_X8_fail) mi_X8_fail mv_X8_fail ml_X8_48 sh_253 rfl rfl rfl rfl ⟨rfl, rfl⟩ rfl rfl ?_
  exact pw_iretF dX8_giveBack_53 rfl rfl rfl rfl rfl

set_option maxRecDepth 100000 in
set_option maxHeartbeats 4000000 in
theorem sp_X8_giveBack_no4 {l : Launch} {G : GC} {ad : Nat → Nat} {h : HP} {nL nH nB nC : Nat} {np : Nat → Nat} {pl : Nat → Nat → Nat} {lb : Nat → Nat} (hw : MW h nL nH nB nC np pl lb) {c b : Nat} (hcC : c < nC) (hbB : b < nB) {q : Int32} (e : wiB q 1 3333 = true) (e2 : ¬ q ≤ mHd h c b) : PF l G yX8_giveBack (.code yX8_giveBack cX8_giveBack 5 ((Option.some FieldType.int))) { frames := 2, cells := 0, slots := 0, locals := 43 } [.ref (ad 253), .int (nI c), .int (nI b), .int (q)] SW ad (h) (some (.int 0)) (faH (faH h 0) 2) := by
  refine PF.mk (L0 := [some (.ref (ad 253)), some (.int (nI c)), some (.int (nI b)), some (.int (q)), none]) RX8 "giveBack" 0 0 (by decide +kernel) rfl rfl ⟨rfl, rfl⟩ (by simp [Value.category]) (Nat.le_of_ble_eq_true rfl) rfl ?_
  have hwf : MW (hput h 253 5 0) nL nH nB nC np pl lb := MW_o hw (hput_ne h 5 0 (by decide))
  have hb1 := hw.1.2
  have hb2 := hw.2.1.2
  have hb3 := hw.2.2.1.2
  have hb4 := hw.2.2.2.1.2
  have hb16 : b < 16 := by omega
  have hc8 : c < 8 := by omega
  refine pw_aload_n dX8_giveBack_0 rfl ?_
  refine pw_iconst dX8_giveBack_1 (v := 0) (by decide) ?_
  refine pw_puti dX8_giveBack_2 lf_X8_42 lp_8_5 sh_253 rfl rfl rfl ?_
  refine pw_aload_n dX8_giveBack_5 rfl ?_
  refine pw_iload_n dX8_giveBack_6 rfl ?_
  refine pw_cV dX8_giveBack_7 (sp_X8_isCustomer) mi_X8_isCustomer mv_X8_isCustomer ml_X8_196 sh_253 rfl rfl rfl rfl ⟨rfl, rfl⟩ rfl rfl ?_
  refine pw_if_eq dX8_giveBack_10 (tgt := 21) (by decide) (fun c10 => absurd c10 (b2iT (show wiB (nI c) 0 (h 254 3 - 1) = true from wi_ok hw.2.2.2.1.1 hcC (by have := hw.2.2.2.1.2; omega)))) (fun c10 => ?_)
  refine pw_aload_n dX8_giveBack_13 rfl ?_
  refine pw_iload_n dX8_giveBack_14 rfl ?_
  refine pw_cV dX8_giveBack_15 (sp_X8_isBottling) mi_X8_isBottling mv_X8_isBottling ml_X8_172 sh_253 rfl rfl rfl rfl ⟨rfl, rfl⟩ rfl rfl ?_
  refine pw_if_ne dX8_giveBack_18 (tgt := 27) (by decide) (fun c18 => ?_) (fun c18 => absurd c18 (b2iT (show wiB (nI b) 0 (h 254 2 - 1) = true from wi_ok hw.2.2.1.1 hbB (by have := hw.2.2.1.2; omega))))
  refine pw_iload_n dX8_giveBack_27 rfl ?_
  refine pw_iconst dX8_giveBack_28 (v := 1) (by decide) ?_
  refine pw_sipush dX8_giveBack_29 (v := 3333) (by decide) ?_
  refine pw_cS dX8_giveBack_32 (sp_X8_isIn) mi_X8_isIn ms_X8_isIn ml_X8_55 rfl rfl ⟨rfl, rfl⟩ rfl rfl ?_
  refine pw_if_eq dX8_giveBack_35 (tgt := 48) (by decide) (fun c35 => absurd c35 (b2iT e)) (fun c35 => ?_)
  refine pw_iload_n dX8_giveBack_38 rfl ?_
  refine pw_aload_n dX8_giveBack_39 rfl ?_
  refine pw_iload_n dX8_giveBack_40 rfl ?_
  refine pw_iload_n dX8_giveBack_41 rfl ?_
  refine pw_cV dX8_giveBack_42 (sp_X8_held (c := c) (b := b) (by omega)) mi_X8_held mv_X8_held ml_X8_181 sh_253 rfl rfl rfl rfl ⟨rfl, rfl⟩ rfl rfl ?_
  refine pw_icmp_le dX8_giveBack_45 (tgt := 54) (by decide) (fun c45 => absurd c45 (e2)) (fun c45 => ?_)
  refine pw_aload_n dX8_giveBack_48 rfl ?_
  refine pw_iconst dX8_giveBack_49 (v := 2) (by decide) ?_
  refine pw_cV dX8_giveBack_50 (sp_X8_fail) mi_X8_fail mv_X8_fail ml_X8_48 sh_253 rfl rfl rfl rfl ⟨rfl, rfl⟩ rfl rfl ?_
  exact pw_iretF dX8_giveBack_53 rfl rfl rfl rfl rfl

set_option maxRecDepth 100000 in
set_option maxHeartbeats 4000000 in
theorem sp_X8_giveBack_ok {l : Launch} {G : GC} {ad : Nat → Nat} {h : HP} {nL nH nB nC : Nat} {np : Nat → Nat} {pl : Nat → Nat → Nat} {lb : Nat → Nat} (hw : MW h nL nH nB nC np pl lb) {c b : Nat} (hcC : c < nC) (hbB : b < nB) {q : Int32} (e : wiB q 1 3333 = true) (e2 : q ≤ mHd h c b) {h3 : HP} (hrem : PF l G yX8_remember (.code yX8_remember cX8_remember 2 ((Option.none : Option FieldType))) { frames := 0, cells := 0, slots := 0, locals := 0 } [.ref (ad 253)] SW ad (hput h 253 5 0) (none) (h3)) : PF l G yX8_giveBack (.code yX8_giveBack cX8_giveBack 5 ((Option.some FieldType.int))) { frames := 2, cells := 0, slots := 0, locals := 43 } [.ref (ad 253), .int (nI c), .int (nI b), .int (q)] SW ad (h) (some (.int (mHd h3 c b - q))) (gbM h3 c b q) := by
  refine PF.mk (L0 := [some (.ref (ad 253)), some (.int (nI c)), some (.int (nI b)), some (.int (q)), none]) RX8 "giveBack" 0 0 (by decide +kernel) rfl rfl ⟨rfl, rfl⟩ (by simp [Value.category]) (Nat.le_of_ble_eq_true rfl) rfl ?_
  have hwf : MW (hput h 253 5 0) nL nH nB nC np pl lb := MW_o hw (hput_ne h 5 0 (by decide))
  have hb1 := hw.1.2
  have hb2 := hw.2.1.2
  have hb3 := hw.2.2.1.2
  have hb4 := hw.2.2.2.1.2
  have hb16 : b < 16 := by omega
  have hc8 : c < 8 := by omega
  refine pw_aload_n dX8_giveBack_0 rfl ?_
  refine pw_iconst dX8_giveBack_1 (v := 0) (by decide) ?_
  refine pw_puti dX8_giveBack_2 lf_X8_42 lp_8_5 sh_253 rfl rfl rfl ?_
  refine pw_aload_n dX8_giveBack_5 rfl ?_
  refine pw_iload_n dX8_giveBack_6 rfl ?_
  refine pw_cV dX8_giveBack_7 (sp_X8_isCustomer) mi_X8_isCustomer mv_X8_isCustomer ml_X8_196 sh_253 rfl rfl rfl rfl ⟨rfl, rfl⟩ rfl rfl ?_
  refine pw_if_eq dX8_giveBack_10 (tgt := 21) (by decide) (fun c10 => absurd c10 (b2iT (show wiB (nI c) 0 (h 254 3 - 1) = true from wi_ok hw.2.2.2.1.1 hcC (by have := hw.2.2.2.1.2; omega)))) (fun c10 => ?_)
  refine pw_aload_n dX8_giveBack_13 rfl ?_
  refine pw_iload_n dX8_giveBack_14 rfl ?_
  refine pw_cV dX8_giveBack_15 (sp_X8_isBottling) mi_X8_isBottling mv_X8_isBottling ml_X8_172 sh_253 rfl rfl rfl rfl ⟨rfl, rfl⟩ rfl rfl ?_
  refine pw_if_ne dX8_giveBack_18 (tgt := 27) (by decide) (fun c18 => ?_) (fun c18 => absurd c18 (b2iT (show wiB (nI b) 0 (h 254 2 - 1) = true from wi_ok hw.2.2.1.1 hbB (by have := hw.2.2.1.2; omega))))
  refine pw_iload_n dX8_giveBack_27 rfl ?_
  refine pw_iconst dX8_giveBack_28 (v := 1) (by decide) ?_
  refine pw_sipush dX8_giveBack_29 (v := 3333) (by decide) ?_
  refine pw_cS dX8_giveBack_32 (sp_X8_isIn) mi_X8_isIn ms_X8_isIn ml_X8_55 rfl rfl ⟨rfl, rfl⟩ rfl rfl ?_
  refine pw_if_eq dX8_giveBack_35 (tgt := 48) (by decide) (fun c35 => absurd c35 (b2iT e)) (fun c35 => ?_)
  refine pw_iload_n dX8_giveBack_38 rfl ?_
  refine pw_aload_n dX8_giveBack_39 rfl ?_
  refine pw_iload_n dX8_giveBack_40 rfl ?_
  refine pw_iload_n dX8_giveBack_41 rfl ?_
  refine pw_cV dX8_giveBack_42 (sp_X8_held (c := c) (b := b) (by omega)) mi_X8_held mv_X8_held ml_X8_181 sh_253 rfl rfl rfl rfl ⟨rfl, rfl⟩ rfl rfl ?_
  refine pw_icmp_le dX8_giveBack_45 (tgt := 54) (by decide) (fun c45 => ?_) (fun c45 => absurd c45 (fun q => q e2))
  refine pw_aload_n dX8_giveBack_54 rfl ?_
  refine pw_cVn dX8_giveBack_55 (hrem) mi_X8_remember mv_X8_remember ml_X8_63 sh_253 rfl rfl rfl rfl ⟨rfl, rfl⟩ rfl rfl ?_
  refine pw_aload_n dX8_giveBack_58 rfl ?_
  refine pw_iload_n dX8_giveBack_59 rfl ?_
  refine pw_iload_n dX8_giveBack_60 rfl ?_
  refine pw_cV dX8_giveBack_61 (sp_X8_held (c := c) (b := b) (by omega)) mi_X8_held mv_X8_held ml_X8_181 sh_253 rfl rfl rfl rfl ⟨rfl, rfl⟩ rfl rfl ?_
  refine pw_iload_n dX8_giveBack_64 rfl ?_
  refine pw_isub dX8_giveBack_65 ?_
  refine pw_istore dX8_giveBack_66 (by decide) rfl ?_
  refine pw_aload_n dX8_giveBack_68 rfl ?_
  refine pw_getr dX8_giveBack_69 lf_X8_9 sh_253 rfl ?_
  refine pw_sipush dX8_giveBack_72 (v := 776) (by decide) ?_
  refine pw_bipush dX8_giveBack_75 (v := 16) (by decide) ?_
  refine pw_iload_n dX8_giveBack_77 rfl ?_
  refine pw_imul dX8_giveBack_78 ?_
  refine pw_iadd dX8_giveBack_79 ?_
  refine pw_iload_n dX8_giveBack_80 rfl ?_
  refine pw_iadd dX8_giveBack_81 ?_
  rw [show (776 : Int32) + 16 * nI c + nI b = nI (776 + 16 * c + b) from ixM 776 16 c b]
  refine pw_iload dX8_giveBack_82 rfl ?_
  refine pw_iastore dX8_giveBack_84 sh_254 (vpin (by omega) (by decide)) ?_
  rw [nI_cl (show 776 + 16 * c + b < 2147483648 by omega)]
  refine pw_heq (show _ = gb1 h3 c b q from rfl) ?_
  refine pw_aload_n dX8_giveBack_85 rfl ?_
  refine pw_getr dX8_giveBack_86 lf_X8_9 sh_253 rfl ?_
  refine pw_sipush dX8_giveBack_89 (v := 904) (by decide) ?_
  refine pw_bipush dX8_giveBack_92 (v := 16) (by decide) ?_
  refine pw_iload_n dX8_giveBack_94 rfl ?_
  refine pw_imul dX8_giveBack_95 ?_
  refine pw_iadd dX8_giveBack_96 ?_
  refine pw_iload_n dX8_giveBack_97 rfl ?_
  refine pw_iadd dX8_giveBack_98 ?_
  rw [show (904 : Int32) + 16 * nI c + nI b = nI (904 + 16 * c + b) from ixM 904 16 c b]
  refine pw_aload_n dX8_giveBack_99 rfl ?_
  refine pw_iload_n dX8_giveBack_100 rfl ?_
  refine pw_iload_n dX8_giveBack_101 rfl ?_
  refine pw_cV dX8_giveBack_102 (sp_X8_wished (c := c) (b := b) (by omega)) mi_X8_wished mv_X8_wished ml_X8_184 sh_253 rfl rfl rfl rfl ⟨rfl, rfl⟩ rfl rfl ?_
  refine pw_iload dX8_giveBack_105 rfl ?_
  refine pw_cS dX8_giveBack_107 (sp_X8_lesser) mi_X8_lesser ms_X8_lesser ml_X8_205 rfl rfl ⟨rfl, rfl⟩ rfl rfl ?_
  refine pw_iastore dX8_giveBack_110 sh_254 (vpin (by omega) (by decide)) ?_
  rw [nI_cl (show 904 + 16 * c + b < 2147483648 by omega)]
  refine pw_heq (show _ = gb2 h3 c b q from rfl) ?_
  refine pw_aload_n dX8_giveBack_111 rfl ?_
  refine pw_iload_n dX8_giveBack_112 rfl ?_
  refine pw_iconst dX8_giveBack_113 (v := 2) (by decide) ?_
  refine pw_aload_n dX8_giveBack_114 rfl ?_
  refine pw_iload_n dX8_giveBack_115 rfl ?_
  refine pw_iconst dX8_giveBack_116 (v := 2) (by decide) ?_
  refine pw_cV dX8_giveBack_117 (sp_X8_b (b := b) (k := 2) (by omega)) mi_X8_b mv_X8_b ml_X8_169 sh_253 rfl rfl rfl rfl ⟨rfl, rfl⟩ rfl rfl ?_
  refine pw_iload_n dX8_giveBack_120 rfl ?_
  refine pw_iadd dX8_giveBack_121 ?_
  refine pw_cVn dX8_giveBack_122 (sp_X8_setB (b := b) (k := 2) (by omega)) mi_X8_setB mv_X8_setB ml_X8_166 sh_253 rfl rfl rfl rfl ⟨rfl, rfl⟩ rfl rfl ?_
  refine pw_iload dX8_giveBack_125 rfl ?_
  exact pw_iretF dX8_giveBack_127 rfl rfl rfl rfl rfl

set_option maxRecDepth 100000 in
set_option maxHeartbeats 4000000 in
theorem sp_X8_holds_no1 {l : Launch} {G : GC} {ad : Nat → Nat} {h : HP} {n m : Int32} {q : Int32} (e : wiB n 0 (h 254 3 - 1) = false) : PF l G yX8_holds (.code yX8_holds cX8_holds 4 ((Option.some FieldType.int))) { frames := 3, cells := 0, slots := 0, locals := 68 } [.ref (ad 253), .int (n), .int (m), .int (q)] SW ad (h) (some (.int 0)) (faH (faH h 0) 1) := by
  refine PF.mk (L0 := [some (.ref (ad 253)), some (.int (n)), some (.int (m)), some (.int (q))]) RX8 "holds" 0 0 (by decide +kernel) rfl rfl ⟨rfl, rfl⟩ (by simp [Value.category]) (Nat.le_of_ble_eq_true rfl) rfl ?_
  refine pw_aload_n dX8_holds_0 rfl ?_
  refine pw_iconst dX8_holds_1 (v := 0) (by decide) ?_
  refine pw_puti dX8_holds_2 lf_X8_42 lp_8_5 sh_253 rfl rfl rfl ?_
  refine pw_aload_n dX8_holds_5 rfl ?_
  refine pw_iload_n dX8_holds_6 rfl ?_
  refine pw_cV dX8_holds_7 (sp_X8_isCustomer) mi_X8_isCustomer mv_X8_isCustomer ml_X8_196 sh_253 rfl rfl rfl rfl ⟨rfl, rfl⟩ rfl rfl ?_
  refine pw_if_eq dX8_holds_10 (tgt := 21) (by decide) (fun c10 => ?_) (fun c10 => absurd c10 (fun q => q (b2iF e)))
  refine pw_aload_n dX8_holds_21 rfl ?_
  refine pw_iconst dX8_holds_22 (v := 1) (by decide) ?_
  refine pw_cV dX8_holds_23 (sp_X8_fail) mi_X8_fail mv_X8_fail ml_X8_48 sh_253 rfl rfl rfl rfl ⟨rfl, rfl⟩ rfl rfl ?_
  exact pw_iretF dX8_holds_26 rfl rfl rfl rfl rfl

set_option maxRecDepth 100000 in
set_option maxHeartbeats 4000000 in
theorem sp_X8_holds_no2 {l : Launch} {G : GC} {ad : Nat → Nat} {h : HP} {n m : Int32} {q : Int32} (e : wiB n 0 (h 254 3 - 1) = true) (e2 : wiB m 0 (h 254 2 - 1) = false) : PF l G yX8_holds (.code yX8_holds cX8_holds 4 ((Option.some FieldType.int))) { frames := 3, cells := 0, slots := 0, locals := 68 } [.ref (ad 253), .int (n), .int (m), .int (q)] SW ad (h) (some (.int 0)) (faH (faH h 0) 1) := by
  refine PF.mk (L0 := [some (.ref (ad 253)), some (.int (n)), some (.int (m)), some (.int (q))]) RX8 "holds" 0 0 (by decide +kernel) rfl rfl ⟨rfl, rfl⟩ (by simp [Value.category]) (Nat.le_of_ble_eq_true rfl) rfl ?_
  refine pw_aload_n dX8_holds_0 rfl ?_
  refine pw_iconst dX8_holds_1 (v := 0) (by decide) ?_
  refine pw_puti dX8_holds_2 lf_X8_42 lp_8_5 sh_253 rfl rfl rfl ?_
  refine pw_aload_n dX8_holds_5 rfl ?_
  refine pw_iload_n dX8_holds_6 rfl ?_
  refine pw_cV dX8_holds_7 (sp_X8_isCustomer) mi_X8_isCustomer mv_X8_isCustomer ml_X8_196 sh_253 rfl rfl rfl rfl ⟨rfl, rfl⟩ rfl rfl ?_
  refine pw_if_eq dX8_holds_10 (tgt := 21) (by decide) (fun c10 => absurd c10 (b2iT e)) (fun c10 => ?_)
  refine pw_aload_n dX8_holds_13 rfl ?_
  refine pw_iload_n dX8_holds_14 rfl ?_
  refine pw_cV dX8_holds_15 (sp_X8_isBottling) mi_X8_isBottling mv_X8_isBottling ml_X8_172 sh_253 rfl rfl rfl rfl ⟨rfl, rfl⟩ rfl rfl ?_
  refine pw_if_ne dX8_holds_18 (tgt := 27) (by decide) (fun c18 => absurd c18 (fun q => q (b2iF e2))) (fun c18 => ?_)
  refine pw_aload_n dX8_holds_21 rfl ?_
  refine pw_iconst dX8_holds_22 (v := 1) (by decide) ?_
  refine pw_cV dX8_holds_23 (sp_X8_fail) mi_X8_fail mv_X8_fail ml_X8_48 sh_253 rfl rfl rfl rfl ⟨rfl, rfl⟩ rfl rfl ?_
  exact pw_iretF dX8_holds_26 rfl rfl rfl rfl rfl

set_option maxRecDepth 100000 in
set_option maxHeartbeats 4000000 in
theorem sp_X8_holds_no3 {l : Launch} {G : GC} {ad : Nat → Nat} {h : HP} {nL nH nB nC : Nat} {np : Nat → Nat} {pl : Nat → Nat → Nat} {lb : Nat → Nat} (hw : MW h nL nH nB nC np pl lb) {c b : Nat} (hcC : c < nC) (hbB : b < nB) {q : Int32} (e : ¬ q = 0) (e1 : ¬ q = 1) (e2 : ¬ q = 2) : PF l G yX8_holds (.code yX8_holds cX8_holds 4 ((Option.some FieldType.int))) { frames := 3, cells := 0, slots := 0, locals := 68 } [.ref (ad 253), .int (nI c), .int (nI b), .int (q)] SW ad (h) (some (.int 0)) (faH (faH h 0) 2) := by
  refine PF.mk (L0 := [some (.ref (ad 253)), some (.int (nI c)), some (.int (nI b)), some (.int (q))]) RX8 "holds" 0 0 (by decide +kernel) rfl rfl ⟨rfl, rfl⟩ (by simp [Value.category]) (Nat.le_of_ble_eq_true rfl) rfl ?_
  have hwf : MW (hput h 253 5 0) nL nH nB nC np pl lb := MW_o hw (hput_ne h 5 0 (by decide))
  have hb1 := hw.1.2
  have hb2 := hw.2.1.2
  have hb3 := hw.2.2.1.2
  have hb4 := hw.2.2.2.1.2
  have hb16 : b < 16 := by omega
  have hc8 : c < 8 := by omega
  refine pw_aload_n dX8_holds_0 rfl ?_
  refine pw_iconst dX8_holds_1 (v := 0) (by decide) ?_
  refine pw_puti dX8_holds_2 lf_X8_42 lp_8_5 sh_253 rfl rfl rfl ?_
  refine pw_aload_n dX8_holds_5 rfl ?_
  refine pw_iload_n dX8_holds_6 rfl ?_
  refine pw_cV dX8_holds_7 (sp_X8_isCustomer) mi_X8_isCustomer mv_X8_isCustomer ml_X8_196 sh_253 rfl rfl rfl rfl ⟨rfl, rfl⟩ rfl rfl ?_
  refine pw_if_eq dX8_holds_10 (tgt := 21) (by decide) (fun c10 => absurd c10 (b2iT (show wiB (nI c) 0 (h 254 3 - 1) = true from wi_ok hw.2.2.2.1.1 hcC (by have := hw.2.2.2.1.2; omega)))) (fun c10 => ?_)
  refine pw_aload_n dX8_holds_13 rfl ?_
  refine pw_iload_n dX8_holds_14 rfl ?_
  refine pw_cV dX8_holds_15 (sp_X8_isBottling) mi_X8_isBottling mv_X8_isBottling ml_X8_172 sh_253 rfl rfl rfl rfl ⟨rfl, rfl⟩ rfl rfl ?_
  refine pw_if_ne dX8_holds_18 (tgt := 27) (by decide) (fun c18 => ?_) (fun c18 => absurd c18 (b2iT (show wiB (nI b) 0 (h 254 2 - 1) = true from wi_ok hw.2.2.1.1 hbB (by have := hw.2.2.1.2; omega))))
  refine pw_iload_n dX8_holds_27 rfl ?_
  refine pw_if_ne dX8_holds_28 (tgt := 40) (by decide) (fun c28 => ?_) (fun c28 => absurd c28 (e))
  refine pw_iload_n dX8_holds_40 rfl ?_
  refine pw_iconst dX8_holds_41 (v := 1) (by decide) ?_
  refine pw_icmp_ne dX8_holds_42 (tgt := 54) (by decide) (fun c42 => ?_) (fun c42 => absurd c42 (e1))
  refine pw_iload_n dX8_holds_54 rfl ?_
  refine pw_iconst dX8_holds_55 (v := 2) (by decide) ?_
  refine pw_icmp_ne dX8_holds_56 (tgt := 68) (by decide) (fun c56 => ?_) (fun c56 => absurd c56 (e2))
  refine pw_aload_n dX8_holds_68 rfl ?_
  refine pw_iconst dX8_holds_69 (v := 2) (by decide) ?_
  refine pw_cV dX8_holds_70 (sp_X8_fail) mi_X8_fail mv_X8_fail ml_X8_48 sh_253 rfl rfl rfl rfl ⟨rfl, rfl⟩ rfl rfl ?_
  exact pw_iretF dX8_holds_73 rfl rfl rfl rfl rfl

set_option maxRecDepth 100000 in
set_option maxHeartbeats 4000000 in
theorem sp_X8_holds_k0 {l : Launch} {G : GC} {ad : Nat → Nat} {h : HP} {nL nH nB nC : Nat} {np : Nat → Nat} {pl : Nat → Nat → Nat} {lb : Nat → Nat} (hw : MW h nL nH nB nC np pl lb) {c b : Nat} (hcC : c < nC) (hbB : b < nB) : PF l G yX8_holds (.code yX8_holds cX8_holds 4 ((Option.some FieldType.int))) { frames := 3, cells := 0, slots := 0, locals := 68 } [.ref (ad 253), .int (nI c), .int (nI b), .int (0)] SW ad (h) (some (.int (mHd h c b))) (faH h 0) := by
  refine PF.mk (L0 := [some (.ref (ad 253)), some (.int (nI c)), some (.int (nI b)), some (.int (0))]) RX8 "holds" 0 0 (by decide +kernel) rfl rfl ⟨rfl, rfl⟩ (by simp [Value.category]) (Nat.le_of_ble_eq_true rfl) rfl ?_
  have hwf : MW (hput h 253 5 0) nL nH nB nC np pl lb := MW_o hw (hput_ne h 5 0 (by decide))
  have hb1 := hw.1.2
  have hb2 := hw.2.1.2
  have hb3 := hw.2.2.1.2
  have hb4 := hw.2.2.2.1.2
  have hb16 : b < 16 := by omega
  have hc8 : c < 8 := by omega
  refine pw_aload_n dX8_holds_0 rfl ?_
  refine pw_iconst dX8_holds_1 (v := 0) (by decide) ?_
  refine pw_puti dX8_holds_2 lf_X8_42 lp_8_5 sh_253 rfl rfl rfl ?_
  refine pw_aload_n dX8_holds_5 rfl ?_
  refine pw_iload_n dX8_holds_6 rfl ?_
  refine pw_cV dX8_holds_7 (sp_X8_isCustomer) mi_X8_isCustomer mv_X8_isCustomer ml_X8_196 sh_253 rfl rfl rfl rfl ⟨rfl, rfl⟩ rfl rfl ?_
  refine pw_if_eq dX8_holds_10 (tgt := 21) (by decide) (fun c10 => absurd c10 (b2iT (show wiB (nI c) 0 (h 254 3 - 1) = true from wi_ok hw.2.2.2.1.1 hcC (by have := hw.2.2.2.1.2; omega)))) (fun c10 => ?_)
  refine pw_aload_n dX8_holds_13 rfl ?_
  refine pw_iload_n dX8_holds_14 rfl ?_
  refine pw_cV dX8_holds_15 (sp_X8_isBottling) mi_X8_isBottling mv_X8_isBottling ml_X8_172 sh_253 rfl rfl rfl rfl ⟨rfl, rfl⟩ rfl rfl ?_
  refine pw_if_ne dX8_holds_18 (tgt := 27) (by decide) (fun c18 => ?_) (fun c18 => absurd c18 (b2iT (show wiB (nI b) 0 (h 254 2 - 1) = true from wi_ok hw.2.2.1.1 hbB (by have := hw.2.2.1.2; omega))))
  refine pw_iload_n dX8_holds_27 rfl ?_
  refine pw_if_ne dX8_holds_28 (tgt := 40) (by decide) (fun c28 => absurd c28 (fun q => q rfl)) (fun c28 => ?_)
  refine pw_aload_n dX8_holds_31 rfl ?_
  refine pw_iload_n dX8_holds_32 rfl ?_
  refine pw_iload_n dX8_holds_33 rfl ?_
  refine pw_cV dX8_holds_34 (sp_X8_held (c := c) (b := b) (by omega)) mi_X8_held mv_X8_held ml_X8_181 sh_253 rfl rfl rfl rfl ⟨rfl, rfl⟩ rfl rfl ?_
  refine pw_goto dX8_holds_37 (tgt := 73) (by decide) ?_
  exact pw_iretF dX8_holds_73 rfl rfl rfl rfl rfl

set_option maxRecDepth 100000 in
set_option maxHeartbeats 4000000 in
theorem sp_X8_holds_k1 {l : Launch} {G : GC} {ad : Nat → Nat} {h : HP} {nL nH nB nC : Nat} {np : Nat → Nat} {pl : Nat → Nat → Nat} {lb : Nat → Nat} (hw : MW h nL nH nB nC np pl lb) {c b : Nat} (hcC : c < nC) (hbB : b < nB) : PF l G yX8_holds (.code yX8_holds cX8_holds 4 ((Option.some FieldType.int))) { frames := 3, cells := 0, slots := 0, locals := 68 } [.ref (ad 253), .int (nI c), .int (nI b), .int (1)] SW ad (h) (some (.int (mWi h c b))) (faH h 0) := by
  refine PF.mk (L0 := [some (.ref (ad 253)), some (.int (nI c)), some (.int (nI b)), some (.int (1))]) RX8 "holds" 0 0 (by decide +kernel) rfl rfl ⟨rfl, rfl⟩ (by simp [Value.category]) (Nat.le_of_ble_eq_true rfl) rfl ?_
  have hwf : MW (hput h 253 5 0) nL nH nB nC np pl lb := MW_o hw (hput_ne h 5 0 (by decide))
  have hb1 := hw.1.2
  have hb2 := hw.2.1.2
  have hb3 := hw.2.2.1.2
  have hb4 := hw.2.2.2.1.2
  have hb16 : b < 16 := by omega
  have hc8 : c < 8 := by omega
  refine pw_aload_n dX8_holds_0 rfl ?_
  refine pw_iconst dX8_holds_1 (v := 0) (by decide) ?_
  refine pw_puti dX8_holds_2 lf_X8_42 lp_8_5 sh_253 rfl rfl rfl ?_
  refine pw_aload_n dX8_holds_5 rfl ?_
  refine pw_iload_n dX8_holds_6 rfl ?_
  refine pw_cV dX8_holds_7 (sp_X8_isCustomer) mi_X8_isCustomer mv_X8_isCustomer ml_X8_196 sh_253 rfl rfl rfl rfl ⟨rfl, rfl⟩ rfl rfl ?_
  refine pw_if_eq dX8_holds_10 (tgt := 21) (by decide) (fun c10 => absurd c10 (b2iT (show wiB (nI c) 0 (h 254 3 - 1) = true from wi_ok hw.2.2.2.1.1 hcC (by have := hw.2.2.2.1.2; omega)))) (fun c10 => ?_)
  refine pw_aload_n dX8_holds_13 rfl ?_
  refine pw_iload_n dX8_holds_14 rfl ?_
  refine pw_cV dX8_holds_15 (sp_X8_isBottling) mi_X8_isBottling mv_X8_isBottling ml_X8_172 sh_253 rfl rfl rfl rfl ⟨rfl, rfl⟩ rfl rfl ?_
  refine pw_if_ne dX8_holds_18 (tgt := 27) (by decide) (fun c18 => ?_) (fun c18 => absurd c18 (b2iT (show wiB (nI b) 0 (h 254 2 - 1) = true from wi_ok hw.2.2.1.1 hbB (by have := hw.2.2.1.2; omega))))
  refine pw_iload_n dX8_holds_27 rfl ?_
  refine pw_if_ne dX8_holds_28 (tgt := 40) (by decide) (fun c28 => ?_) (fun c28 => absurd c28 (by decide))
  refine pw_iload_n dX8_holds_40 rfl ?_
  refine pw_iconst dX8_holds_41 (v := 1) (by decide) ?_
  refine pw_icmp_ne dX8_holds_42 (tgt := 54) (by decide) (fun c42 => absurd c42 (fun q => q rfl)) (fun c42 => ?_)
  refine pw_aload_n dX8_holds_45 rfl ?_
  refine pw_iload_n dX8_holds_46 rfl ?_
  refine pw_iload_n dX8_holds_47 rfl ?_
  refine pw_cV dX8_holds_48 (sp_X8_wished (c := c) (b := b) (by omega)) mi_X8_wished mv_X8_wished ml_X8_184 sh_253 rfl rfl rfl rfl ⟨rfl, rfl⟩ rfl rfl ?_
  refine pw_goto dX8_holds_51 (tgt := 73) (by decide) ?_
  exact pw_iretF dX8_holds_73 rfl rfl rfl rfl rfl

set_option maxRecDepth 100000 in
set_option maxHeartbeats 4000000 in
theorem sp_X8_holds_k2 {l : Launch} {G : GC} {ad : Nat → Nat} {h : HP} {nL nH nB nC : Nat} {np : Nat → Nat} {pl : Nat → Nat → Nat} {lb : Nat → Nat} (hw : MW h nL nH nB nC np pl lb) {c b : Nat} (hcC : c < nC) (hbB : b < nB) : PF l G yX8_holds (.code yX8_holds cX8_holds 4 ((Option.some FieldType.int))) { frames := 3, cells := 0, slots := 0, locals := 68 } [.ref (ad 253), .int (nI c), .int (nI b), .int (2)] SW ad (h) (some (.int (plI h nC c b))) (faH h 0) := by
  refine PF.mk (L0 := [some (.ref (ad 253)), some (.int (nI c)), some (.int (nI b)), some (.int (2))]) RX8 "holds" 0 0 (by decide +kernel) rfl rfl ⟨rfl, rfl⟩ (by simp [Value.category]) (Nat.le_of_ble_eq_true rfl) rfl ?_
  have hwf : MW (hput h 253 5 0) nL nH nB nC np pl lb := MW_o hw (hput_ne h 5 0 (by decide))
  have hb1 := hw.1.2
  have hb2 := hw.2.1.2
  have hb3 := hw.2.2.1.2
  have hb4 := hw.2.2.2.1.2
  have hb16 : b < 16 := by omega
  have hc8 : c < 8 := by omega
  refine pw_aload_n dX8_holds_0 rfl ?_
  refine pw_iconst dX8_holds_1 (v := 0) (by decide) ?_
  refine pw_puti dX8_holds_2 lf_X8_42 lp_8_5 sh_253 rfl rfl rfl ?_
  refine pw_aload_n dX8_holds_5 rfl ?_
  refine pw_iload_n dX8_holds_6 rfl ?_
  refine pw_cV dX8_holds_7 (sp_X8_isCustomer) mi_X8_isCustomer mv_X8_isCustomer ml_X8_196 sh_253 rfl rfl rfl rfl ⟨rfl, rfl⟩ rfl rfl ?_
  refine pw_if_eq dX8_holds_10 (tgt := 21) (by decide) (fun c10 => absurd c10 (b2iT (show wiB (nI c) 0 (h 254 3 - 1) = true from wi_ok hw.2.2.2.1.1 hcC (by have := hw.2.2.2.1.2; omega)))) (fun c10 => ?_)
  refine pw_aload_n dX8_holds_13 rfl ?_
  refine pw_iload_n dX8_holds_14 rfl ?_
  refine pw_cV dX8_holds_15 (sp_X8_isBottling) mi_X8_isBottling mv_X8_isBottling ml_X8_172 sh_253 rfl rfl rfl rfl ⟨rfl, rfl⟩ rfl rfl ?_
  refine pw_if_ne dX8_holds_18 (tgt := 27) (by decide) (fun c18 => ?_) (fun c18 => absurd c18 (b2iT (show wiB (nI b) 0 (h 254 2 - 1) = true from wi_ok hw.2.2.1.1 hbB (by have := hw.2.2.1.2; omega))))
  refine pw_iload_n dX8_holds_27 rfl ?_
  refine pw_if_ne dX8_holds_28 (tgt := 40) (by decide) (fun c28 => ?_) (fun c28 => absurd c28 (by decide))
  refine pw_iload_n dX8_holds_40 rfl ?_
  refine pw_iconst dX8_holds_41 (v := 1) (by decide) ?_
  refine pw_icmp_ne dX8_holds_42 (tgt := 54) (by decide) (fun c42 => ?_) (fun c42 => absurd c42 (by decide))
  refine pw_iload_n dX8_holds_54 rfl ?_
  refine pw_iconst dX8_holds_55 (v := 2) (by decide) ?_
  refine pw_icmp_ne dX8_holds_56 (tgt := 68) (by decide) (fun c56 => absurd c56 (fun q => q rfl)) (fun c56 => ?_)
  refine pw_aload_n dX8_holds_59 rfl ?_
  refine pw_iload_n dX8_holds_60 rfl ?_
  refine pw_iload_n dX8_holds_61 rfl ?_
  refine pw_cV dX8_holds_62 (sp_X8_placeOf hwf hc8 hb16) mi_X8_placeOf mv_X8_placeOf ml_X8_193 sh_253 rfl rfl rfl rfl ⟨rfl, rfl⟩ rfl rfl ?_
  refine pw_goto dX8_holds_65 (tgt := 73) (by decide) ?_
  exact pw_iretF dX8_holds_73 rfl rfl rfl rfl rfl

set_option maxRecDepth 100000 in
set_option maxHeartbeats 4000000 in
theorem sp_X8_listed_no1 {l : Launch} {G : GC} {ad : Nat → Nat} {h : HP} {n m : Int32} (e : wiB n 0 (h 254 2 - 1) = false) : PF l G yX8_listed (.code yX8_listed cX8_listed 4 ((Option.some FieldType.int))) { frames := 4, cells := 0, slots := 0, locals := 91 } [.ref (ad 253), .int (n), .int (m)] SW ad (h) (some (.int 0)) (faH (faH h 0) 1) := by
  refine PF.mk (L0 := [some (.ref (ad 253)), some (.int (n)), some (.int (m)), none]) RX8 "listed" 0 0 (by decide +kernel) rfl rfl ⟨rfl, rfl⟩ (by simp [Value.category]) (Nat.le_of_ble_eq_true rfl) rfl ?_
  refine pw_aload_n dX8_listed_0 rfl ?_
  refine pw_iconst dX8_listed_1 (v := 0) (by decide) ?_
  refine pw_puti dX8_listed_2 lf_X8_42 lp_8_5 sh_253 rfl rfl rfl ?_
  refine pw_aload_n dX8_listed_5 rfl ?_
  refine pw_iload_n dX8_listed_6 rfl ?_
  refine pw_cV dX8_listed_7 (sp_X8_isBottling) mi_X8_isBottling mv_X8_isBottling ml_X8_172 sh_253 rfl rfl rfl rfl ⟨rfl, rfl⟩ rfl rfl ?_
  refine pw_if_ne dX8_listed_10 (tgt := 19) (by decide) (fun c10 => absurd c10 (fun q => q (b2iF e))) (fun c10 => ?_)
  refine pw_aload_n dX8_listed_13 rfl ?_
  refine pw_iconst dX8_listed_14 (v := 1) (by decide) ?_
  refine pw_cV dX8_listed_15 (sp_X8_fail) mi_X8_fail mv_X8_fail ml_X8_48 sh_253 rfl rfl rfl rfl ⟨rfl, rfl⟩ rfl rfl ?_
  exact pw_iretF dX8_listed_18 rfl rfl rfl rfl rfl

set_option maxRecDepth 100000 in
set_option maxHeartbeats 4000000 in
theorem sp_X8_listed_no2 {l : Launch} {G : GC} {ad : Nat → Nat} {h : HP} {nL nH nB nC : Nat} {np : Nat → Nat} {pl : Nat → Nat → Nat} {lb : Nat → Nat} (hw : MW h nL nH nB nC np pl lb) {b : Nat} (hbB : b < nB) {m : Int32} (e : caF h nC b m nC 0 = -1) : PF l G yX8_listed (.code yX8_listed cX8_listed 4 ((Option.some FieldType.int))) { frames := 4, cells := 0, slots := 0, locals := 91 } [.ref (ad 253), .int (nI b), .int (m)] SW ad (h) (some (.int 0)) (faH (faH h 0) 2) := by
  refine PF.mk (L0 := [some (.ref (ad 253)), some (.int (nI b)), some (.int (m)), none]) RX8 "listed" 0 0 (by decide +kernel) rfl rfl ⟨rfl, rfl⟩ (by simp [Value.category]) (Nat.le_of_ble_eq_true rfl) rfl ?_
  have hwf : MW (hput h 253 5 0) nL nH nB nC np pl lb := MW_o hw (hput_ne h 5 0 (by decide))
  have hb1 := hw.1.2
  have hb2 := hw.2.1.2
  have hb3 := hw.2.2.1.2
  have hb4 := hw.2.2.2.1.2
  have hb16 : b < 16 := by omega
  refine pw_aload_n dX8_listed_0 rfl ?_
  refine pw_iconst dX8_listed_1 (v := 0) (by decide) ?_
  refine pw_puti dX8_listed_2 lf_X8_42 lp_8_5 sh_253 rfl rfl rfl ?_
  refine pw_aload_n dX8_listed_5 rfl ?_
  refine pw_iload_n dX8_listed_6 rfl ?_
  refine pw_cV dX8_listed_7 (sp_X8_isBottling) mi_X8_isBottling mv_X8_isBottling ml_X8_172 sh_253 rfl rfl rfl rfl ⟨rfl, rfl⟩ rfl rfl ?_
  refine pw_if_ne dX8_listed_10 (tgt := 19) (by decide) (fun c10 => ?_) (fun c10 => absurd c10 (b2iT (show wiB (nI b) 0 (h 254 2 - 1) = true from wi_ok hw.2.2.1.1 hbB (by have := hw.2.2.1.2; omega))))
  refine pw_aload_n dX8_listed_19 rfl ?_
  refine pw_iload_n dX8_listed_20 rfl ?_
  refine pw_iload_n dX8_listed_21 rfl ?_
  refine pw_cV dX8_listed_22 (sp_X8_customerAt hwf hb16) mi_X8_customerAt mv_X8_customerAt ml_X8_199 sh_253 rfl rfl rfl rfl ⟨rfl, rfl⟩ rfl rfl ?_
  refine pw_istore_n dX8_listed_25 (by decide) rfl ?_
  refine pw_iload_n dX8_listed_26 rfl ?_
  refine pw_iconst dX8_listed_27 (v := (-1)) (by decide) ?_
  refine pw_icmp_ne dX8_listed_28 (tgt := 39) (by decide) (fun c28 => absurd c28 (fun q => q ((caF_c (hput_ne h 5 0 (by decide)) _ _ _ _ _).trans e))) (fun c28 => ?_)
  refine pw_aload_n dX8_listed_31 rfl ?_
  refine pw_iconst dX8_listed_32 (v := 2) (by decide) ?_
  refine pw_cV dX8_listed_33 (sp_X8_fail) mi_X8_fail mv_X8_fail ml_X8_48 sh_253 rfl rfl rfl rfl ⟨rfl, rfl⟩ rfl rfl ?_
  refine pw_goto dX8_listed_36 (tgt := 40) (by decide) ?_
  exact pw_iretF dX8_listed_40 rfl rfl rfl rfl rfl

set_option maxRecDepth 100000 in
set_option maxHeartbeats 4000000 in
theorem sp_X8_listed_ok {l : Launch} {G : GC} {ad : Nat → Nat} {h : HP} {nL nH nB nC : Nat} {np : Nat → Nat} {pl : Nat → Nat → Nat} {lb : Nat → Nat} (hw : MW h nL nH nB nC np pl lb) {b : Nat} (hbB : b < nB) {m : Int32} (e : ¬ caF h nC b m nC 0 = -1) : PF l G yX8_listed (.code yX8_listed cX8_listed 4 ((Option.some FieldType.int))) { frames := 4, cells := 0, slots := 0, locals := 91 } [.ref (ad 253), .int (nI b), .int (m)] SW ad (h) (some (.int (caF h nC b m nC 0))) (faH h 0) := by
  refine PF.mk (L0 := [some (.ref (ad 253)), some (.int (nI b)), some (.int (m)), none]) RX8 "listed" 0 0 (by decide +kernel) rfl rfl ⟨rfl, rfl⟩ (by simp [Value.category]) (Nat.le_of_ble_eq_true rfl) rfl ?_
  have hwf : MW (hput h 253 5 0) nL nH nB nC np pl lb := MW_o hw (hput_ne h 5 0 (by decide))
  have hb1 := hw.1.2
  have hb2 := hw.2.1.2
  have hb3 := hw.2.2.1.2
  have hb4 := hw.2.2.2.1.2
  have hb16 : b < 16 := by omega
  refine pw_aload_n dX8_listed_0 rfl ?_
  refine pw_iconst dX8_listed_1 (v := 0) (by decide) ?_
  refine pw_puti dX8_listed_2 lf_X8_42 lp_8_5 sh_253 rfl rfl rfl ?_
  refine pw_aload_n dX8_listed_5 rfl ?_
  refine pw_iload_n dX8_listed_6 rfl ?_
  refine pw_cV dX8_listed_7 (sp_X8_isBottling) mi_X8_isBottling mv_X8_isBottling ml_X8_172 sh_253 rfl rfl rfl rfl ⟨rfl, rfl⟩ rfl rfl ?_
  refine pw_if_ne dX8_listed_10 (tgt := 19) (by decide) (fun c10 => ?_) (fun c10 => absurd c10 (b2iT (show wiB (nI b) 0 (h 254 2 - 1) = true from wi_ok hw.2.2.1.1 hbB (by have := hw.2.2.1.2; omega))))
  refine pw_aload_n dX8_listed_19 rfl ?_
  refine pw_iload_n dX8_listed_20 rfl ?_
  refine pw_iload_n dX8_listed_21 rfl ?_
  refine pw_cV dX8_listed_22 (sp_X8_customerAt hwf hb16) mi_X8_customerAt mv_X8_customerAt ml_X8_199 sh_253 rfl rfl rfl rfl ⟨rfl, rfl⟩ rfl rfl ?_
  refine pw_istore_n dX8_listed_25 (by decide) rfl ?_
  refine pw_iload_n dX8_listed_26 rfl ?_
  refine pw_iconst dX8_listed_27 (v := (-1)) (by decide) ?_
  refine pw_icmp_ne dX8_listed_28 (tgt := 39) (by decide) (fun c28 => ?_) (fun c28 => absurd c28 (fun q => e ((caF_c (hput_ne h 5 0 (by decide)) _ _ _ _ _).symm.trans q)))
  refine pw_iload_n dX8_listed_39 rfl ?_
  exact pw_iretF dX8_listed_40 rfl rfl rfl (caF_c (hput_ne h 5 0 (by decide)) _ _ _ _ _) rfl

