/-! THE MODEL READS A PART; a lot comes -/
/-- a part: whether it is wrong, the place, the contents -/
def mp1 (t : Nat → Int32) (len pos : Nat) (wr : Bool) : Bool := mnS t len pos wr || !(mgB t len (mn t len pos wr).2 (mnS t len pos wr) 58)
def mpA (t : Nat → Int32) (len pos : Nat) (wr : Bool) : Nat := if mnS t len pos wr then (mn t len pos wr).2 else mgP t len (mn t len pos wr).2 (mnS t len pos wr) 58
def mpP (t : Nat → Int32) (len pos : Nat) (wr : Bool) : Nat := (mn t len (mpA t len pos wr) (mp1 t len pos wr)).2
def mpS (t : Nat → Int32) (len pos : Nat) (wr : Bool) : Bool := mnS t len (mpA t len pos wr) (mp1 t len pos wr)
def mpH (t : Nat → Int32) (len told : Nat) (h : HP) (pos : Nat) (wr : Bool) : HP := if mpS t len pos wr then h else hput (hput (hput h 258 told (mn t len pos wr).1) 259 told (mn t len (mpA t len pos wr) (mp1 t len pos wr)).1) 253 13 (nI (told + 1))
theorem mpA_le {t : Nat → Int32} {len pos : Nat} {wr : Bool} (hl : len ≤ 40) (h : pos ≤ 40) : mpA t len pos wr ≤ 40 := by
  unfold mpA
  split
  · exact mn_le hl h
  · exact mgP_le hl (mn_le hl h)
theorem mpP_le {t : Nat → Int32} {len pos : Nat} {wr : Bool} (hl : len ≤ 40) (h : pos ≤ 40) : mpP t len pos wr ≤ 40 := mn_le hl (mpA_le hl h)
def coK (h : HP) (lot : Nat) : Nat → HP
  | 0 => h
  | k + 1 => sL (coK h lot k) lot k 0
def coH (h : HP) (lot : Nat) (q g o : Int32) : HP := hput (sL (sL (sL (sL (coK h lot 25) lot 0 q) lot 1 q) lot 3 g) lot 4 o) 254 0 (nI (lot + 1))
theorem coK_n (h : HP) (lot : Nat) : ∀ k, coK h lot k 254 0 = h 254 0
  | 0 => rfl
  | k + 1 => by
      rw [coK, sL]
      show hput _ _ _ _ 254 0 = _
      simp only [hput, if_true]
      rw [if_neg (by omega)]
      exact coK_n h lot k
set_option maxRecDepth 100000 in
set_option maxHeartbeats 4000000 in
theorem lp_X8_comes {l : Launch} {G : GC} {ad : Nat → Nat} {h : HP} {lot : Nat} (hlot : lot < 24) (hn : h 254 0 = nI lot) {q g o : Int32}  : ∀ (mu9 : Nat) (i : Nat) (hi : i ≤ 25) (hmu9 : 25 - i < mu9), PW l G cX8_comes RX8 6 ((Option.some FieldType.int)) [] { frames := 1, cells := 0, slots := 0, locals := 23 } (gNm "comes") (gME G SW ad (gR SW ad (some (.int (nI lot))) (coH h lot q g o)) gNo 0 0) 11 [some (.ref (ad 253)), some (.int q), some (.int g), some (.int o), some (.int (nI lot)), some (.int (nI i))] [] SW ad (coK h lot i) 0 0 := by
  intro mu9
  induction mu9 with
  | zero => intro i hi hmu9; exact absurd hmu9 (Nat.not_lt_zero _)
  | succ mu9 ih =>
    intro i hi hmu9
    refine pw_iload dX8_comes_11 rfl ?_
    refine pw_bipush dX8_comes_13 (v := 25) (by decide) ?_
    refine pw_icmp_ge dX8_comes_15 (tgt := 33) (by decide) (fun c15 => ?_) (fun c15 => ?_)
    · skip
      have hi8 : i = 25 := eqN (N := 25) rfl hi (by decide) c15
      subst hi8
      refine pw_aload_n dX8_comes_33 rfl ?_
      refine pw_iload dX8_comes_34 rfl ?_
      refine pw_iconst dX8_comes_36 (v := 0) (by decide) ?_
      refine pw_iload_n dX8_comes_37 rfl ?_
      refine pw_cVn dX8_comes_38 (sp_X8_setL (lot := lot) (k := 0) (by omega)) mi_X8_setL mv_X8_setL ml_X8_59 sh_253 rfl rfl rfl rfl ⟨rfl, rfl⟩ rfl rfl ?_
      refine pw_aload_n dX8_comes_41 rfl ?_
      refine pw_iload dX8_comes_42 rfl ?_
      refine pw_iconst dX8_comes_44 (v := 1) (by decide) ?_
      refine pw_iload_n dX8_comes_45 rfl ?_
      refine pw_cVn dX8_comes_46 (sp_X8_setL (lot := lot) (k := 1) (by omega)) mi_X8_setL mv_X8_setL ml_X8_59 sh_253 rfl rfl rfl rfl ⟨rfl, rfl⟩ rfl rfl ?_
      refine pw_aload_n dX8_comes_49 rfl ?_
      refine pw_iload dX8_comes_50 rfl ?_
      refine pw_iconst dX8_comes_52 (v := 3) (by decide) ?_
      refine pw_iload_n dX8_comes_53 rfl ?_
      refine pw_cVn dX8_comes_54 (sp_X8_setL (lot := lot) (k := 3) (by omega)) mi_X8_setL mv_X8_setL ml_X8_59 sh_253 rfl rfl rfl rfl ⟨rfl, rfl⟩ rfl rfl ?_
      refine pw_aload_n dX8_comes_57 rfl ?_
      refine pw_iload dX8_comes_58 rfl ?_
      refine pw_iconst dX8_comes_60 (v := 4) (by decide) ?_
      refine pw_iload_n dX8_comes_61 rfl ?_
      refine pw_cVn dX8_comes_62 (sp_X8_setL (lot := lot) (k := 4) (by omega)) mi_X8_setL mv_X8_setL ml_X8_59 sh_253 rfl rfl rfl rfl ⟨rfl, rfl⟩ rfl rfl ?_
      refine pw_aload_n dX8_comes_65 rfl ?_
      refine pw_getr dX8_comes_66 lf_X8_9 sh_253 rfl ?_
      refine pw_iconst dX8_comes_69 (v := 0) (by decide) ?_
      refine pw_dup2 dX8_comes_70 rfl rfl ?_
      refine pw_iaload dX8_comes_71 sh_254 (vpin (n := 0) (N := 1032) (by decide) (by decide)) ?_
      refine pw_iconst dX8_comes_72 (v := 1) (by decide) ?_
      refine pw_iadd dX8_comes_73 ?_
      refine pw_iastore dX8_comes_74 sh_254 (vpin (n := 0) (N := 1032) (by decide) (by decide)) ?_
      refine pw_heq (show _ = coH h lot q g o from ?_) ?_
      · have e9 : sL (sL (sL (sL (coK h lot 25) lot 0 q) lot 1 q) lot 3 g) lot 4 o 254 0 = nI lot := by
          simp only [sL, hput, if_true]
          rw [if_neg (by omega), if_neg (by omega), if_neg (by omega), if_neg (by omega), coK_n, hn]
        rw [coH]
        show hput _ 254 0 (_ + 1) = _
        rw [show sL (sL (sL (sL (coK h lot 25) lot 0 q) lot 1 q) lot 3 g) lot 4 o 254 (Int32.toNatClampNeg 0) = nI lot from e9, nI_1]
      refine pw_iload dX8_comes_75 rfl ?_
      exact pw_iretF dX8_comes_77 rfl rfl rfl rfl rfl
    · skip
      have hi9 : i < 25 := ltN (N := 25) rfl hi (by decide) c15
      refine pw_aload_n dX8_comes_18 rfl ?_
      refine pw_iload dX8_comes_19 rfl ?_
      refine pw_iload dX8_comes_21 rfl ?_
      refine pw_iconst dX8_comes_23 (v := 0) (by decide) ?_
      refine pw_cVn dX8_comes_24 (sp_X8_setL (lot := lot) (k := i) (by omega)) mi_X8_setL mv_X8_setL ml_X8_59 sh_253 rfl rfl rfl rfl ⟨rfl, rfl⟩ rfl rfl ?_
      refine pw_iinc dX8_comes_27 rfl (d := 1) (by decide) (by decide) rfl ?_
      rw [nI_1]
      refine pw_goto dX8_comes_30 (tgt := 11) (by decide) ?_
      exact ih (i + 1) (by omega) (by omega)

set_option maxRecDepth 100000 in
set_option maxHeartbeats 4000000 in
theorem sp_X8_comes {l : Launch} {G : GC} {ad : Nat → Nat} {h : HP} {lot : Nat} (hlot : lot < 24) (hn : h 254 0 = nI lot) {q g o : Int32} : PF l G yX8_comes (.code yX8_comes cX8_comes 6 ((Option.some FieldType.int))) { frames := 1, cells := 0, slots := 0, locals := 23 } [.ref (ad 253), .int (q), .int (g), .int (o)] SW ad (h) (some (.int (nI lot))) (coH h lot q g o) := by
  refine PF.mk (L0 := [some (.ref (ad 253)), some (.int (q)), some (.int (g)), some (.int (o)), none, none]) RX8 "comes" 0 0 (by decide +kernel) rfl rfl ⟨rfl, rfl⟩ (by simp [Value.category]) (Nat.le_of_ble_eq_true rfl) rfl ?_
  refine pw_aload_n dX8_comes_0 rfl ?_
  refine pw_getr dX8_comes_1 lf_X8_9 sh_253 rfl ?_
  refine pw_iconst dX8_comes_4 (v := 0) (by decide) ?_
  refine pw_iaload dX8_comes_5 sh_254 (vpin (n := 0) (N := 1032) (by decide) (by decide)) ?_
  rw [show h 254 (Int32.toNatClampNeg 0) = nI lot from hn]
  refine pw_istore dX8_comes_6 (by decide) rfl ?_
  refine pw_iconst dX8_comes_8 (v := 0) (by decide) ?_
  refine pw_istore dX8_comes_9 (by decide) rfl ?_
  exact lp_X8_comes hlot hn 26 0 (Nat.zero_le _) (by omega)

set_option maxRecDepth 100000 in
set_option maxHeartbeats 4000000 in
theorem sp_X8_readsPart {l : Launch} {G : GC} {ad : Nat → Nat} {h : HP} {len : Nat} (hlen : h 253 10 = nI len) (hl40 : len ≤ 40) {pos : Nat} (hp : pos ≤ 40) {wr : Bool} {told : Nat} (htold : h 253 13 = nI told) (ht4 : told < 4) : PF l G yX8_readsPart (.code yX8_readsPart cX8_readsPart 3 ((Option.none : Option FieldType))) { frames := 3, cells := 0, slots := 0, locals := 64 } [.ref (ad 253)] SW ad (mR h pos wr) (none) (mR (mpH (h 257) len told h pos wr) (mpP (h 257) len pos wr) (mpS (h 257) len pos wr)) := by
  refine PF.mk (L0 := [some (.ref (ad 253)), none, none]) RX8 "readsPart" 0 0 (by decide +kernel) rfl rfl ⟨rfl, rfl⟩ (by simp [Value.category]) (Nat.le_of_ble_eq_true rfl) rfl ?_
  refine pw_aload_n dX8_readsPart_0 rfl ?_
  refine pw_cV dX8_readsPart_1 (sp_X8_number hlen hl40 hp) mi_X8_number mv_X8_number ml_X8_84 sh_253 rfl rfl rfl rfl ⟨rfl, rfl⟩ rfl rfl ?_
  refine pw_istore_n dX8_readsPart_4 (by decide) rfl ?_
  refine pw_aload_n dX8_readsPart_5 rfl ?_
  refine pw_aload_n dX8_readsPart_6 rfl ?_
  refine pw_geti dX8_readsPart_7 lf_X8_70 sh_253 rfl ?_
  refine pw_if_ne dX8_readsPart_10 (tgt := 22) (by decide) (fun c10 => ?_) (fun c10 => ?_)
  · skip
    refine pw_iconst dX8_readsPart_22 (v := 1) (by decide) ?_
    refine pw_goto dX8_readsPart_23 (tgt := 27) (by decide) ?_
    refine pw_puti dX8_readsPart_27 lf_X8_70 lp_8_12 sh_253 rfl rfl rfl ?_
    have ew : mnS (h 257) len pos wr = true := b2i_ne (by rw [mR_12] at c10; exact c10)
    refine pw_heq (show _ = mR h (mpA (h 257) len pos wr) (mp1 (h 257) len pos wr) from ?_) ?_
    · rw [mpA, if_pos ew, mp1, ew, Bool.true_or]; exact mR_wr _ _ _ true
    refine pw_aload_n dX8_readsPart_30 rfl ?_
    refine pw_cV dX8_readsPart_31 (sp_X8_number hlen hl40 (mpA_le hl40 hp)) mi_X8_number mv_X8_number ml_X8_84 sh_253 rfl rfl rfl rfl ⟨rfl, rfl⟩ rfl rfl ?_
    refine pw_istore_n dX8_readsPart_34 (by decide) rfl ?_
    refine pw_aload_n dX8_readsPart_35 rfl ?_
    refine pw_geti dX8_readsPart_36 lf_X8_70 sh_253 rfl ?_
    refine pw_if_ne dX8_readsPart_39 (tgt := 72) (by decide) (fun c39 => ?_) (fun c39 => ?_)
    · skip
      have es : mpS (h 257) len pos wr = true := b2i_ne (by rw [mR_12] at c39; exact c39)
      exact pw_retF dX8_readsPart_72 rfl rfl (by rw [mpH, if_pos es]; rfl)
    · skip
      refine pw_aload_n dX8_readsPart_42 rfl ?_
      refine pw_getr dX8_readsPart_43 lf_X8_27 sh_253 rfl ?_
      refine pw_aload_n dX8_readsPart_46 rfl ?_
      refine pw_geti dX8_readsPart_47 lf_X8_92 sh_253 rfl ?_
      refine pw_iload_n dX8_readsPart_50 rfl ?_
      rw [mR_13, htold]
      refine pw_iastore dX8_readsPart_51 sh_258 (vpin (N := 4) ht4 (by decide)) ?_
      rw [nI_cl (by omega), mR_put _ _ _ _ _ (by decide)]
      refine pw_aload_n dX8_readsPart_52 rfl ?_
      refine pw_getr dX8_readsPart_53 lf_X8_30 sh_253 rfl ?_
      refine pw_aload_n dX8_readsPart_56 rfl ?_
      refine pw_geti dX8_readsPart_57 lf_X8_92 sh_253 rfl ?_
      refine pw_iload_n dX8_readsPart_60 rfl ?_
      rw [mR_13, show hput h 258 told (mn (h 257) len pos wr).1 253 13 = nI told from htold]
      refine pw_iastore dX8_readsPart_61 sh_259 (vpin (N := 4) ht4 (by decide)) ?_
      rw [nI_cl (by omega), mR_put _ _ _ _ _ (by decide)]
      refine pw_aload_n dX8_readsPart_62 rfl ?_
      refine pw_dup dX8_readsPart_63 rfl ?_
      refine pw_geti dX8_readsPart_64 lf_X8_92 sh_253 rfl ?_
      refine pw_iconst dX8_readsPart_67 (v := 1) (by decide) ?_
      refine pw_iadd dX8_readsPart_68 ?_
      rw [mR_13, show hput (hput h 258 told (mn (h 257) len pos wr).1) 259 told (mn (h 257) len (mpA (h 257) len pos wr) (mp1 (h 257) len pos wr)).1 253 13 = nI told from htold, nI_1]
      refine pw_puti dX8_readsPart_69 lf_X8_92 lp_8_13 sh_253 rfl rfl rfl ?_
      have es : mpS (h 257) len pos wr = false := b2i_eq (by rw [mR_12] at c39; exact c39)
      rw [mR_put13]
      exact pw_retF dX8_readsPart_72 rfl rfl (by rw [mpH, if_neg (by rw [es]; decide)]; rfl)
  · skip
    refine pw_aload_n dX8_readsPart_13 rfl ?_
    refine pw_bipush dX8_readsPart_14 (v := 58) (by decide) ?_
    refine pw_cV dX8_readsPart_16 (sp_X8_goesOn hlen hl40 (mn_le hl40 hp)) mi_X8_goesOn mv_X8_goesOn ml_X8_88 sh_253 rfl rfl rfl rfl ⟨rfl, rfl⟩ rfl rfl ?_
    refine pw_if_ne dX8_readsPart_19 (tgt := 26) (by decide) (fun c19 => ?_) (fun c19 => ?_)
    · skip
      refine pw_iconst dX8_readsPart_26 (v := 0) (by decide) ?_
      refine pw_puti dX8_readsPart_27 lf_X8_70 lp_8_12 sh_253 rfl rfl rfl ?_
      have ew : mnS (h 257) len pos wr = false := b2i_eq (by rw [mR_12] at c10; exact c10)
      have eg : mgB (h 257) len (mn (h 257) len pos wr).2 (mnS (h 257) len pos wr) 58 = true := b2i_ne c19
      refine pw_heq (show _ = mR h (mpA (h 257) len pos wr) (mp1 (h 257) len pos wr) from ?_) ?_
      · rw [mpA, if_neg (by rw [ew]; decide), mp1, eg, ew]; exact mR_wr _ _ _ false
      refine pw_aload_n dX8_readsPart_30 rfl ?_
      refine pw_cV dX8_readsPart_31 (sp_X8_number hlen hl40 (mpA_le hl40 hp)) mi_X8_number mv_X8_number ml_X8_84 sh_253 rfl rfl rfl rfl ⟨rfl, rfl⟩ rfl rfl ?_
      refine pw_istore_n dX8_readsPart_34 (by decide) rfl ?_
      refine pw_aload_n dX8_readsPart_35 rfl ?_
      refine pw_geti dX8_readsPart_36 lf_X8_70 sh_253 rfl ?_
      refine pw_if_ne dX8_readsPart_39 (tgt := 72) (by decide) (fun c39 => ?_) (fun c39 => ?_)
      · skip
        have es : mpS (h 257) len pos wr = true := b2i_ne (by rw [mR_12] at c39; exact c39)
        exact pw_retF dX8_readsPart_72 rfl rfl (by rw [mpH, if_pos es]; rfl)
      · skip
        refine pw_aload_n dX8_readsPart_42 rfl ?_
        refine pw_getr dX8_readsPart_43 lf_X8_27 sh_253 rfl ?_
        refine pw_aload_n dX8_readsPart_46 rfl ?_
        refine pw_geti dX8_readsPart_47 lf_X8_92 sh_253 rfl ?_
        refine pw_iload_n dX8_readsPart_50 rfl ?_
        rw [mR_13, htold]
        refine pw_iastore dX8_readsPart_51 sh_258 (vpin (N := 4) ht4 (by decide)) ?_
        rw [nI_cl (by omega), mR_put _ _ _ _ _ (by decide)]
        refine pw_aload_n dX8_readsPart_52 rfl ?_
        refine pw_getr dX8_readsPart_53 lf_X8_30 sh_253 rfl ?_
        refine pw_aload_n dX8_readsPart_56 rfl ?_
        refine pw_geti dX8_readsPart_57 lf_X8_92 sh_253 rfl ?_
        refine pw_iload_n dX8_readsPart_60 rfl ?_
        rw [mR_13, show hput h 258 told (mn (h 257) len pos wr).1 253 13 = nI told from htold]
        refine pw_iastore dX8_readsPart_61 sh_259 (vpin (N := 4) ht4 (by decide)) ?_
        rw [nI_cl (by omega), mR_put _ _ _ _ _ (by decide)]
        refine pw_aload_n dX8_readsPart_62 rfl ?_
        refine pw_dup dX8_readsPart_63 rfl ?_
        refine pw_geti dX8_readsPart_64 lf_X8_92 sh_253 rfl ?_
        refine pw_iconst dX8_readsPart_67 (v := 1) (by decide) ?_
        refine pw_iadd dX8_readsPart_68 ?_
        rw [mR_13, show hput (hput h 258 told (mn (h 257) len pos wr).1) 259 told (mn (h 257) len (mpA (h 257) len pos wr) (mp1 (h 257) len pos wr)).1 253 13 = nI told from htold, nI_1]
        refine pw_puti dX8_readsPart_69 lf_X8_92 lp_8_13 sh_253 rfl rfl rfl ?_
        have es : mpS (h 257) len pos wr = false := b2i_eq (by rw [mR_12] at c39; exact c39)
        rw [mR_put13]
        exact pw_retF dX8_readsPart_72 rfl rfl (by rw [mpH, if_neg (by rw [es]; decide)]; rfl)
    · skip
      refine pw_iconst dX8_readsPart_22 (v := 1) (by decide) ?_
      refine pw_goto dX8_readsPart_23 (tgt := 27) (by decide) ?_
      refine pw_puti dX8_readsPart_27 lf_X8_70 lp_8_12 sh_253 rfl rfl rfl ?_
      have ew : mnS (h 257) len pos wr = false := b2i_eq (by rw [mR_12] at c10; exact c10)
      have eg : mgB (h 257) len (mn (h 257) len pos wr).2 (mnS (h 257) len pos wr) 58 = false := b2i_eq c19
      refine pw_heq (show _ = mR h (mpA (h 257) len pos wr) (mp1 (h 257) len pos wr) from ?_) ?_
      · rw [mpA, if_neg (by rw [ew]; decide), mp1, eg, ew]; exact mR_wr _ _ _ true
      refine pw_aload_n dX8_readsPart_30 rfl ?_
      refine pw_cV dX8_readsPart_31 (sp_X8_number hlen hl40 (mpA_le hl40 hp)) mi_X8_number mv_X8_number ml_X8_84 sh_253 rfl rfl rfl rfl ⟨rfl, rfl⟩ rfl rfl ?_
      refine pw_istore_n dX8_readsPart_34 (by decide) rfl ?_
      refine pw_aload_n dX8_readsPart_35 rfl ?_
      refine pw_geti dX8_readsPart_36 lf_X8_70 sh_253 rfl ?_
      refine pw_if_ne dX8_readsPart_39 (tgt := 72) (by decide) (fun c39 => ?_) (fun c39 => ?_)
      · skip
        have es : mpS (h 257) len pos wr = true := b2i_ne (by rw [mR_12] at c39; exact c39)
        exact pw_retF dX8_readsPart_72 rfl rfl (by rw [mpH, if_pos es]; rfl)
      · skip
        refine pw_aload_n dX8_readsPart_42 rfl ?_
        refine pw_getr dX8_readsPart_43 lf_X8_27 sh_253 rfl ?_
        refine pw_aload_n dX8_readsPart_46 rfl ?_
        refine pw_geti dX8_readsPart_47 lf_X8_92 sh_253 rfl ?_
        refine pw_iload_n dX8_readsPart_50 rfl ?_
        rw [mR_13, htold]
        refine pw_iastore dX8_readsPart_51 sh_258 (vpin (N := 4) ht4 (by decide)) ?_
        rw [nI_cl (by omega), mR_put _ _ _ _ _ (by decide)]
        refine pw_aload_n dX8_readsPart_52 rfl ?_
        refine pw_getr dX8_readsPart_53 lf_X8_30 sh_253 rfl ?_
        refine pw_aload_n dX8_readsPart_56 rfl ?_
        refine pw_geti dX8_readsPart_57 lf_X8_92 sh_253 rfl ?_
        refine pw_iload_n dX8_readsPart_60 rfl ?_
        rw [mR_13, show hput h 258 told (mn (h 257) len pos wr).1 253 13 = nI told from htold]
        refine pw_iastore dX8_readsPart_61 sh_259 (vpin (N := 4) ht4 (by decide)) ?_
        rw [nI_cl (by omega), mR_put _ _ _ _ _ (by decide)]
        refine pw_aload_n dX8_readsPart_62 rfl ?_
        refine pw_dup dX8_readsPart_63 rfl ?_
        refine pw_geti dX8_readsPart_64 lf_X8_92 sh_253 rfl ?_
        refine pw_iconst dX8_readsPart_67 (v := 1) (by decide) ?_
        refine pw_iadd dX8_readsPart_68 ?_
        rw [mR_13, show hput (hput h 258 told (mn (h 257) len pos wr).1) 259 told (mn (h 257) len (mpA (h 257) len pos wr) (mp1 (h 257) len pos wr)).1 253 13 = nI told from htold, nI_1]
        refine pw_puti dX8_readsPart_69 lf_X8_92 lp_8_13 sh_253 rfl rfl rfl ?_
        have es : mpS (h 257) len pos wr = false := b2i_eq (by rw [mR_12] at c39; exact c39)
        rw [mR_put13]
        exact pw_retF dX8_readsPart_72 rfl rfl (by rw [mpH, if_neg (by rw [es]; decide)]; rfl)

