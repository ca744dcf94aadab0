/-! THE MODEL'S CALLS: bottle -/
def bt0 (g : HP) (nB : Nat) : HP := hput g 254 2 (nI (nB + 1))
def bt1 (g : HP) (lot nB : Nat) (q v gr s r : Int32) : HP := sB (sB (sB (sB (sB (sB (sB (bt0 g nB) nB 0 (nI lot)) nB 1 q) nB 2 q) nB 3 v) nB 4 gr) nB 5 s) nB 6 r
def btM (g : HP) (lot nB : Nat) (q v gr s r : Int32) : HP := sL (bt1 g lot nB q v gr s r) lot 1 (mL (bt1 g lot nB q v gr s r) lot 1 - 3 * q)
set_option maxRecDepth 100000 in
set_option maxHeartbeats 4000000 in
theorem sp_X8_bottle_no1 {l : Launch} {G : GC} {ad : Nat → Nat} {h : HP} {n : Int32} {q v g s r : Int32} (e : wiB n 0 (h 254 0 - 1) = false) : PF l G yX8_bottle (.code yX8_bottle cX8_bottle 9 ((Option.some FieldType.int))) { frames := 4, cells := 0, slots := 0, locals := 97 } [.ref (ad 253), .int (n), .int (q), .int (v), .int (g), .int (s), .int (r)] SW ad (h) (some (.int 0)) (faH (faH h 0) 1) := by
  refine PF.mk (L0 := [some (.ref (ad 253)), some (.int (n)), some (.int (q)), some (.int (v)), some (.int (g)), some (.int (s)), some (.int (r)), none, none]) RX8 "bottle" 0 0 (by decide +kernel) rfl rfl ⟨rfl, rfl⟩ (by simp [Value.category]) (Nat.le_of_ble_eq_true rfl) rfl ?_
  refine pw_aload_n dX8_bottle_0 rfl ?_
  refine pw_iconst dX8_bottle_1 (v := 0) (by decide) ?_
  refine pw_puti dX8_bottle_2 lf_X8_42 lp_8_5 sh_253 rfl rfl rfl ?_
  refine pw_aload_n dX8_bottle_5 rfl ?_
  refine pw_iload_n dX8_bottle_6 rfl ?_
  refine pw_cV dX8_bottle_7 (sp_X8_isLot) mi_X8_isLot mv_X8_isLot ml_X8_98 sh_253 rfl rfl rfl rfl ⟨rfl, rfl⟩ rfl rfl ?_
  refine pw_if_ne dX8_bottle_10 (tgt := 19) (by decide) (fun c10 => absurd c10 (fun q => q (b2iF e))) (fun c10 => ?_)
  refine pw_aload_n dX8_bottle_13 rfl ?_
  refine pw_iconst dX8_bottle_14 (v := 1) (by decide) ?_
  refine pw_cV dX8_bottle_15 (sp_X8_fail) mi_X8_fail mv_X8_fail ml_X8_48 sh_253 rfl rfl rfl rfl ⟨rfl, rfl⟩ rfl rfl ?_
  exact pw_iretF dX8_bottle_18 rfl rfl rfl rfl rfl

set_option maxRecDepth 100000 in
set_option maxHeartbeats 4000000 in
theorem sp_X8_bottle_no2 {l : Launch} {G : GC} {ad : Nat → Nat} {h : HP} {nL nH nB nC : Nat} {np : Nat → Nat} {pl : Nat → Nat → Nat} {lb : Nat → Nat} (hw : MW h nL nH nB nC np pl lb) {lot : Nat} (hlot : lot < nL) {q v g s r : Int32} (e : wiB q 1 3333 = false) : PF l G yX8_bottle (.code yX8_bottle cX8_bottle 9 ((Option.some FieldType.int))) { frames := 4, cells := 0, slots := 0, locals := 97 } [.ref (ad 253), .int (nI lot), .int (q), .int (v), .int (g), .int (s), .int (r)] SW ad (h) (some (.int 0)) (faH (faH h 0) 2) := by
  refine PF.mk (L0 := [some (.ref (ad 253)), some (.int (nI lot)), some (.int (q)), some (.int (v)), some (.int (g)), some (.int (s)), some (.int (r)), none, none]) RX8 "bottle" 0 0 (by decide +kernel) rfl rfl ⟨rfl, rfl⟩ (by simp [Value.category]) (Nat.le_of_ble_eq_true rfl) rfl ?_
  have hwf : MW (hput h 253 5 0) nL nH nB nC np pl lb := MW_o hw (hput_ne h 5 0 (by decide))
  have hb1 := hw.1.2
  have hb2 := hw.2.1.2
  have hb3 := hw.2.2.1.2
  have hb4 := hw.2.2.2.1.2
  have hlot24 : lot < 24 := by omega
  refine pw_aload_n dX8_bottle_0 rfl ?_
  refine pw_iconst dX8_bottle_1 (v := 0) (by decide) ?_
  refine pw_puti dX8_bottle_2 lf_X8_42 lp_8_5 sh_253 rfl rfl rfl ?_
  refine pw_aload_n dX8_bottle_5 rfl ?_
  refine pw_iload_n dX8_bottle_6 rfl ?_
  refine pw_cV dX8_bottle_7 (sp_X8_isLot) mi_X8_isLot mv_X8_isLot ml_X8_98 sh_253 rfl rfl rfl rfl ⟨rfl, rfl⟩ rfl rfl ?_
  refine pw_if_ne dX8_bottle_10 (tgt := 19) (by decide) (fun c10 => ?_) (fun c10 => absurd c10 (b2iT (show wiB (nI lot) 0 (h 254 0 - 1) = true from wi_ok hw.1.1 hlot (by have := hw.1.2; omega))))
  refine pw_iload_n dX8_bottle_19 rfl ?_
  refine pw_iconst dX8_bottle_20 (v := 1) (by decide) ?_
  refine pw_sipush dX8_bottle_21 (v := 3333) (by decide) ?_
  refine pw_cS dX8_bottle_24 (sp_X8_isIn) mi_X8_isIn ms_X8_isIn ml_X8_55 rfl rfl ⟨rfl, rfl⟩ rfl rfl ?_
  refine pw_if_eq dX8_bottle_27 (tgt := 43) (by decide) (fun c27 => ?_) (fun c27 => absurd c27 (fun q => q (b2iF e)))
  refine pw_aload_n dX8_bottle_43 rfl ?_
  refine pw_iconst dX8_bottle_44 (v := 2) (by decide) ?_
  refine pw_cV dX8_bottle_45 (sp_X8_fail) mi_X8_fail mv_X8_fail ml_X8_48 sh_253 rfl rfl rfl rfl ⟨rfl, rfl⟩ rfl rfl ?_
  exact pw_iretF dX8_bottle_48 rfl rfl rfl rfl rfl

set_option maxRecDepth 100000 in
set_option maxHeartbeats 4000000 in
theorem sp_X8_bottle_no3 {l : Launch} {G : GC} {ad : Nat → Nat} {h : HP} {nL nH nB nC : Nat} {np : Nat → Nat} {pl : Nat → Nat → Nat} {lb : Nat → Nat} (hw : MW h nL nH nB nC np pl lb) {lot : Nat} (hlot : lot < nL) {q v g s r : Int32} (e : wiB q 1 3333 = true) (e2 : lbB v g s r = false) : PF l G yX8_bottle (.code yX8_bottle cX8_bottle 9 ((Option.some FieldType.int))) { frames := 4, cells := 0, slots := 0, locals := 97 } [.ref (ad 253), .int (nI lot), .int (q), .int (v), .int (g), .int (s), .int (r)] SW ad (h) (some (.int 0)) (faH (faH h 0) 2) := by
  refine PF.mk (L0 := [some (.ref (ad 253)), some (.int (nI lot)), some (.int (q)), some (.int (v)), some (.int (g)), some (.int (s)), some (.int (r)), none, none]) RX8 "bottle" 0 0 (by decide +kernel) rfl rfl ⟨rfl, rfl⟩ (by simp [Value.category]) (Nat.le_of_ble_eq_true rfl) rfl ?_
  have hwf : MW (hput h 253 5 0) nL nH nB nC np pl lb := MW_o hw (hput_ne h 5 0 (by decide))
  have hb1 := hw.1.2
  have hb2 := hw.2.1.2
  have hb3 := hw.2.2.1.2
  have hb4 := hw.2.2.2.1.2
  have hlot24 : lot < 24 := by omega
  refine pw_aload_n dX8_bottle_0 rfl ?_
  refine pw_iconst dX8_bottle_1 (v := 0) (by decide) ?_
  refine pw_puti dX8_bottle_2 lf_X8_42 lp_8_5 sh_253 rfl rfl rfl ?_
  refine pw_aload_n dX8_bottle_5 rfl ?_
  refine pw_iload_n dX8_bottle_6 rfl ?_
  refine pw_cV dX8_bottle_7 (sp_X8_isLot) mi_X8_isLot mv_X8_isLot ml_X8_98 sh_253 rfl rfl rfl rfl ⟨rfl, rfl⟩ rfl rfl ?_
  refine pw_if_ne dX8_bottle_10 (tgt := 19) (by decide) (fun c10 => ?_) (fun c10 => absurd c10 (b2iT (show wiB (nI lot) 0 (h 254 0 - 1) = true from wi_ok hw.1.1 hlot (by have := hw.1.2; omega))))
  refine pw_iload_n dX8_bottle_19 rfl ?_
  refine pw_iconst dX8_bottle_20 (v := 1) (by decide) ?_
  refine pw_sipush dX8_bottle_21 (v := 3333) (by decide) ?_
  refine pw_cS dX8_bottle_24 (sp_X8_isIn) mi_X8_isIn ms_X8_isIn ml_X8_55 rfl rfl ⟨rfl, rfl⟩ rfl rfl ?_
  refine pw_if_eq dX8_bottle_27 (tgt := 43) (by decide) (fun c27 => absurd c27 (b2iT e)) (fun c27 => ?_)
  refine pw_iload_n dX8_bottle_30 rfl ?_
  refine pw_iload dX8_bottle_31 rfl ?_
  refine pw_iload dX8_bottle_33 rfl ?_
  refine pw_iload dX8_bottle_35 rfl ?_
  refine pw_cS dX8_bottle_37 (sp_X8_isLabel) mi_X8_isLabel ms_X8_isLabel ml_X8_158 rfl rfl ⟨rfl, rfl⟩ rfl rfl ?_
  refine pw_if_ne dX8_bottle_40 (tgt := 49) (by decide) (fun c40 => absurd c40 (fun q => q (b2iF e2))) (fun c40 => ?_)
  refine pw_aload_n dX8_bottle_43 rfl ?_
  refine pw_iconst dX8_bottle_44 (v := 2) (by decide) ?_
  refine pw_cV dX8_bottle_45 (sp_X8_fail) mi_X8_fail mv_X8_fail ml_X8_48 sh_253 rfl rfl rfl rfl ⟨rfl, rfl⟩ rfl rfl ?_
  exact pw_iretF dX8_bottle_48 rfl rfl rfl rfl rfl

set_option maxRecDepth 100000 in
set_option maxHeartbeats 4000000 in
theorem sp_X8_bottle_ref5 {l : Launch} {G : GC} {ad : Nat → Nat} {h : HP} {nL nH nB nC : Nat} {np : Nat → Nat} {pl : Nat → Nat → Nat} {lb : Nat → Nat} (hw : MW h nL nH nB nC np pl lb) {lot : Nat} (hlot : lot < nL) {q v g s r : Int32}(e : wiB q 1 3333 = true) (e2 : lbB v g s r = true) (e3 : ¬ 3 * q ≤ mL h lot 1) : PF l G yX8_bottle (.code yX8_bottle cX8_bottle 9 ((Option.some FieldType.int))) { frames := 4, cells := 0, slots := 0, locals := 97 } [.ref (ad 253), .int (nI lot), .int (q), .int (v), .int (g), .int (s), .int (r)] SW ad (h) (some (.int 0)) (faH (hput (hput h 253 5 0) 253 6 (5)) 3) := by
  refine PF.mk (L0 := [some (.ref (ad 253)), some (.int (nI lot)), some (.int (q)), some (.int (v)), some (.int (g)), some (.int (s)), some (.int (r)), none, none]) RX8 "bottle" 0 0 (by decide +kernel) rfl rfl ⟨rfl, rfl⟩ (by simp [Value.category]) (Nat.le_of_ble_eq_true rfl) rfl ?_
  have hwf : MW (hput h 253 5 0) nL nH nB nC np pl lb := MW_o hw (hput_ne h 5 0 (by decide))
  have hb1 := hw.1.2
  have hb2 := hw.2.1.2
  have hb3 := hw.2.2.1.2
  have hb4 := hw.2.2.2.1.2
  have hlot24 : lot < 24 := by omega
  refine pw_aload_n dX8_bottle_0 rfl ?_
  refine pw_iconst dX8_bottle_1 (v := 0) (by decide) ?_
  refine pw_puti dX8_bottle_2 lf_X8_42 lp_8_5 sh_253 rfl rfl rfl ?_
  refine pw_aload_n dX8_bottle_5 rfl ?_
  refine pw_iload_n dX8_bottle_6 rfl ?_
  refine pw_cV dX8_bottle_7 (sp_X8_isLot) mi_X8_isLot mv_X8_isLot ml_X8_98 sh_253 rfl rfl rfl rfl ⟨rfl, rfl⟩ rfl rfl ?_
  refine pw_if_ne dX8_bottle_10 (tgt := 19) (by decide) (fun c10 => ?_) (fun c10 => absurd c10 (b2iT (show wiB (nI lot) 0 (h 254 0 - 1) = true from wi_ok hw.1.1 hlot (by have := hw.1.2; omega))))
  refine pw_iload_n dX8_bottle_19 rfl ?_
  refine pw_iconst dX8_bottle_20 (v := 1) (by decide) ?_
  refine pw_sipush dX8_bottle_21 (v := 3333) (by decide) ?_
  refine pw_cS dX8_bottle_24 (sp_X8_isIn) mi_X8_isIn ms_X8_isIn ml_X8_55 rfl rfl ⟨rfl, rfl⟩ rfl rfl ?_
  refine pw_if_eq dX8_bottle_27 (tgt := 43) (by decide) (fun c27 => absurd c27 (b2iT e)) (fun c27 => ?_)
  refine pw_iload_n dX8_bottle_30 rfl ?_
  refine pw_iload dX8_bottle_31 rfl ?_
  refine pw_iload dX8_bottle_33 rfl ?_
  refine pw_iload dX8_bottle_35 rfl ?_
  refine pw_cS dX8_bottle_37 (sp_X8_isLabel) mi_X8_isLabel ms_X8_isLabel ml_X8_158 rfl rfl ⟨rfl, rfl⟩ rfl rfl ?_
  refine pw_if_ne dX8_bottle_40 (tgt := 49) (by decide) (fun c40 => ?_) (fun c40 => absurd c40 (b2iT e2))
  refine pw_aload_n dX8_bottle_49 rfl ?_
  refine pw_iload_n dX8_bottle_50 rfl ?_
  refine pw_iconst dX8_bottle_51 (v := 1) (by decide) ?_
  refine pw_cV dX8_bottle_52 (sp_X8_l (lot := lot) (k := 1) (by omega)) mi_X8_l mv_X8_l ml_X8_102 sh_253 rfl rfl rfl rfl ⟨rfl, rfl⟩ rfl rfl ?_
  refine pw_iconst dX8_bottle_55 (v := 3) (by decide) ?_
  refine pw_iload_n dX8_bottle_56 rfl ?_
  refine pw_imul dX8_bottle_57 ?_
  refine pw_icmp_ge dX8_bottle_58 (tgt := 65) (by decide) (fun c58 => absurd c58 (e3)) (fun c58 => ?_)
  refine pw_iconst dX8_bottle_61 (v := 5) (by decide) ?_
  refine pw_goto dX8_bottle_62 (tgt := 77) (by decide) ?_
  refine pw_istore dX8_bottle_77 (by decide) rfl ?_
  refine pw_iload dX8_bottle_79 rfl ?_
  refine pw_if_ne dX8_bottle_81 (tgt := 99) (by decide) (fun c81 => ?_) (fun c81 => absurd c81 ((show ¬ (5 : Int32) = 0 from by decide)))
  refine pw_iload dX8_bottle_99 rfl ?_
  refine pw_if_eq dX8_bottle_101 (tgt := 112) (by decide) (fun c101 => absurd c101 ((show ¬ (5 : Int32) = 0 from by decide))) (fun c101 => ?_)
  refine pw_aload_n dX8_bottle_104 rfl ?_
  refine pw_iconst dX8_bottle_105 (v := 3) (by decide) ?_
  refine pw_iload dX8_bottle_106 rfl ?_
  refine pw_cV dX8_bottle_108 (sp_X8_refuse) mi_X8_refuse mv_X8_refuse ml_X8_127 sh_253 rfl rfl rfl rfl ⟨rfl, rfl⟩ rfl rfl ?_
  exact pw_iretF dX8_bottle_111 rfl rfl rfl rfl rfl

set_option maxRecDepth 100000 in
set_option maxHeartbeats 4000000 in
theorem sp_X8_bottle_refL {l : Launch} {G : GC} {ad : Nat → Nat} {h : HP} {nL nH nB nC : Nat} {np : Nat → Nat} {pl : Nat → Nat → Nat} {lb : Nat → Nat} (hw : MW h nL nH nB nC np pl lb) {lot : Nat} (hlot : lot < nL) {q v g s r : Int32}(e : wiB q 1 3333 = true) (e2 : lbB v g s r = true) (e3 : 3 * q ≤ mL h lot 1) (e4 : ¬ fbM h lot nH v g s r = 0) : PF l G yX8_bottle (.code yX8_bottle cX8_bottle 9 ((Option.some FieldType.int))) { frames := 4, cells := 0, slots := 0, locals := 97 } [.ref (ad 253), .int (nI lot), .int (q), .int (v), .int (g), .int (s), .int (r)] SW ad (h) (some (.int 0)) (faH (hput (hput h 253 5 0) 253 6 (fbM h lot nH v g s r)) 3) := by
  refine PF.mk (L0 := [some (.ref (ad 253)), some (.int (nI lot)), some (.int (q)), some (.int (v)), some (.int (g)), some (.int (s)), some (.int (r)), none, none]) RX8 "bottle" 0 0 (by decide +kernel) rfl rfl ⟨rfl, rfl⟩ (by simp [Value.category]) (Nat.le_of_ble_eq_true rfl) rfl ?_
  have hwf : MW (hput h 253 5 0) nL nH nB nC np pl lb := MW_o hw (hput_ne h 5 0 (by decide))
  have hb1 := hw.1.2
  have hb2 := hw.2.1.2
  have hb3 := hw.2.2.1.2
  have hb4 := hw.2.2.2.1.2
  have hlot24 : lot < 24 := by omega
  refine pw_aload_n dX8_bottle_0 rfl ?_
  refine pw_iconst dX8_bottle_1 (v := 0) (by decide) ?_
  refine pw_puti dX8_bottle_2 lf_X8_42 lp_8_5 sh_253 rfl rfl rfl ?_
  refine pw_aload_n dX8_bottle_5 rfl ?_
  refine pw_iload_n dX8_bottle_6 rfl ?_
  refine pw_cV dX8_bottle_7 (sp_X8_isLot) mi_X8_isLot mv_X8_isLot ml_X8_98 sh_253 rfl rfl rfl rfl ⟨rfl, rfl⟩ rfl rfl ?_
  refine pw_if_ne dX8_bottle_10 (tgt := 19) (by decide) (fun c10 => ?_) (fun c10 => absurd c10 (b2iT (show wiB (nI lot) 0 (h 254 0 - 1) = true from wi_ok hw.1.1 hlot (by have := hw.1.2; omega))))
  refine pw_iload_n dX8_bottle_19 rfl ?_
  refine pw_iconst dX8_bottle_20 (v := 1) (by decide) ?_
  refine pw_sipush dX8_bottle_21 (v := 3333) (by decide) ?_
  refine pw_cS dX8_bottle_24 (sp_X8_isIn) mi_X8_isIn ms_X8_isIn ml_X8_55 rfl rfl ⟨rfl, rfl⟩ rfl rfl ?_
  refine pw_if_eq dX8_bottle_27 (tgt := 43) (by decide) (fun c27 => absurd c27 (b2iT e)) (fun c27 => ?_)
  refine pw_iload_n dX8_bottle_30 rfl ?_
  refine pw_iload dX8_bottle_31 rfl ?_
  refine pw_iload dX8_bottle_33 rfl ?_
  refine pw_iload dX8_bottle_35 rfl ?_
  refine pw_cS dX8_bottle_37 (sp_X8_isLabel) mi_X8_isLabel ms_X8_isLabel ml_X8_158 rfl rfl ⟨rfl, rfl⟩ rfl rfl ?_
  refine pw_if_ne dX8_bottle_40 (tgt := 49) (by decide) (fun c40 => ?_) (fun c40 => absurd c40 (b2iT e2))
  refine pw_aload_n dX8_bottle_49 rfl ?_
  refine pw_iload_n dX8_bottle_50 rfl ?_
  refine pw_iconst dX8_bottle_51 (v := 1) (by decide) ?_
  refine pw_cV dX8_bottle_52 (sp_X8_l (lot := lot) (k := 1) (by omega)) mi_X8_l mv_X8_l ml_X8_102 sh_253 rfl rfl rfl rfl ⟨rfl, rfl⟩ rfl rfl ?_
  refine pw_iconst dX8_bottle_55 (v := 3) (by decide) ?_
  refine pw_iload_n dX8_bottle_56 rfl ?_
  refine pw_imul dX8_bottle_57 ?_
  refine pw_icmp_ge dX8_bottle_58 (tgt := 65) (by decide) (fun c58 => ?_) (fun c58 => absurd c58 (fun q => q e3))
  refine pw_aload_n dX8_bottle_65 rfl ?_
  refine pw_iload_n dX8_bottle_66 rfl ?_
  refine pw_iload_n dX8_bottle_67 rfl ?_
  refine pw_iload dX8_bottle_68 rfl ?_
  refine pw_iload dX8_bottle_70 rfl ?_
  refine pw_iload dX8_bottle_72 rfl ?_
  refine pw_cV dX8_bottle_74 (sp_X8_forbidding hwf hlot24) mi_X8_forbidding mv_X8_forbidding ml_X8_162 sh_253 rfl rfl rfl rfl ⟨rfl, rfl⟩ rfl rfl ?_
  refine pw_istore dX8_bottle_77 (by decide) rfl ?_
  refine pw_iload dX8_bottle_79 rfl ?_
  refine pw_if_ne dX8_bottle_81 (tgt := 99) (by decide) (fun c81 => ?_) (fun c81 => absurd c81 (e4))
  refine pw_iload dX8_bottle_99 rfl ?_
  refine pw_if_eq dX8_bottle_101 (tgt := 112) (by decide) (fun c101 => absurd c101 (e4)) (fun c101 => ?_)
  refine pw_aload_n dX8_bottle_104 rfl ?_
  refine pw_iconst dX8_bottle_105 (v := 3) (by decide) ?_
  refine pw_iload dX8_bottle_106 rfl ?_
  refine pw_cV dX8_bottle_108 (sp_X8_refuse) mi_X8_refuse mv_X8_refuse ml_X8_127 sh_253 rfl rfl rfl rfl ⟨rfl, rfl⟩ rfl rfl ?_
  exact pw_iretF dX8_bottle_111 rfl rfl rfl rfl rfl

set_option maxRecDepth 100000 in
set_option maxHeartbeats 4000000 in
theorem sp_X8_bottle_ref9 {l : Launch} {G : GC} {ad : Nat → Nat} {h : HP} {nL nH nB nC : Nat} {np : Nat → Nat} {pl : Nat → Nat → Nat} {lb : Nat → Nat} (hw : MW h nL nH nB nC np pl lb) {lot : Nat} (hlot : lot < nL) {q v g s r : Int32}(e : wiB q 1 3333 = true) (e2 : lbB v g s r = true) (e3 : 3 * q ≤ mL h lot 1) (e4 : fbM h lot nH v g s r = 0) (e5 : h 254 2 = 16) : PF l G yX8_bottle (.code yX8_bottle cX8_bottle 9 ((Option.some FieldType.int))) { frames := 4, cells := 0, slots := 0, locals := 97 } [.ref (ad 253), .int (nI lot), .int (q), .int (v), .int (g), .int (s), .int (r)] SW ad (h) (some (.int 0)) (faH (hput (hput h 253 5 0) 253 6 (9)) 3) := by
  refine PF.mk (L0 := [some (.ref (ad 253)), some (.int (nI lot)), some (.int (q)), some (.int (v)), some (.int (g)), some (.int (s)), some (.int (r)), none, none]) RX8 "bottle" 0 0 (by decide +kernel) rfl rfl ⟨rfl, rfl⟩ (by simp [Value.category]) (Nat.le_of_ble_eq_true rfl) rfl ?_
  have hwf : MW (hput h 253 5 0) nL nH nB nC np pl lb := MW_o hw (hput_ne h 5 0 (by decide))
  have hb1 := hw.1.2
  have hb2 := hw.2.1.2
  have hb3 := hw.2.2.1.2
  have hb4 := hw.2.2.2.1.2
  have hlot24 : lot < 24 := by omega
  refine pw_aload_n dX8_bottle_0 rfl ?_
  refine pw_iconst dX8_bottle_1 (v := 0) (by decide) ?_
  refine pw_puti dX8_bottle_2 lf_X8_42 lp_8_5 sh_253 rfl rfl rfl ?_
  refine pw_aload_n dX8_bottle_5 rfl ?_
  refine pw_iload_n dX8_bottle_6 rfl ?_
  refine pw_cV dX8_bottle_7 (sp_X8_isLot) mi_X8_isLot mv_X8_isLot ml_X8_98 sh_253 rfl rfl rfl rfl ⟨rfl, rfl⟩ rfl rfl ?_
  refine pw_if_ne dX8_bottle_10 (tgt := 19) (by decide) (fun c10 => ?_) (fun c10 => absurd c10 (b2iT (show wiB (nI lot) 0 (h 254 0 - 1) = true from wi_ok hw.1.1 hlot (by have := hw.1.2; omega))))
  refine pw_iload_n dX8_bottle_19 rfl ?_
  refine pw_iconst dX8_bottle_20 (v := 1) (by decide) ?_
  refine pw_sipush dX8_bottle_21 (v := 3333) (by decide) ?_
  refine pw_cS dX8_bottle_24 (sp_X8_isIn) mi_X8_isIn ms_X8_isIn ml_X8_55 rfl rfl ⟨rfl, rfl⟩ rfl rfl ?_
  refine pw_if_eq dX8_bottle_27 (tgt := 43) (by decide) (fun c27 => absurd c27 (b2iT e)) (fun c27 => ?_)
  refine pw_iload_n dX8_bottle_30 rfl ?_
  refine pw_iload dX8_bottle_31 rfl ?_
  refine pw_iload dX8_bottle_33 rfl ?_
  refine pw_iload dX8_bottle_35 rfl ?_
  refine pw_cS dX8_bottle_37 (sp_X8_isLabel) mi_X8_isLabel ms_X8_isLabel ml_X8_158 rfl rfl ⟨rfl, rfl⟩ rfl rfl ?_
  refine pw_if_ne dX8_bottle_40 (tgt := 49) (by decide) (fun c40 => ?_) (fun c40 => absurd c40 (b2iT e2))
  refine pw_aload_n dX8_bottle_49 rfl ?_
  refine pw_iload_n dX8_bottle_50 rfl ?_
  refine pw_iconst dX8_bottle_51 (v := 1) (by decide) ?_
  refine pw_cV dX8_bottle_52 (sp_X8_l (lot := lot) (k := 1) (by omega)) mi_X8_l mv_X8_l ml_X8_102 sh_253 rfl rfl rfl rfl ⟨rfl, rfl⟩ rfl rfl ?_
  refine pw_iconst dX8_bottle_55 (v := 3) (by decide) ?_
  refine pw_iload_n dX8_bottle_56 rfl ?_
  refine pw_imul dX8_bottle_57 ?_
  refine pw_icmp_ge dX8_bottle_58 (tgt := 65) (by decide) (fun c58 => ?_) (fun c58 => absurd c58 (fun q => q e3))
  refine pw_aload_n dX8_bottle_65 rfl ?_
  refine pw_iload_n dX8_bottle_66 rfl ?_
  refine pw_iload_n dX8_bottle_67 rfl ?_
  refine pw_iload dX8_bottle_68 rfl ?_
  refine pw_iload dX8_bottle_70 rfl ?_
  refine pw_iload dX8_bottle_72 rfl ?_
  refine pw_cV dX8_bottle_74 (sp_X8_forbidding hwf hlot24) mi_X8_forbidding mv_X8_forbidding ml_X8_162 sh_253 rfl rfl rfl rfl ⟨rfl, rfl⟩ rfl rfl ?_
  refine pw_istore dX8_bottle_77 (by decide) rfl ?_
  refine pw_iload dX8_bottle_79 rfl ?_
  refine pw_if_ne dX8_bottle_81 (tgt := 99) (by decide) (fun c81 => absurd c81 (fun q => q e4)) (fun c81 => ?_)
  refine pw_aload_n dX8_bottle_84 rfl ?_
  refine pw_getr dX8_bottle_85 lf_X8_9 sh_253 rfl ?_
  refine pw_iconst dX8_bottle_88 (v := 2) (by decide) ?_
  refine pw_iaload dX8_bottle_89 sh_254 (vpin (n := 2) (N := 1032) (by decide) (by decide)) ?_
  refine pw_bipush dX8_bottle_90 (v := 16) (by decide) ?_
  refine pw_icmp_ne dX8_bottle_92 (tgt := 99) (by decide) (fun c92 => absurd c92 (fun q => q e5)) (fun c92 => ?_)
  refine pw_bipush dX8_bottle_95 (v := 9) (by decide) ?_
  refine pw_istore dX8_bottle_97 (by decide) rfl ?_
  refine pw_iload dX8_bottle_99 rfl ?_
  refine pw_if_eq dX8_bottle_101 (tgt := 112) (by decide) (fun c101 => absurd c101 ((show ¬ (9 : Int32) = 0 from by decide))) (fun c101 => ?_)
  refine pw_aload_n dX8_bottle_104 rfl ?_
  refine pw_iconst dX8_bottle_105 (v := 3) (by decide) ?_
  refine pw_iload dX8_bottle_106 rfl ?_
  refine pw_cV dX8_bottle_108 (sp_X8_refuse) mi_X8_refuse mv_X8_refuse ml_X8_127 sh_253 rfl rfl rfl rfl ⟨rfl, rfl⟩ rfl rfl ?_
  exact pw_iretF dX8_bottle_111 rfl rfl rfl rfl rfl

set_option maxRecDepth 100000 in
set_option maxHeartbeats 4000000 in
theorem sp_X8_bottle_ok {l : Launch} {G : GC} {ad : Nat → Nat} {h : HP} {nL nH nB nC : Nat} {np : Nat → Nat} {pl : Nat → Nat → Nat} {lb : Nat → Nat} (hw : MW h nL nH nB nC np pl lb) {lot : Nat} (hlot : lot < nL) {q v g s r : Int32}(e : wiB q 1 3333 = true) (e2 : lbB v g s r = true) (e3 : 3 * q ≤ mL h lot 1) (e4 : fbM h lot nH v g s r = 0) (e5 : ¬ h 254 2 = 16) {h3 : HP} (hrem : PF l G yX8_remember (.code yX8_remember cX8_remember 2 ((Option.none : Option FieldType))) { frames := 0, cells := 0, slots := 0, locals := 0 } [.ref (ad 253)] SW ad (hput h 253 5 0) (none) (h3)) {nB3 : Nat} (hB3 : h3 254 2 = nI nB3) (hB16 : nB3 < 16) : PF l G yX8_bottle (.code yX8_bottle cX8_bottle 9 ((Option.some FieldType.int))) { frames := 4, cells := 0, slots := 0, locals := 97 } [.ref (ad 253), .int (nI lot), .int (q), .int (v), .int (g), .int (s), .int (r)] SW ad (h) (some (.int (nI nB3))) (btM h3 lot nB3 q v g s r) := by
  refine PF.mk (L0 := [some (.ref (ad 253)), some (.int (nI lot)), some (.int (q)), some (.int (v)), some (.int (g)), some (.int (s)), some (.int (r)), none, none]) RX8 "bottle" 0 0 (by decide +kernel) rfl rfl ⟨rfl, rfl⟩ (by simp [Value.category]) (Nat.le_of_ble_eq_true rfl) rfl ?_
  have hwf : MW (hput h 253 5 0) nL nH nB nC np pl lb := MW_o hw (hput_ne h 5 0 (by decide))
  have hb1 := hw.1.2
  have hb2 := hw.2.1.2
  have hb3 := hw.2.2.1.2
  have hb4 := hw.2.2.2.1.2
  have hlot24 : lot < 24 := by omega
  refine pw_aload_n dX8_bottle_0 rfl ?_
  refine pw_iconst dX8_bottle_1 (v := 0) (by decide) ?_
  refine pw_puti dX8_bottle_2 lf_X8_42 lp_8_5 sh_253 rfl rfl rfl ?_
  refine pw_aload_n dX8_bottle_5 rfl ?_
  refine pw_iload_n dX8_bottle_6 rfl ?_
  refine pw_cV dX8_bottle_7 (sp_X8_isLot) mi_X8_isLot mv_X8_isLot ml_X8_98 sh_253 rfl rfl rfl rfl ⟨rfl, rfl⟩ rfl rfl ?_
  refine pw_if_ne dX8_bottle_10 (tgt := 19) (by decide) (fun c10 => ?_) (fun c10 => absurd c10 (b2iT (show wiB (nI lot) 0 (h 254 0 - 1) = true from wi_ok hw.1.1 hlot (by have := hw.1.2; omega))))
  refine pw_iload_n dX8_bottle_19 rfl ?_
  refine pw_iconst dX8_bottle_20 (v := 1) (by decide) ?_
  refine pw_sipush dX8_bottle_21 (v := 3333) (by decide) ?_
  refine pw_cS dX8_bottle_24 (sp_X8_isIn) mi_X8_isIn ms_X8_isIn ml_X8_55 rfl rfl ⟨rfl, rfl⟩ rfl rfl ?_
  refine pw_if_eq dX8_bottle_27 (tgt := 43) (by decide) (fun c27 => absurd c27 (b2iT e)) (fun c27 => ?_)
  refine pw_iload_n dX8_bottle_30 rfl ?_
  refine pw_iload dX8_bottle_31 rfl ?_
  refine pw_iload dX8_bottle_33 rfl ?_
  refine pw_iload dX8_bottle_35 rfl ?_
  refine pw_cS dX8_bottle_37 (sp_X8_isLabel) mi_X8_isLabel ms_X8_isLabel ml_X8_158 rfl rfl ⟨rfl, rfl⟩ rfl rfl ?_
  refine pw_if_ne dX8_bottle_40 (tgt := 49) (by decide) (fun c40 => ?_) (fun c40 => absurd c40 (b2iT e2))
  refine pw_aload_n dX8_bottle_49 rfl ?_
  refine pw_iload_n dX8_bottle_50 rfl ?_
  refine pw_iconst dX8_bottle_51 (v := 1) (by decide) ?_
  refine pw_cV dX8_bottle_52 (sp_X8_l (lot := lot) (k := 1) (by omega)) mi_X8_l mv_X8_l ml_X8_102 sh_253 rfl rfl rfl rfl ⟨rfl, rfl⟩ rfl rfl ?_
  refine pw_iconst dX8_bottle_55 (v := 3) (by decide) ?_
  refine pw_iload_n dX8_bottle_56 rfl ?_
  refine pw_imul dX8_bottle_57 ?_
  refine pw_icmp_ge dX8_bottle_58 (tgt := 65) (by decide) (fun c58 => ?_) (fun c58 => absurd c58 (fun q => q e3))
  refine pw_aload_n dX8_bottle_65 rfl ?_
  refine pw_iload_n dX8_bottle_66 rfl ?_
  refine pw_iload_n dX8_bottle_67 rfl ?_
  refine pw_iload dX8_bottle_68 rfl ?_
  refine pw_iload dX8_bottle_70 rfl ?_
  refine pw_iload dX8_bottle_72 rfl ?_
  refine pw_cV dX8_bottle_74 (sp_X8_forbidding hwf hlot24) mi_X8_forbidding mv_X8_forbidding ml_X8_162 sh_253 rfl rfl rfl rfl ⟨rfl, rfl⟩ rfl rfl ?_
  refine pw_istore dX8_bottle_77 (by decide) rfl ?_
  refine pw_iload dX8_bottle_79 rfl ?_
  refine pw_if_ne dX8_bottle_81 (tgt := 99) (by decide) (fun c81 => absurd c81 (fun q => q e4)) (fun c81 => ?_)
  refine pw_aload_n dX8_bottle_84 rfl ?_
  refine pw_getr dX8_bottle_85 lf_X8_9 sh_253 rfl ?_
  refine pw_iconst dX8_bottle_88 (v := 2) (by decide) ?_
  refine pw_iaload dX8_bottle_89 sh_254 (vpin (n := 2) (N := 1032) (by decide) (by decide)) ?_
  refine pw_bipush dX8_bottle_90 (v := 16) (by decide) ?_
  refine pw_icmp_ne dX8_bottle_92 (tgt := 99) (by decide) (fun c92 => ?_) (fun c92 => absurd c92 (e5))
  refine pw_iload dX8_bottle_99 rfl ?_
  refine pw_if_eq dX8_bottle_101 (tgt := 112) (by decide) (fun c101 => ?_) (fun c101 => absurd c101 (fun q => q e4))
  refine pw_aload_n dX8_bottle_112 rfl ?_
  refine pw_cVn dX8_bottle_113 (hrem) mi_X8_remember mv_X8_remember ml_X8_63 sh_253 rfl rfl rfl rfl ⟨rfl, rfl⟩ rfl rfl ?_
  refine pw_aload_n dX8_bottle_116 rfl ?_
  refine pw_getr dX8_bottle_117 lf_X8_9 sh_253 rfl ?_
  refine pw_iconst dX8_bottle_120 (v := 2) (by decide) ?_
  refine pw_iaload dX8_bottle_121 sh_254 (vpin (n := 2) (N := 1032) (by decide) (by decide)) ?_
  rw [show h3 254 (Int32.toNatClampNeg 2) = nI nB3 from hB3]
  refine pw_istore dX8_bottle_122 (by decide) rfl ?_
  refine pw_aload_n dX8_bottle_124 rfl ?_
  refine pw_getr dX8_bottle_125 lf_X8_9 sh_253 rfl ?_
  refine pw_iconst dX8_bottle_128 (v := 2) (by decide) ?_
  refine pw_dup2 dX8_bottle_129 rfl rfl ?_
  refine pw_iaload dX8_bottle_130 sh_254 (vpin (n := 2) (N := 1032) (by decide) (by decide)) ?_
  rw [show h3 254 (Int32.toNatClampNeg 2) = nI nB3 from hB3]
  refine pw_iconst dX8_bottle_131 (v := 1) (by decide) ?_
  refine pw_iadd dX8_bottle_132 ?_
  rw [nI_1]
  refine pw_iastore dX8_bottle_133 sh_254 (vpin (n := 2) (N := 1032) (by decide) (by decide)) ?_
  refine pw_heq (show _ = bt0 h3 nB3 from rfl) ?_
  refine pw_aload_n dX8_bottle_134 rfl ?_
  refine pw_iload dX8_bottle_135 rfl ?_
  refine pw_iconst dX8_bottle_137 (v := 0) (by decide) ?_
  refine pw_iload_n dX8_bottle_138 rfl ?_
  refine pw_cVn dX8_bottle_139 (sp_X8_setB (b := nB3) (k := 0) (by omega)) mi_X8_setB mv_X8_setB ml_X8_166 sh_253 rfl rfl rfl rfl ⟨rfl, rfl⟩ rfl rfl ?_
  refine pw_aload_n dX8_bottle_142 rfl ?_
  refine pw_iload dX8_bottle_143 rfl ?_
  refine pw_iconst dX8_bottle_145 (v := 1) (by decide) ?_
  refine pw_iload_n dX8_bottle_146 rfl ?_
  refine pw_cVn dX8_bottle_147 (sp_X8_setB (b := nB3) (k := 1) (by omega)) mi_X8_setB mv_X8_setB ml_X8_166 sh_253 rfl rfl rfl rfl ⟨rfl, rfl⟩ rfl rfl ?_
  refine pw_aload_n dX8_bottle_150 rfl ?_
  refine pw_iload dX8_bottle_151 rfl ?_
  refine pw_iconst dX8_bottle_153 (v := 2) (by decide) ?_
  refine pw_iload_n dX8_bottle_154 rfl ?_
  refine pw_cVn dX8_bottle_155 (sp_X8_setB (b := nB3) (k := 2) (by omega)) mi_X8_setB mv_X8_setB ml_X8_166 sh_253 rfl rfl rfl rfl ⟨rfl, rfl⟩ rfl rfl ?_
  refine pw_aload_n dX8_bottle_158 rfl ?_
  refine pw_iload dX8_bottle_159 rfl ?_
  refine pw_iconst dX8_bottle_161 (v := 3) (by decide) ?_
  refine pw_iload_n dX8_bottle_162 rfl ?_
  refine pw_cVn dX8_bottle_163 (sp_X8_setB (b := nB3) (k := 3) (by omega)) mi_X8_setB mv_X8_setB ml_X8_166 sh_253 rfl rfl rfl rfl ⟨rfl, rfl⟩ rfl rfl ?_
  refine pw_aload_n dX8_bottle_166 rfl ?_
  refine pw_iload dX8_bottle_167 rfl ?_
  refine pw_iconst dX8_bottle_169 (v := 4) (by decide) ?_
  refine pw_iload dX8_bottle_170 rfl ?_
  refine pw_cVn dX8_bottle_172 (sp_X8_setB (b := nB3) (k := 4) (by omega)) mi_X8_setB mv_X8_setB ml_X8_166 sh_253 rfl rfl rfl rfl ⟨rfl, rfl⟩ rfl rfl ?_
  refine pw_aload_n dX8_bottle_175 rfl ?_
  refine pw_iload dX8_bottle_176 rfl ?_
  refine pw_iconst dX8_bottle_178 (v := 5) (by decide) ?_
  refine pw_iload dX8_bottle_179 rfl ?_
  refine pw_cVn dX8_bottle_181 (sp_X8_setB (b := nB3) (k := 5) (by omega)) mi_X8_setB mv_X8_setB ml_X8_166 sh_253 rfl rfl rfl rfl ⟨rfl, rfl⟩ rfl rfl ?_
  refine pw_aload_n dX8_bottle_184 rfl ?_
  refine pw_iload dX8_bottle_185 rfl ?_
  refine pw_bipush dX8_bottle_187 (v := 6) (by decide) ?_
  refine pw_iload dX8_bottle_189 rfl ?_
  refine pw_cVn dX8_bottle_191 (sp_X8_setB (b := nB3) (k := 6) (by omega)) mi_X8_setB mv_X8_setB ml_X8_166 sh_253 rfl rfl rfl rfl ⟨rfl, rfl⟩ rfl rfl ?_
  refine pw_heq (show _ = bt1 h3 lot nB3 q v g s r from rfl) ?_
  refine pw_aload_n dX8_bottle_194 rfl ?_
  refine pw_iload_n dX8_bottle_195 rfl ?_
  refine pw_iconst dX8_bottle_196 (v := 1) (by decide) ?_
  refine pw_aload_n dX8_bottle_197 rfl ?_
  refine pw_iload_n dX8_bottle_198 rfl ?_
  refine pw_iconst dX8_bottle_199 (v := 1) (by decide) ?_
  refine pw_cV dX8_bottle_200 (sp_X8_l (lot := lot) (k := 1) (by omega)) mi_X8_l mv_X8_l ml_X8_102 sh_253 rfl rfl rfl rfl ⟨rfl, rfl⟩ rfl rfl ?_
  refine pw_iconst dX8_bottle_203 (v := 3) (by decide) ?_
  refine pw_iload_n dX8_bottle_204 rfl ?_
  refine pw_imul dX8_bottle_205 ?_
  refine pw_isub dX8_bottle_206 ?_
  refine pw_cVn dX8_bottle_207 (sp_X8_setL (lot := lot) (k := 1) (by omega)) mi_X8_setL mv_X8_setL ml_X8_59 sh_253 rfl rfl rfl rfl ⟨rfl, rfl⟩ rfl rfl ?_
  refine pw_iload dX8_bottle_210 rfl ?_
  exact pw_iretF dX8_bottle_212 rfl rfl rfl rfl rfl
