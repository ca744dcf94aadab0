/-! A ROUND OF THE MODEL -/
def roH (h : HP) (nC b : Nat) : Nat → HP
  | 0 => h
  | k + 1 => hput (roH h nC b k) 261 k (caF (roH h nC b k) nC b (nI k) nC 0)
theorem roH_o (h : HP) (nC b : Nat) {q : Nat} (hq : q ≠ 261) : ∀ k, roH h nC b k q = h q
  | 0 => rfl
  | k + 1 => by rw [roH, hput_ne _ _ _ hq, roH_o h nC b hq k]
def leI (x y : Int32) : Int32 := if x < y then x else y
def geI (g : HP) (c b : Nat) : Int32 := leI (portI g c) (leI (mWi g c b - mHd g c b) (mB g b 2))
def ruS (g : HP) (c b : Nat) : HP := sB (hput g 254 (776 + 16 * c + b) (mHd g c b + geI g c b)) b 2 (mB (hput g 254 (776 + 16 * c + b) (mHd g c b + geI g c b)) b 2 - geI g c b)
def ru (g : HP) (oc : Nat → Nat) (b : Nat) : Nat → HP × Int32
  | 0 => (g, 0)
  | k + 1 => (ruS (ru g oc b k).1 (oc k) b, (ru g oc b k).2 + geI (ru g oc b k).1 (oc k) b)
theorem ru_o (g : HP) (oc : Nat → Nat) (b : Nat) {q : Nat} (hq : q ≠ 254) : ∀ k, (ru g oc b k).1 q = g q
  | 0 => rfl
  | k + 1 => by
      show ruS _ _ _ q = _
      rw [ruS, sB, hput_ne _ _ _ hq, hput_ne _ _ _ hq, ru_o g oc b hq k]
set_option maxRecDepth 100000 in
set_option maxHeartbeats 4000000 in
theorem lq_X8_round {l : Launch} {G : GC} {ad : Nat → Nat} {h : HP} {nL nH nB nC : Nat} {np : Nat → Nat} {pl : Nat → Nat → Nat} {lb : Nat → Nat} (hw : MW h nL nH nB nC np pl lb) {b : Nat} (hb : b < 16) (hL8 : (cntB (fun c => liB h b c) nC) ≤ 8) {oc : Nat → Nat} (hoc : ∀ k, k < (cntB (fun c => liB h b c) nC) → roH h nC b (cntB (fun c => liB h b c) nC) 261 k = nI (oc k) ∧ oc k < 8)  : ∀ (mu9 : Nat) (k : Nat) (ls5 : Option Value) (ls6 : Option Value) (ls7 : Option Value) (hk : k ≤ (cntB (fun c => liB h b c) nC)) (hmu9 : (cntB (fun c => liB h b c) nC) - k < mu9), PW l G cX8_round RX8 8 ((Option.some FieldType.int)) [] { frames := 4, cells := 0, slots := 0, locals := 91 } (gNm "round") (gME G SW ad (gR SW ad (some (.int (ru (roH h nC b (cntB (fun c => liB h b c) nC)) oc b (cntB (fun c => liB h b c) nC)).2)) ((ru (roH h nC b (cntB (fun c => liB h b c) nC)) oc b (cntB (fun c => liB h b c) nC)).1)) gNo 0 0) 36 [some (.ref (ad 253)), some (.int (nI b)), some (.int (nI (cntB (fun c => liB h b c) nC))), some (.int (ru (roH h nC b (cntB (fun c => liB h b c) nC)) oc b k).2), some (.int (nI k)), ls5, ls6, ls7] [] SW ad ((ru (roH h nC b (cntB (fun c => liB h b c) nC)) oc b k).1) 0 0 := by
  intro mu9
  induction mu9 with
  | zero => intro k ls5 ls6 ls7 hk hmu9; exact absurd hmu9 (Nat.not_lt_zero _)
  | succ mu9 ih =>
    intro k ls5 ls6 ls7 hk hmu9
    refine pw_iload dX8_round_36 rfl ?_
    refine pw_iload_n dX8_round_38 rfl ?_
    refine pw_icmp_ge dX8_round_39 (tgt := 137) (by decide) (fun c39 => ?_) (fun c39 => ?_)
    · skip
      have hk8 : k = (cntB (fun c => liB h b c) nC) := eqN rfl hk (by omega) c39
      refine pw_iload_n dX8_round_137 rfl ?_
      exact pw_iretF dX8_round_138 rfl rfl rfl (by rw [hk8]) (by rw [hk8])
    · skip
      have hk9 : k < (cntB (fun c => liB h b c) nC) := ltN rfl hk (by omega) c39
      have ho9 := hoc k hk9
      have hc8 := ho9.2
      refine pw_aload_n dX8_round_42 rfl ?_
      refine pw_getr dX8_round_43 lf_X8_36 sh_253 rfl ?_
      refine pw_iload dX8_round_46 rfl ?_
      refine pw_iaload dX8_round_48 sh_261 (vpin (N := 8) (by omega) (by decide)) ?_
      rw [nI_cl (by omega), show (ru (roH h nC b (cntB (fun c => liB h b c) nC)) oc b k).1 261 k = nI (oc k) from by rw [ru_o _ _ _ (by decide)]; exact ho9.1]
      refine pw_istore dX8_round_49 (by decide) rfl ?_
      refine pw_aload_n dX8_round_51 rfl ?_
      refine pw_iload dX8_round_52 rfl ?_
      refine pw_iload_n dX8_round_54 rfl ?_
      refine pw_cV dX8_round_55 (sp_X8_wished (c := oc k) (b := b) (by omega)) mi_X8_wished mv_X8_wished ml_X8_184 sh_253 rfl rfl rfl rfl ⟨rfl, rfl⟩ rfl rfl ?_
      refine pw_aload_n dX8_round_58 rfl ?_
      refine pw_iload dX8_round_59 rfl ?_
      refine pw_iload_n dX8_round_61 rfl ?_
      refine pw_cV dX8_round_62 (sp_X8_held (c := oc k) (b := b) (by omega)) mi_X8_held mv_X8_held ml_X8_181 sh_253 rfl rfl rfl rfl ⟨rfl, rfl⟩ rfl rfl ?_
      refine pw_isub dX8_round_65 ?_
      refine pw_istore dX8_round_66 (by decide) rfl ?_
      refine pw_aload_n dX8_round_68 rfl ?_
      refine pw_iload dX8_round_69 rfl ?_
      refine pw_cV dX8_round_71 (sp_X8_portionOf (c := oc k) hc8) mi_X8_portionOf mv_X8_portionOf ml_X8_202 sh_253 rfl rfl rfl rfl ⟨rfl, rfl⟩ rfl rfl ?_
      refine pw_iload dX8_round_74 rfl ?_
      refine pw_aload_n dX8_round_76 rfl ?_
      refine pw_iload_n dX8_round_77 rfl ?_
      refine pw_iconst dX8_round_78 (v := 2) (by decide) ?_
      refine pw_cV dX8_round_79 (sp_X8_b (b := b) (k := 2) (by omega)) mi_X8_b mv_X8_b ml_X8_169 sh_253 rfl rfl rfl rfl ⟨rfl, rfl⟩ rfl rfl ?_
      refine pw_cS dX8_round_82 (sp_X8_lesser) mi_X8_lesser ms_X8_lesser ml_X8_205 rfl rfl ⟨rfl, rfl⟩ rfl rfl ?_
      refine pw_cS dX8_round_85 (sp_X8_lesser) mi_X8_lesser ms_X8_lesser ml_X8_205 rfl rfl ⟨rfl, rfl⟩ rfl rfl ?_
      refine pw_istore dX8_round_88 (by decide) rfl ?_
      refine pw_aload_n dX8_round_90 rfl ?_
      refine pw_getr dX8_round_91 lf_X8_9 sh_253 rfl ?_
      refine pw_sipush dX8_round_94 (v := 776) (by decide) ?_
      refine pw_bipush dX8_round_97 (v := 16) (by decide) ?_
      refine pw_iload dX8_round_99 rfl ?_
      refine pw_imul dX8_round_101 ?_
      refine pw_iadd dX8_round_102 ?_
      refine pw_iload_n dX8_round_103 rfl ?_
      refine pw_iadd dX8_round_104 ?_
      rw [show (776 : Int32) + 16 * nI (oc k) + nI b = nI (776 + 16 * oc k + b) from ixM 776 16 (oc k) b]
      refine pw_dup2 dX8_round_105 rfl rfl ?_
      refine pw_iaload dX8_round_106 sh_254 (vpin (N := 1032) (by omega) (by decide)) ?_
      rw [nI_cl (by omega)]
      refine pw_iload dX8_round_107 rfl ?_
      refine pw_iadd dX8_round_109 ?_
      refine pw_iastore dX8_round_110 sh_254 (vpin (N := 1032) (by omega) (by decide)) ?_
      rw [nI_cl (by omega)]
      refine pw_aload_n dX8_round_111 rfl ?_
      refine pw_iload_n dX8_round_112 rfl ?_
      refine pw_iconst dX8_round_113 (v := 2) (by decide) ?_
      refine pw_aload_n dX8_round_114 rfl ?_
      refine pw_iload_n dX8_round_115 rfl ?_
      refine pw_iconst dX8_round_116 (v := 2) (by decide) ?_
      refine pw_cV dX8_round_117 (sp_X8_b (b := b) (k := 2) (by omega)) mi_X8_b mv_X8_b ml_X8_169 sh_253 rfl rfl rfl rfl ⟨rfl, rfl⟩ rfl rfl ?_
      refine pw_iload dX8_round_120 rfl ?_
      refine pw_isub dX8_round_122 ?_
      refine pw_cVn dX8_round_123 (sp_X8_setB (b := b) (k := 2) (by omega)) mi_X8_setB mv_X8_setB ml_X8_166 sh_253 rfl rfl rfl rfl ⟨rfl, rfl⟩ rfl rfl ?_
      refine pw_iload_n dX8_round_126 rfl ?_
      refine pw_iload dX8_round_127 rfl ?_
      refine pw_iadd dX8_round_129 ?_
      refine pw_istore_n dX8_round_130 (by decide) rfl ?_
      refine pw_iinc dX8_round_131 rfl (d := 1) (by decide) (by decide) rfl ?_
      rw [nI_1]
      refine pw_goto dX8_round_134 (tgt := 36) (by decide) ?_
      exact ih (k + 1) _ _ _ (by omega) (by omega)

set_option maxRecDepth 100000 in
set_option maxHeartbeats 4000000 in
theorem lp_X8_round {l : Launch} {G : GC} {ad : Nat → Nat} {h : HP} {nL nH nB nC : Nat} {np : Nat → Nat} {pl : Nat → Nat → Nat} {lb : Nat → Nat} (hw : MW h nL nH nB nC np pl lb) {b : Nat} (hb : b < 16) (hL8 : (cntB (fun c => liB h b c) nC) ≤ 8) {oc : Nat → Nat} (hoc : ∀ k, k < (cntB (fun c => liB h b c) nC) → roH h nC b (cntB (fun c => liB h b c) nC) 261 k = nI (oc k) ∧ oc k < 8)  : ∀ (mu9 : Nat) (k : Nat) (hk : k ≤ (cntB (fun c => liB h b c) nC)) (hmu9 : (cntB (fun c => liB h b c) nC) - k < mu9), PW l G cX8_round RX8 8 ((Option.some FieldType.int)) [] { frames := 4, cells := 0, slots := 0, locals := 91 } (gNm "round") (gME G SW ad (gR SW ad (some (.int (ru (roH h nC b (cntB (fun c => liB h b c) nC)) oc b (cntB (fun c => liB h b c) nC)).2)) ((ru (roH h nC b (cntB (fun c => liB h b c) nC)) oc b (cntB (fun c => liB h b c) nC)).1)) gNo 0 0) 8 [some (.ref (ad 253)), some (.int (nI b)), some (.int (nI (cntB (fun c => liB h b c) nC))), some (.int (nI k)), none, none, none, none] [] SW ad (roH h nC b k) 0 0 := by
  intro mu9
  induction mu9 with
  | zero => intro k hk hmu9; exact absurd hmu9 (Nat.not_lt_zero _)
  | succ mu9 ih =>
    intro k hk hmu9
    have hwg : MW (roH h nC b k) nL nH nB nC np pl lb := MW_o hw (roH_o h nC b (by decide) k)
    refine pw_iload_n dX8_round_8 rfl ?_
    refine pw_iload_n dX8_round_9 rfl ?_
    refine pw_icmp_ge dX8_round_10 (tgt := 31) (by decide) (fun c10 => ?_) (fun c10 => ?_)
    · skip
      have hk8 : k = (cntB (fun c => liB h b c) nC) := eqN rfl hk (by omega) c10
      rw [hk8]
      refine pw_iconst dX8_round_31 (v := 0) (by decide) ?_
      refine pw_istore_n dX8_round_32 (by decide) rfl ?_
      refine pw_iconst dX8_round_33 (v := 0) (by decide) ?_
      refine pw_istore dX8_round_34 (by decide) rfl ?_
      exact lq_X8_round hw hb hL8 hoc ((cntB (fun c => liB h b c) nC) + 1) 0 none none none (Nat.zero_le _) (by omega)
    · skip
      have hk9 : k < (cntB (fun c => liB h b c) nC) := ltN rfl hk (by omega) c10
      refine pw_aload_n dX8_round_13 rfl ?_
      refine pw_getr dX8_round_14 lf_X8_36 sh_253 rfl ?_
      refine pw_iload_n dX8_round_17 rfl ?_
      refine pw_aload_n dX8_round_18 rfl ?_
      refine pw_iload_n dX8_round_19 rfl ?_
      refine pw_iload_n dX8_round_20 rfl ?_
      refine pw_cV dX8_round_21 (sp_X8_customerAt hwg hb) mi_X8_customerAt mv_X8_customerAt ml_X8_199 sh_253 rfl rfl rfl rfl ⟨rfl, rfl⟩ rfl rfl ?_
      refine pw_iastore dX8_round_24 sh_261 (vpin (N := 8) (by omega) (by decide)) ?_
      rw [nI_cl (by omega)]
      refine pw_iinc dX8_round_25 rfl (d := 1) (by decide) (by decide) rfl ?_
      rw [nI_1]
      refine pw_goto dX8_round_28 (tgt := 8) (by decide) ?_
      exact ih (k + 1) (by omega) (by omega)

set_option maxRecDepth 100000 in
set_option maxHeartbeats 4000000 in
theorem sp_X8_round {l : Launch} {G : GC} {ad : Nat → Nat} {h : HP} {nL nH nB nC : Nat} {np : Nat → Nat} {pl : Nat → Nat → Nat} {lb : Nat → Nat} (hw : MW h nL nH nB nC np pl lb) {b : Nat} (hb : b < 16) (hL8 : (cntB (fun c => liB h b c) nC) ≤ 8) {oc : Nat → Nat} (hoc : ∀ k, k < (cntB (fun c => liB h b c) nC) → roH h nC b (cntB (fun c => liB h b c) nC) 261 k = nI (oc k) ∧ oc k < 8) : PF l G yX8_round (.code yX8_round cX8_round 8 ((Option.some FieldType.int))) { frames := 4, cells := 0, slots := 0, locals := 91 } [.ref (ad 253), .int (nI b)] SW ad (h) (some (.int (ru (roH h nC b (cntB (fun c => liB h b c) nC)) oc b (cntB (fun c => liB h b c) nC)).2)) ((ru (roH h nC b (cntB (fun c => liB h b c) nC)) oc b (cntB (fun c => liB h b c) nC)).1) := by
  refine PF.mk (L0 := [some (.ref (ad 253)), some (.int (nI b)), none, none, none, none, none, none]) RX8 "round" 0 0 (by decide +kernel) rfl rfl ⟨rfl, rfl⟩ (by simp [Value.category]) (Nat.le_of_ble_eq_true rfl) rfl ?_
  refine pw_aload_n dX8_round_0 rfl ?_
  refine pw_iload_n dX8_round_1 rfl ?_
  refine pw_cV dX8_round_2 (sp_X8_listMany hw hb) mi_X8_listMany mv_X8_listMany ml_X8_175 sh_253 rfl rfl rfl rfl ⟨rfl, rfl⟩ rfl rfl ?_
  refine pw_istore_n dX8_round_5 (by decide) rfl ?_
  refine pw_iconst dX8_round_6 (v := 0) (by decide) ?_
  refine pw_istore_n dX8_round_7 (by decide) rfl ?_
  exact lp_X8_round hw hb hL8 hoc ((cntB (fun c => liB h b c) nC) + 1) 0 (Nat.zero_le _) (by omega)

