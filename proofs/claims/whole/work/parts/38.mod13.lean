/-! THE MODEL'S SHARES, the missing thousandths -/
def grI (r : Nat → Int32) : Nat → Nat
  | 0 => 0
  | n + 1 => if r (grI r n) < r (n + 1) then n + 1 else grI r n
theorem grI_le (r : Nat → Int32) : ∀ n, grI r n ≤ n
  | 0 => Nat.le_refl _
  | n + 1 => by
      rw [grI]
      split
      · exact Nat.le_refl _
      · exact Nat.le_trans (grI_le r n) (Nat.le_succ n)
def fgH (g : HP) (lot nH : Nat) : Nat → HP
  | 0 => g
  | k + 1 => hput (sL (fgH g lot nH k) lot (13 + grI (fgH g lot nH k 260) (nH - 1)) (mL (fgH g lot nH k) lot (13 + grI (fgH g lot nH k 260) (nH - 1)) + 1)) 260 (grI (fgH g lot nH k 260) (nH - 1)) (-1)
theorem fgH_1 (g : HP) (lot nH : Nat) : ∀ k, fgH g lot nH k 254 1 = g 254 1
  | 0 => rfl
  | k + 1 => by
      rw [fgH, hput_ne _ _ _ (by decide)]
      show hput _ _ _ _ 254 1 = _
      simp only [hput, if_true]
      rw [if_neg (by omega)]
      exact fgH_1 g lot nH k
set_option maxRecDepth 100000 in
set_option maxHeartbeats 4000000 in
theorem lq3_X8_findShares {l : Launch} {G : GC} {ad : Nat → Nat} {g : HP} {lot nH : Nat} (hlot : lot < 24) (hnH : g 254 1 = nI nH) (hH12 : nH ≤ 12) {M : Nat} (hM : M < 1000000) {j : Nat} (K : ∀ y : Int32, PW l G cX8_findShares RX8 6 ((Option.none : Option FieldType)) [] { frames := 1, cells := 0, slots := 0, locals := 23 } (gNm "findShares") (gME G SW ad (gR SW ad (none) (fgH g lot nH M)) gNo 0 0) 125 [some (.ref (ad 253)), some (.int (nI lot)), some (.int (nI M)), some (.int (nI (j + 1))), some (.int (nI (grI (fgH g lot nH j 260) (nH - 1)))), some (.int y)] [] SW ad ((fgH g lot nH (j + 1))) 0 0) : ∀ (mu9 : Nat) (t : Nat) (ht : t ≤ nH - 1) (hmu9 : nH - t < mu9), PW l G cX8_findShares RX8 6 ((Option.none : Option FieldType)) [] { frames := 1, cells := 0, slots := 0, locals := 23 } (gNm "findShares") (gME G SW ad (gR SW ad (none) (fgH g lot nH M)) gNo 0 0) 136 [some (.ref (ad 253)), some (.int (nI lot)), some (.int (nI M)), some (.int (nI j)), some (.int (nI (grI (fgH g lot nH j 260) t))), some (.int (nI (t + 1)))] [] SW ad (fgH g lot nH j) 0 0 := by
  intro mu9
  induction mu9 with
  | zero => intro t ht hmu9; exact absurd hmu9 (Nat.not_lt_zero _)
  | succ mu9 ih =>
    intro t ht hmu9
    have hq9 : grI (fgH g lot nH j 260) t ≤ t := grI_le _ _
    refine pw_iload dX8_findShares_136 rfl ?_
    refine pw_aload_n dX8_findShares_138 rfl ?_
    refine pw_getr dX8_findShares_139 lf_X8_9 sh_253 rfl ?_
    refine pw_iconst dX8_findShares_142 (v := 1) (by decide) ?_
    refine pw_iaload dX8_findShares_143 sh_254 (vpin (n := 1) (N := 1032) (by decide) (by decide)) ?_
    refine pw_icmp_ge dX8_findShares_144 (tgt := 179) (by decide) (fun c144 => ?_) (fun c144 => ?_)
    · skip
      have ht8 : t = nH - 1 := by
        rcases Nat.lt_or_ge (t + 1) nH with q | q
        · exact absurd c144 (by rw [show fgH g lot nH j 254 (Int32.toNatClampNeg 1) = nI nH from (fgH_1 g lot nH j).trans hnH]; exact nI_ge q (by omega))
        · omega
      subst ht8
      refine pw_aload_n dX8_findShares_179 rfl ?_
      refine pw_iload_n dX8_findShares_180 rfl ?_
      refine pw_bipush dX8_findShares_181 (v := 13) (by decide) ?_
      refine pw_iload dX8_findShares_183 rfl ?_
      refine pw_iadd dX8_findShares_185 ?_
      rw [show (13 : Int32) + nI (grI (fgH g lot nH j 260) (nH - 1)) = nI (13 + grI (fgH g lot nH j 260) (nH - 1)) from nI_add 13 _]
      refine pw_aload_n dX8_findShares_186 rfl ?_
      refine pw_iload_n dX8_findShares_187 rfl ?_
      refine pw_bipush dX8_findShares_188 (v := 13) (by decide) ?_
      refine pw_iload dX8_findShares_190 rfl ?_
      refine pw_iadd dX8_findShares_192 ?_
      rw [show (13 : Int32) + nI (grI (fgH g lot nH j 260) (nH - 1)) = nI (13 + grI (fgH g lot nH j 260) (nH - 1)) from nI_add 13 _]
      refine pw_cV dX8_findShares_193 (sp_X8_l (lot := lot) (k := 13 + grI (fgH g lot nH j 260) (nH - 1)) (by omega)) mi_X8_l mv_X8_l ml_X8_102 sh_253 rfl rfl rfl rfl ⟨rfl, rfl⟩ rfl rfl ?_
      refine pw_iconst dX8_findShares_196 (v := 1) (by decide) ?_
      refine pw_iadd dX8_findShares_197 ?_
      refine pw_cVn dX8_findShares_198 (sp_X8_setL (lot := lot) (k := 13 + grI (fgH g lot nH j 260) (nH - 1)) (by omega)) mi_X8_setL mv_X8_setL ml_X8_59 sh_253 rfl rfl rfl rfl ⟨rfl, rfl⟩ rfl rfl ?_
      refine pw_aload_n dX8_findShares_201 rfl ?_
      refine pw_getr dX8_findShares_202 lf_X8_33 sh_253 rfl ?_
      refine pw_iload dX8_findShares_205 rfl ?_
      refine pw_iconst dX8_findShares_207 (v := (-1)) (by decide) ?_
      refine pw_iastore dX8_findShares_208 sh_260 (vpin (N := 12) (by omega) (by decide)) ?_
      rw [nI_cl (by omega)]
      refine pw_heq (show _ = fgH g lot nH (j + 1) from rfl) ?_
      refine pw_iinc dX8_findShares_209 rfl (d := 1) (by decide) (by decide) rfl ?_
      rw [nI_1]
      refine pw_goto dX8_findShares_212 (tgt := 125) (by decide) ?_
      exact K _
    · skip
      have ht9 : t + 1 < nH := by
        rcases Nat.lt_or_ge (t + 1) nH with q | q
        · exact q
        · exact absurd (by rw [show fgH g lot nH j 254 (Int32.toNatClampNeg 1) = nI nH from (fgH_1 g lot nH j).trans hnH]; exact nI_le q (by omega)) c144
      refine pw_aload_n dX8_findShares_147 rfl ?_
      refine pw_getr dX8_findShares_148 lf_X8_33 sh_253 rfl ?_
      refine pw_iload dX8_findShares_151 rfl ?_
      refine pw_iaload dX8_findShares_153 sh_260 (vpin (N := 12) (by omega) (by decide)) ?_
      rw [nI_cl (by omega)]
      refine pw_aload_n dX8_findShares_154 rfl ?_
      refine pw_getr dX8_findShares_155 lf_X8_33 sh_253 rfl ?_
      refine pw_iload dX8_findShares_158 rfl ?_
      refine pw_iaload dX8_findShares_160 sh_260 (vpin (N := 12) (by omega) (by decide)) ?_
      rw [nI_cl (by omega)]
      refine pw_icmp_le dX8_findShares_161 (tgt := 169) (by decide) (fun c161 => ?_) (fun c161 => ?_)
      · skip
        refine pw_iload dX8_findShares_169 rfl ?_
        refine pw_istore dX8_findShares_171 (by decide) rfl ?_
        refine pw_iinc dX8_findShares_173 rfl (d := 1) (by decide) (by decide) rfl ?_
        rw [nI_1]
        refine pw_goto dX8_findShares_176 (tgt := 136) (by decide) ?_
        have e8 := ih (t + 1) (by omega) (by omega)
        rw [grI, if_neg (Int32.not_lt.mpr c161)] at e8
        exact e8
      · skip
        refine pw_iload dX8_findShares_164 rfl ?_
        refine pw_goto dX8_findShares_166 (tgt := 171) (by decide) ?_
        refine pw_istore dX8_findShares_171 (by decide) rfl ?_
        refine pw_iinc dX8_findShares_173 rfl (d := 1) (by decide) (by decide) rfl ?_
        rw [nI_1]
        refine pw_goto dX8_findShares_176 (tgt := 136) (by decide) ?_
        have e8 := ih (t + 1) (by omega) (by omega)
        rw [grI, if_pos (Int32.not_le.mp c161)] at e8
        exact e8

set_option maxRecDepth 100000 in
set_option maxHeartbeats 4000000 in
theorem lp3_X8_findShares {l : Launch} {G : GC} {ad : Nat → Nat} {g : HP} {lot nH : Nat} (hlot : lot < 24) (hnH : g 254 1 = nI nH) (hH12 : nH ≤ 12) {M : Nat} (hM : M < 1000000)  : ∀ (mu9 : Nat) (j : Nat) (ls4 : Option Value) (ls5 : Option Value) (hj : j ≤ M) (hmu9 : M - j < mu9), PW l G cX8_findShares RX8 6 ((Option.none : Option FieldType)) [] { frames := 1, cells := 0, slots := 0, locals := 23 } (gNm "findShares") (gME G SW ad (gR SW ad (none) (fgH g lot nH M)) gNo 0 0) 125 [some (.ref (ad 253)), some (.int (nI lot)), some (.int (nI M)), some (.int (nI j)), ls4, ls5] [] SW ad (fgH g lot nH j) 0 0 := by
  intro mu9
  induction mu9 with
  | zero => intro j ls4 ls5 hj hmu9; exact absurd hmu9 (Nat.not_lt_zero _)
  | succ mu9 ih =>
    intro j ls4 ls5 hj hmu9
    refine pw_iload_n dX8_findShares_125 rfl ?_
    refine pw_iload_n dX8_findShares_126 rfl ?_
    refine pw_icmp_ge dX8_findShares_127 (tgt := 215) (by decide) (fun c127 => ?_) (fun c127 => ?_)
    · skip
      have hj8 : j = M := eqN rfl hj hM c127
      subst hj8
      exact pw_retF dX8_findShares_215 rfl rfl rfl
    · skip
      have hj9 : j < M := ltN rfl hj hM c127
      refine pw_iconst dX8_findShares_130 (v := 0) (by decide) ?_
      refine pw_istore dX8_findShares_131 (by decide) rfl ?_
      refine pw_iconst dX8_findShares_133 (v := 1) (by decide) ?_
      refine pw_istore dX8_findShares_134 (by decide) rfl ?_
      exact lq3_X8_findShares hlot hnH hH12 hM (fun y => ih (j + 1) _ _ (by omega) (by omega)) (nH + 1) 0 (Nat.zero_le _) (by omega)

