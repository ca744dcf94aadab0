/-! BLENDS: refusals, and how a blend is made -/
def anyB (p : Nat → Bool) : Nat → Bool
  | 0 => false
  | n + 1 => anyB p n || p n
theorem anyB_t {p : Nat → Bool} : ∀ {n i : Nat}, i < n → p i = true → anyB p n = true
  | 0, _, h, _ => absurd h (Nat.not_lt_zero _)
  | n + 1, i, h, hp => by
    rcases Nat.lt_or_ge i n with q | q
    · simp [anyB, anyB_t q hp]
    · have e : i = n := by omega
      subst e; simp [anyB, hp]
theorem anyB_s {p : Nat → Bool} {n : Nat} (h : anyB p n = false) (hp : p n = false) : anyB p (n + 1) = false := by simp [anyB, h, hp]
def maxF (g : Nat → Int32) : Nat → Int32
  | 0 => 0
  | n + 1 => if maxF g n < g n then g n else maxF g n
/-- what is wrong with a part -/
def wpB (tl : Nat → Int32) (c : Int32) (k : Nat) : Bool := decide (c ≤ tl k) || anyB (fun o => decide (tl o = tl k)) k
def refI (w g : Bool) (gen c : Int32) : Int32 := if w then 1 else if g then 2 else if 4 < gen then 3 else if c < 24 then 0 else 4
/-- the quarters of the parts of a lot, times their shares of a harvest -/
def smI (h : HP) (pk : Nat → Nat) (P lot hv : Nat) : Int32 := sumC (fun k => h 8 (lot * 4 + k) * h 10 (pk k * 12 + hv)) P
/-- the shares rounded down, and the rests, of the first harvests -/
def hM (h : HP) (pk : Nat → Nat) (P lot : Nat) (T : Int32) : Nat → HP
  | 0 => h
  | i + 1 => hput (hput (hM h pk P lot T i) 10 (lot * 12 + i) (smI (hM h pk P lot T i) pk P lot i / T)) 250 (0 * 12 + i) (smI (hM h pk P lot T i) pk P lot i - smI (hM h pk P lot T i) pk P lot i / T * T)
def msM (h : HP) (pk : Nat → Nat) (P lot : Nat) (T : Int32) : Nat → Int32
  | 0 => 1000
  | i + 1 => msM h pk P lot T i - smI (hM h pk P lot T i) pk P lot i / T
/-- the thousandths that are missing -/
def hN (h : HP) (lot : Nat) (ms : Int32) : Nat → HP
  | 0 => h
  | i + 1 => if nI (rk (fun o => hN h lot ms i 250 (0 * 12 + o)) 12 i) < ms then hput (hN h lot ms i) 10 (lot * 12 + i) (hN h lot ms i 10 (lot * 12 + i) + 1) else hN h lot ms i
def mixH (h : HP) (pk : Nat → Nat) (P lot : Nat) (T : Int32) : HP := hN (hM h pk P lot T 12) lot (msM h pk P lot T 12) 12
/-- the parts are taken -/
def hQ (h : HP) (tn : Nat → Nat) (tl tq : Nat → Int32) (lot : Nat) : Nat → HP
  | 0 => h
  | k + 1 => hput (hput (hput (hQ h tn tl tq lot k) 6 (lot * 4 + k) (tl k)) 8 (lot * 4 + k) (tq k)) 4 (tn k * 5 + 1) (hQ h tn tl tq lot k 4 (tn k * 5 + 1) + (-(tq k)))
def entH (h : HP) (n : Nat) (q p g v : Int32) : HP := hput (hput (hput (hput (hput (hput h 4 (n * 5 + 0) q) 4 (n * 5 + 1) q) 4 (n * 5 + 2) p) 4 (n * 5 + 3) g) 4 (n * 5 + 4) v) 2 5 (nI (n + 1))
theorem hM_o (h : HP) (pk : Nat → Nat) (P lot : Nat) (T : Int32) : ∀ (i q j : Nat), q ≠ 10 → q ≠ 250 → hM h pk P lot T i q j = h q j
  | 0, _, _, _, _ => rfl
  | i + 1, q, j, h1, h2 => by
    show hput (hput (hM h pk P lot T i) _ _ _) _ _ _ q j = _
    rw [hput, if_neg h2, hput, if_neg h1]
    exact hM_o h pk P lot T i q j h1 h2
theorem gt_ne0 {T : Int32} (h : 0 < T) : ¬ T = 0 := fun q => by rw [q] at h; exact absurd h (by decide)
set_option maxRecDepth 100000 in
set_option maxHeartbeats 4000000 in
theorem lp_X3_hasEmptyPart {l : Launch} {G : GC} {ad : Nat → Nat} {h : HP} {P : Nat} (hP : h 243 3 = nI P) (hP4 : P ≤ 4)  : ∀ (mu9 : Nat) (i : Nat) (hi : i ≤ P) (hA : anyB (fun k => decide (h 246 (k * 2 + 1) = 0)) i = false) (hmu9 : P - i < mu9), PW l G cX3_hasEmptyPart RX3 2 ((Option.some FieldType.boolean)) [] { frames := 3, cells := 0, slots := 0, locals := 66 } (gNm "hasEmptyPart") (gME G SW ad (gR SW ad (some (.int (b2i (anyB (fun k => decide (h 246 (k * 2 + 1) = 0)) P)))) (h)) gNo 0 0) 2 [some (.ref (ad 243)), some (.int (nI i))] [] SW ad (h) 0 0 := by
  intro mu9
  induction mu9 with
  | zero => intro i hi hA hmu9; exact absurd hmu9 (Nat.not_lt_zero _)
  | succ mu9 ih =>
    intro i hi hA hmu9
    refine pw_iload_n dX3_hasEmptyPart_2 rfl ?_
    refine pw_aload_n dX3_hasEmptyPart_3 rfl ?_
    refine pw_geti dX3_hasEmptyPart_4 lf_X3_28 sh_243 rfl ?_
    refine pw_icmp_ge dX3_hasEmptyPart_7 (tgt := 26) (by decide) (fun c7 => ?_) (fun c7 => ?_)
    · skip
      have hi8 : i = P := eqN hP hi (by omega) c7
      refine pw_iconst dX3_hasEmptyPart_26 (v := 0) (by decide) ?_
      exact pw_iretF dX3_hasEmptyPart_27 rfl rfl rfl (by rw [← hi8, hA]; rfl) rfl
    · skip
      have hi9 : i < P := ltN hP hi (by omega) c7
      refine pw_aload_n dX3_hasEmptyPart_10 rfl ?_
      refine pw_iload_n dX3_hasEmptyPart_11 rfl ?_
      refine pw_cV dX3_hasEmptyPart_12 (sp_X3_quartersOf (part := i) (by omega)) mi_X3_quartersOf mv_X3_quartersOf ml_X3_46 sh_243 rfl rfl rfl rfl ⟨rfl, rfl⟩ rfl rfl ?_
      refine pw_if_ne dX3_hasEmptyPart_15 (tgt := 20) (by decide) (fun c15 => ?_) (fun c15 => ?_)
      · skip
        refine pw_iinc dX3_hasEmptyPart_20 rfl (d := 1) (by decide) (by decide) rfl ?_
        rw [nI_1]
        refine pw_goto dX3_hasEmptyPart_23 (tgt := 2) (by decide) ?_
        exact ih (i + 1) (by omega) (anyB_s hA (by simpa using c15)) (by omega)
      · skip
        refine pw_iconst dX3_hasEmptyPart_18 (v := 1) (by decide) ?_
        exact pw_iretF dX3_hasEmptyPart_19 rfl rfl rfl (by rw [anyB_t (p := (fun k => decide (h 246 (k * 2 + 1) = 0))) hi9 (by simpa using c15)]; rfl) rfl

set_option maxRecDepth 100000 in
set_option maxHeartbeats 4000000 in
theorem sp_X3_hasEmptyPart {l : Launch} {G : GC} {ad : Nat → Nat} {h : HP} {P : Nat} (hP : h 243 3 = nI P) (hP4 : P ≤ 4) : PF l G yX3_hasEmptyPart (.code yX3_hasEmptyPart cX3_hasEmptyPart 2 ((Option.some FieldType.boolean))) { frames := 3, cells := 0, slots := 0, locals := 66 } [.ref (ad 243)] SW ad (h) (some (.int (b2i (anyB (fun k => decide (h 246 (k * 2 + 1) = 0)) P)))) (h) := by
  refine PF.mk (L0 := [some (.ref (ad 243)), none]) RX3 "hasEmptyPart" 0 0 (by decide +kernel) rfl rfl ⟨rfl, rfl⟩ (by simp [Value.category]) (Nat.le_of_ble_eq_true rfl) rfl ?_
  refine pw_iconst dX3_hasEmptyPart_0 (v := 0) (by decide) ?_
  refine pw_istore_n dX3_hasEmptyPart_1 (by decide) rfl ?_
  exact lp_X3_hasEmptyPart hP hP4 (P + 1) 0 (Nat.zero_le _) rfl (by omega)

set_option maxRecDepth 100000 in
set_option maxHeartbeats 4000000 in
theorem lq_X4_hasWrongParts {l : Launch} {G : GC} {ad : Nat → Nat} {h : HP} {nL : Nat} (hnL : h 2 5 = nI nL) (hn24 : nL ≤ 24) {P : Nat} (hP : h 243 3 = nI P) (hP4 : P ≤ 4) {i : Nat} (hi9 : i < P) (K : anyB (fun o => decide (h 246 (o * 2 + 0) = h 246 (i * 2 + 0))) i = false → PW l G cX4_hasWrongParts RX4 4 ((Option.some FieldType.boolean)) [] { frames := 3, cells := 0, slots := 0, locals := 66 } (gNm "hasWrongParts") (gME G SW ad (gR SW ad (some (.int (b2i (anyB (wpB (fun k => h 246 (k * 2 + 0)) (nI nL)) P)))) (h)) gNo 0 0) 2 [some (.ref (ad 2)), some (.ref (ad 243)), some (.int (nI (i + 1))), some (.int (nI i))] [] SW ad (h) 0 0) : ∀ (mu9 : Nat) (j : Nat) (hj : j ≤ i) (hA : anyB (fun o => decide (h 246 (o * 2 + 0) = h 246 (i * 2 + 0))) j = false) (hmu9 : i - j < mu9), PW l G cX4_hasWrongParts RX4 4 ((Option.some FieldType.boolean)) [] { frames := 3, cells := 0, slots := 0, locals := 66 } (gNm "hasWrongParts") (gME G SW ad (gR SW ad (some (.int (b2i (anyB (wpB (fun k => h 246 (k * 2 + 0)) (nI nL)) P)))) (h)) gNo 0 0) 26 [some (.ref (ad 2)), some (.ref (ad 243)), some (.int (nI i)), some (.int (nI j))] [] SW ad (h) 0 0 := by
  intro mu9
  induction mu9 with
  | zero => intro j hj hA hmu9; exact absurd hmu9 (Nat.not_lt_zero _)
  | succ mu9 ih =>
    intro j hj hA hmu9
    refine pw_iload_n dX4_hasWrongParts_26 rfl ?_
    refine pw_iload_n dX4_hasWrongParts_27 rfl ?_
    refine pw_icmp_ge dX4_hasWrongParts_28 (tgt := 52) (by decide) (fun c28 => ?_) (fun c28 => ?_)
    · skip
      have hj8 : j = i := by
        rcases Nat.lt_or_ge j i with q | q
        · exact absurd c28 (nI_ge q (by omega))
        · omega
      subst hj8
      refine pw_iinc dX4_hasWrongParts_52 rfl (d := 1) (by decide) (by decide) rfl ?_
      rw [nI_1]
      refine pw_goto dX4_hasWrongParts_55 (tgt := 2) (by decide) ?_
      exact K hA
    · skip
      have hj9 : j < i := by
        rcases Nat.lt_or_ge j i with q | q
        · exact q
        · exact absurd (nI_le q (by omega)) c28
      refine pw_aload_n dX4_hasWrongParts_31 rfl ?_
      refine pw_iload_n dX4_hasWrongParts_32 rfl ?_
      refine pw_cV dX4_hasWrongParts_33 (sp_X3_lotOf (part := j) (by omega)) mi_X3_lotOf mv_X3_lotOf ml_X4_67 sh_243 rfl rfl rfl rfl ⟨rfl, rfl⟩ rfl rfl ?_
      refine pw_aload_n dX4_hasWrongParts_36 rfl ?_
      refine pw_iload_n dX4_hasWrongParts_37 rfl ?_
      refine pw_cV dX4_hasWrongParts_38 (sp_X3_lotOf (part := i) (by omega)) mi_X3_lotOf mv_X3_lotOf ml_X4_67 sh_243 rfl rfl rfl rfl ⟨rfl, rfl⟩ rfl rfl ?_
      refine pw_icmp_ne dX4_hasWrongParts_41 (tgt := 46) (by decide) (fun c41 => ?_) (fun c41 => ?_)
      · skip
        refine pw_iinc dX4_hasWrongParts_46 rfl (d := 1) (by decide) (by decide) rfl ?_
        rw [nI_1]
        refine pw_goto dX4_hasWrongParts_49 (tgt := 26) (by decide) ?_
        exact ih (j + 1) (by omega) (anyB_s hA (by simpa using c41)) (by omega)
      · skip
        refine pw_iconst dX4_hasWrongParts_44 (v := 1) (by decide) ?_
        exact pw_iretF dX4_hasWrongParts_45 rfl rfl rfl (by rw [anyB_t (p := (wpB (fun k => h 246 (k * 2 + 0)) (nI nL))) hi9 (by simp only [wpB, Bool.or_eq_true]; exact Or.inr (anyB_t (p := (fun o => decide (h 246 (o * 2 + 0) = h 246 (i * 2 + 0)))) hj9 (by simpa using c41)))]; rfl) rfl

set_option maxRecDepth 100000 in
set_option maxHeartbeats 4000000 in
theorem lp_X4_hasWrongParts {l : Launch} {G : GC} {ad : Nat → Nat} {h : HP} {nL : Nat} (hnL : h 2 5 = nI nL) (hn24 : nL ≤ 24) {P : Nat} (hP : h 243 3 = nI P) (hP4 : P ≤ 4)  : ∀ (mu9 : Nat) (i : Nat) (ls3 : Option Value) (hi : i ≤ P) (hA : anyB (wpB (fun k => h 246 (k * 2 + 0)) (nI nL)) i = false) (hmu9 : P - i < mu9), PW l G cX4_hasWrongParts RX4 4 ((Option.some FieldType.boolean)) [] { frames := 3, cells := 0, slots := 0, locals := 66 } (gNm "hasWrongParts") (gME G SW ad (gR SW ad (some (.int (b2i (anyB (wpB (fun k => h 246 (k * 2 + 0)) (nI nL)) P)))) (h)) gNo 0 0) 2 [some (.ref (ad 2)), some (.ref (ad 243)), some (.int (nI i)), ls3] [] SW ad (h) 0 0 := by
  intro mu9
  induction mu9 with
  | zero => intro i ls3 hi hA hmu9; exact absurd hmu9 (Nat.not_lt_zero _)
  | succ mu9 ih =>
    intro i ls3 hi hA hmu9
    refine pw_iload_n dX4_hasWrongParts_2 rfl ?_
    refine pw_aload_n dX4_hasWrongParts_3 rfl ?_
    refine pw_geti dX4_hasWrongParts_4 lf_X4_54 sh_243 rfl ?_
    refine pw_icmp_ge dX4_hasWrongParts_7 (tgt := 58) (by decide) (fun c7 => ?_) (fun c7 => ?_)
    · skip
      have hi8 : i = P := eqN hP hi (by omega) c7
      refine pw_iconst dX4_hasWrongParts_58 (v := 0) (by decide) ?_
      exact pw_iretF dX4_hasWrongParts_59 rfl rfl rfl (by rw [← hi8, hA]; rfl) rfl
    · skip
      have hi9 : i < P := ltN hP hi (by omega) c7
      refine pw_aload_n dX4_hasWrongParts_10 rfl ?_
      refine pw_iload_n dX4_hasWrongParts_11 rfl ?_
      refine pw_cV dX4_hasWrongParts_12 (sp_X3_lotOf (part := i) (by omega)) mi_X3_lotOf mv_X3_lotOf ml_X4_67 sh_243 rfl rfl rfl rfl ⟨rfl, rfl⟩ rfl rfl ?_
      refine pw_aload_n dX4_hasWrongParts_15 rfl ?_
      refine pw_geti dX4_hasWrongParts_16 lf_X4_32 sh_2 rfl ?_
      refine pw_icmp_lt dX4_hasWrongParts_19 (tgt := 24) (by decide) (fun c19 => ?_) (fun c19 => ?_)
      · skip
        refine pw_iconst dX4_hasWrongParts_24 (v := 0) (by decide) ?_
        refine pw_istore_n dX4_hasWrongParts_25 (by decide) rfl ?_
        exact lq_X4_hasWrongParts hnL hn24 hP hP4 hi9 (fun z => ih (i + 1) _ (by omega) (anyB_s hA (by simp only [wpB, Bool.or_eq_false_iff]; exact ⟨by simpa [hnL] using c19, z⟩)) (by omega)) (i + 1) 0 (Nat.zero_le _) rfl (by omega)
      · skip
        refine pw_iconst dX4_hasWrongParts_22 (v := 1) (by decide) ?_
        exact pw_iretF dX4_hasWrongParts_23 rfl rfl rfl (by rw [anyB_t (p := (wpB (fun k => h 246 (k * 2 + 0)) (nI nL))) hi9 (by simp only [wpB, Bool.or_eq_true]; exact Or.inl (by simpa [hnL] using c19))]; rfl) rfl

set_option maxRecDepth 100000 in
set_option maxHeartbeats 4000000 in
theorem sp_X4_hasWrongParts {l : Launch} {G : GC} {ad : Nat → Nat} {h : HP} {nL : Nat} (hnL : h 2 5 = nI nL) (hn24 : nL ≤ 24) {P : Nat} (hP : h 243 3 = nI P) (hP4 : P ≤ 4) : PF l G yX4_hasWrongParts (.code yX4_hasWrongParts cX4_hasWrongParts 4 ((Option.some FieldType.boolean))) { frames := 3, cells := 0, slots := 0, locals := 66 } [.ref (ad 2), .ref (ad 243)] SW ad (h) (some (.int (b2i (anyB (wpB (fun k => h 246 (k * 2 + 0)) (nI nL)) P)))) (h) := by
  refine PF.mk (L0 := [some (.ref (ad 2)), some (.ref (ad 243)), none, none]) RX4 "hasWrongParts" 0 0 (by decide +kernel) rfl rfl ⟨rfl, rfl⟩ (by simp [Value.category]) (Nat.le_of_ble_eq_true rfl) rfl ?_
  refine pw_iconst dX4_hasWrongParts_0 (v := 0) (by decide) ?_
  refine pw_istore_n dX4_hasWrongParts_1 (by decide) rfl ?_
  exact lp_X4_hasWrongParts hnL hn24 hP hP4 (P + 1) 0 none (Nat.zero_le _) rfl (by omega)

set_option maxRecDepth 100000 in
set_option maxHeartbeats 4000000 in
theorem lp_X4_hasTooGreatPart {l : Launch} {G : GC} {ad : Nat → Nat} {h : HP} {P : Nat} (hP : h 243 3 = nI P) (hP4 : P ≤ 4) {tn : Nat → Nat} (ht : ∀ k, k < P → h 246 (k * 2 + 0) = nI (tn k) ∧ tn k < 24)  : ∀ (mu9 : Nat) (i : Nat) (hi : i ≤ P) (hA : anyB (fun k => decide (h 4 (tn k * 5 + 1) < h 246 (k * 2 + 1))) i = false) (hmu9 : P - i < mu9), PW l G cX4_hasTooGreatPart RX4 3 ((Option.some FieldType.boolean)) [] { frames := 3, cells := 0, slots := 0, locals := 66 } (gNm "hasTooGreatPart") (gME G SW ad (gR SW ad (some (.int (b2i (anyB (fun k => decide (h 4 (tn k * 5 + 1) < h 246 (k * 2 + 1))) P)))) (h)) gNo 0 0) 2 [some (.ref (ad 2)), some (.ref (ad 243)), some (.int (nI i))] [] SW ad (h) 0 0 := by
  intro mu9
  induction mu9 with
  | zero => intro i hi hA hmu9; exact absurd hmu9 (Nat.not_lt_zero _)
  | succ mu9 ih =>
    intro i hi hA hmu9
    refine pw_iload_n dX4_hasTooGreatPart_2 rfl ?_
    refine pw_aload_n dX4_hasTooGreatPart_3 rfl ?_
    refine pw_geti dX4_hasTooGreatPart_4 lf_X4_54 sh_243 rfl ?_
    refine pw_icmp_ge dX4_hasTooGreatPart_7 (tgt := 35) (by decide) (fun c7 => ?_) (fun c7 => ?_)
    · skip
      have hi8 : i = P := eqN hP hi (by omega) c7
      refine pw_iconst dX4_hasTooGreatPart_35 (v := 0) (by decide) ?_
      exact pw_iretF dX4_hasTooGreatPart_36 rfl rfl rfl (by rw [← hi8, hA]; rfl) rfl
    · skip
      have hi9 : i < P := ltN hP hi (by omega) c7
      refine pw_aload_n dX4_hasTooGreatPart_10 rfl ?_
      refine pw_iload_n dX4_hasTooGreatPart_11 rfl ?_
      refine pw_cV dX4_hasTooGreatPart_12 (sp_X3_quartersOf (part := i) (by omega)) mi_X3_quartersOf mv_X3_quartersOf ml_X4_59 sh_243 rfl rfl rfl rfl ⟨rfl, rfl⟩ rfl rfl ?_
      refine pw_aload_n dX4_hasTooGreatPart_15 rfl ?_
      refine pw_aload_n dX4_hasTooGreatPart_16 rfl ?_
      refine pw_iload_n dX4_hasTooGreatPart_17 rfl ?_
      refine pw_cV dX4_hasTooGreatPart_18 (sp_X3_lotOf (part := i) (by omega)) mi_X3_lotOf mv_X3_lotOf ml_X4_67 sh_243 rfl rfl rfl rfl ⟨rfl, rfl⟩ rfl rfl ?_
      rw [(ht i hi9).1]
      refine pw_cV dX4_hasTooGreatPart_21 (sp_X4_leftIn (lot := tn i) (ht i hi9).2) mi_X4_leftIn mv_X4_leftIn ml_X4_91 sh_2 rfl rfl rfl rfl ⟨rfl, rfl⟩ rfl rfl ?_
      refine pw_icmp_le dX4_hasTooGreatPart_24 (tgt := 29) (by decide) (fun c24 => ?_) (fun c24 => ?_)
      · skip
        refine pw_iinc dX4_hasTooGreatPart_29 rfl (d := 1) (by decide) (by decide) rfl ?_
        rw [nI_1]
        refine pw_goto dX4_hasTooGreatPart_32 (tgt := 2) (by decide) ?_
        exact ih (i + 1) (by omega) (anyB_s hA (by simpa using c24)) (by omega)
      · skip
        refine pw_iconst dX4_hasTooGreatPart_27 (v := 1) (by decide) ?_
        exact pw_iretF dX4_hasTooGreatPart_28 rfl rfl rfl (by rw [anyB_t (p := (fun k => decide (h 4 (tn k * 5 + 1) < h 246 (k * 2 + 1)))) hi9 (by simpa using c24)]; rfl) rfl

set_option maxRecDepth 100000 in
set_option maxHeartbeats 4000000 in
theorem sp_X4_hasTooGreatPart {l : Launch} {G : GC} {ad : Nat → Nat} {h : HP} {P : Nat} (hP : h 243 3 = nI P) (hP4 : P ≤ 4) {tn : Nat → Nat} (ht : ∀ k, k < P → h 246 (k * 2 + 0) = nI (tn k) ∧ tn k < 24) : PF l G yX4_hasTooGreatPart (.code yX4_hasTooGreatPart cX4_hasTooGreatPart 3 ((Option.some FieldType.boolean))) { frames := 3, cells := 0, slots := 0, locals := 66 } [.ref (ad 2), .ref (ad 243)] SW ad (h) (some (.int (b2i (anyB (fun k => decide (h 4 (tn k * 5 + 1) < h 246 (k * 2 + 1))) P)))) (h) := by
  refine PF.mk (L0 := [some (.ref (ad 2)), some (.ref (ad 243)), none]) RX4 "hasTooGreatPart" 0 0 (by decide +kernel) rfl rfl ⟨rfl, rfl⟩ (by simp [Value.category]) (Nat.le_of_ble_eq_true rfl) rfl ?_
  refine pw_iconst dX4_hasTooGreatPart_0 (v := 0) (by decide) ?_
  refine pw_istore_n dX4_hasTooGreatPart_1 (by decide) rfl ?_
  exact lp_X4_hasTooGreatPart hP hP4 ht (P + 1) 0 (Nat.zero_le _) rfl (by omega)

set_option maxRecDepth 100000 in
set_option maxHeartbeats 4000000 in
theorem lp_X4_generationOf {l : Launch} {G : GC} {ad : Nat → Nat} {h : HP} {P : Nat} (hP : h 243 3 = nI P) (hP4 : P ≤ 4) {tn : Nat → Nat} (ht : ∀ k, k < P → h 246 (k * 2 + 0) = nI (tn k) ∧ tn k < 24)  : ∀ (mu9 : Nat) (i : Nat) (x2 : Int32) (hi : i ≤ P) (hx2 : x2 = maxF (fun k => h 4 (tn k * 5 + 3)) i) (hmu9 : P - i < mu9), PW l G cX4_generationOf RX4 4 ((Option.some FieldType.int)) [] { frames := 3, cells := 0, slots := 0, locals := 66 } (gNm "generationOf") (gME G SW ad (gR SW ad (some (.int (maxF (fun k => h 4 (tn k * 5 + 3)) P + 1))) (h)) gNo 0 0) 4 [some (.ref (ad 2)), some (.ref (ad 243)), some (.int x2), some (.int (nI i))] [] SW ad (h) 0 0 := by
  intro mu9
  induction mu9 with
  | zero => intro i x2 hi hx2 hmu9; exact absurd hmu9 (Nat.not_lt_zero _)
  | succ mu9 ih =>
    intro i x2 hi hx2 hmu9
    refine pw_iload_n dX4_generationOf_4 rfl ?_
    refine pw_aload_n dX4_generationOf_5 rfl ?_
    refine pw_geti dX4_generationOf_6 lf_X4_54 sh_243 rfl ?_
    refine pw_icmp_ge dX4_generationOf_9 (tgt := 36) (by decide) (fun c9 => ?_) (fun c9 => ?_)
    · skip
      have hi8 : i = P := eqN hP hi (by omega) c9
      refine pw_iload_n dX4_generationOf_36 rfl ?_
      refine pw_iconst dX4_generationOf_37 (v := 1) (by decide) ?_
      refine pw_iadd dX4_generationOf_38 ?_
      exact pw_iretF dX4_generationOf_39 rfl rfl rfl (by rw [hx2, hi8]) rfl
    · skip
      have hi9 : i < P := ltN hP hi (by omega) c9
      refine pw_iload_n dX4_generationOf_12 rfl ?_
      refine pw_aload_n dX4_generationOf_13 rfl ?_
      refine pw_getr dX4_generationOf_14 lf_X4_14 sh_2 rfl ?_
      refine pw_aload_n dX4_generationOf_17 rfl ?_
      refine pw_iload_n dX4_generationOf_18 rfl ?_
      refine pw_cV dX4_generationOf_19 (sp_X3_lotOf (part := i) (by omega)) mi_X3_lotOf mv_X3_lotOf ml_X4_67 sh_243 rfl rfl rfl rfl ⟨rfl, rfl⟩ rfl rfl ?_
      rw [(ht i hi9).1]
      refine pw_iconst dX4_generationOf_22 (v := 3) (by decide) ?_
      refine pw_cV dX4_generationOf_23 (sp_X6_at tq_3 (r := tn i) (k := 3) rfl rfl ((ht i hi9).2) (by decide)) mi_X6_at mv_X6_at ml_X4_80 sh_3 rfl rfl rfl rfl ⟨rfl, rfl⟩ rfl rfl ?_
      refine pw_max dX4_generationOf_26 mm_X4_94 mw_max ⟨Nat.le_of_ble_eq_true rfl, Nat.le_of_ble_eq_true rfl, Nat.le_of_ble_eq_true rfl, Nat.le_of_ble_eq_true rfl⟩ ?_
      refine pw_istore_n dX4_generationOf_29 (by decide) rfl ?_
      refine pw_iinc dX4_generationOf_30 rfl (d := 1) (by decide) (by decide) rfl ?_
      rw [nI_1]
      refine pw_goto dX4_generationOf_33 (tgt := 4) (by decide) ?_
      refine ih (i + 1) _ (by omega) ?_ (by omega)
      rw [hx2]; rfl

set_option maxRecDepth 100000 in
set_option maxHeartbeats 4000000 in
theorem sp_X4_generationOf {l : Launch} {G : GC} {ad : Nat → Nat} {h : HP} {P : Nat} (hP : h 243 3 = nI P) (hP4 : P ≤ 4) {tn : Nat → Nat} (ht : ∀ k, k < P → h 246 (k * 2 + 0) = nI (tn k) ∧ tn k < 24) : PF l G yX4_generationOf (.code yX4_generationOf cX4_generationOf 4 ((Option.some FieldType.int))) { frames := 3, cells := 0, slots := 0, locals := 66 } [.ref (ad 2), .ref (ad 243)] SW ad (h) (some (.int (maxF (fun k => h 4 (tn k * 5 + 3)) P + 1))) (h) := by
  refine PF.mk (L0 := [some (.ref (ad 2)), some (.ref (ad 243)), none, none]) RX4 "generationOf" 0 0 (by decide +kernel) rfl rfl ⟨rfl, rfl⟩ (by simp [Value.category]) (Nat.le_of_ble_eq_true rfl) rfl ?_
  refine pw_iconst dX4_generationOf_0 (v := 0) (by decide) ?_
  refine pw_istore_n dX4_generationOf_1 (by decide) rfl ?_
  refine pw_iconst dX4_generationOf_2 (v := 0) (by decide) ?_
  refine pw_istore_n dX4_generationOf_3 (by decide) rfl ?_
  exact lp_X4_generationOf hP hP4 ht (P + 1) 0 0 (Nat.zero_le _) rfl (by omega)

set_option maxRecDepth 100000 in
set_option maxHeartbeats 4000000 in
theorem sp_X4_refusalOf {l : Launch} {G : GC} {ad : Nat → Nat} {h : HP} {nL : Nat} (hnL : h 2 5 = nI nL) (hn24 : nL ≤ 24) {P : Nat} (hP : h 243 3 = nI P) (hP4 : P ≤ 4) {tn : Nat → Nat} (ht : anyB (wpB (fun k => h 246 (k * 2 + 0)) (nI nL)) P = false → ∀ k, k < P → h 246 (k * 2 + 0) = nI (tn k) ∧ tn k < 24) : PF l G yX4_refusalOf (.code yX4_refusalOf cX4_refusalOf 2 ((Option.some FieldType.int))) { frames := 4, cells := 0, slots := 0, locals := 89 } [.ref (ad 2), .ref (ad 243)] SW ad (h) (some (.int (refI (anyB (wpB (fun k => h 246 (k * 2 + 0)) (nI nL)) P) (anyB (fun k => decide (h 4 (tn k * 5 + 1) < h 246 (k * 2 + 1))) P) (maxF (fun k => h 4 (tn k * 5 + 3)) P + 1) (nI nL)))) (h) := by
  refine PF.mk (L0 := [some (.ref (ad 2)), some (.ref (ad 243))]) RX4 "refusalOf" 0 0 (by decide +kernel) rfl rfl ⟨rfl, rfl⟩ (by simp [Value.category]) (Nat.le_of_ble_eq_true rfl) rfl ?_
  refine pw_aload_n dX4_refusalOf_0 rfl ?_
  refine pw_aload_n dX4_refusalOf_1 rfl ?_
  refine pw_cV dX4_refusalOf_2 (sp_X4_hasWrongParts hnL hn24 hP hP4) mi_X4_hasWrongParts mv_X4_hasWrongParts ml_X4_84 sh_2 rfl rfl rfl rfl ⟨rfl, rfl⟩ rfl rfl ?_
  refine pw_if_eq dX4_refusalOf_5 (tgt := 10) (by decide) (fun c5 => ?_) (fun c5 => ?_)
  · skip
    refine pw_aload_n dX4_refusalOf_10 rfl ?_
    refine pw_aload_n dX4_refusalOf_11 rfl ?_
    refine pw_cV dX4_refusalOf_12 (sp_X4_hasTooGreatPart hP hP4 (ht (b2i_eq c5))) mi_X4_hasTooGreatPart mv_X4_hasTooGreatPart ml_X4_88 sh_2 rfl rfl rfl rfl ⟨rfl, rfl⟩ rfl rfl ?_
    refine pw_if_eq dX4_refusalOf_15 (tgt := 20) (by decide) (fun c15 => ?_) (fun c15 => ?_)
    · skip
      refine pw_aload_n dX4_refusalOf_20 rfl ?_
      refine pw_aload_n dX4_refusalOf_21 rfl ?_
      refine pw_cV dX4_refusalOf_22 (sp_X4_generationOf hP hP4 (ht (b2i_eq c5))) mi_X4_generationOf mv_X4_generationOf ml_X4_63 sh_2 rfl rfl rfl rfl ⟨rfl, rfl⟩ rfl rfl ?_
      refine pw_iconst dX4_refusalOf_25 (v := 4) (by decide) ?_
      refine pw_icmp_le dX4_refusalOf_26 (tgt := 31) (by decide) (fun c26 => ?_) (fun c26 => ?_)
      · skip
        refine pw_aload_n dX4_refusalOf_31 rfl ?_
        refine pw_geti dX4_refusalOf_32 lf_X4_32 sh_2 rfl ?_
        refine pw_bipush dX4_refusalOf_35 (v := 24) (by decide) ?_
        refine pw_icmp_lt dX4_refusalOf_37 (tgt := 44) (by decide) (fun c37 => ?_) (fun c37 => ?_)
        · skip
          refine pw_iconst dX4_refusalOf_44 (v := 0) (by decide) ?_
          exact pw_iretF dX4_refusalOf_45 rfl rfl rfl (by rw [refI, if_neg (by rw [b2i_eq c5]; decide), if_neg (by rw [b2i_eq c15]; decide), if_neg (Int32.not_lt.mpr c26), if_pos (by rw [← hnL]; exact c37)]) rfl
        · skip
          refine pw_iconst dX4_refusalOf_40 (v := 4) (by decide) ?_
          refine pw_goto dX4_refusalOf_41 (tgt := 45) (by decide) ?_
          exact pw_iretF dX4_refusalOf_45 rfl rfl rfl (by rw [refI, if_neg (by rw [b2i_eq c5]; decide), if_neg (by rw [b2i_eq c15]; decide), if_neg (Int32.not_lt.mpr c26), if_neg (by rw [← hnL]; exact c37)]) rfl
      · skip
        refine pw_iconst dX4_refusalOf_29 (v := 3) (by decide) ?_
        exact pw_iretF dX4_refusalOf_30 rfl rfl rfl (by rw [refI, if_neg (by rw [b2i_eq c5]; decide), if_neg (by rw [b2i_eq c15]; decide), if_pos (Int32.not_le.mp c26)]) rfl
    · skip
      refine pw_iconst dX4_refusalOf_18 (v := 2) (by decide) ?_
      exact pw_iretF dX4_refusalOf_19 rfl rfl rfl (by rw [refI, if_neg (by rw [b2i_eq c5]; decide), if_pos (b2i_ne c15)]) rfl
  · skip
    refine pw_iconst dX4_refusalOf_8 (v := 1) (by decide) ?_
    exact pw_iretF dX4_refusalOf_9 rfl rfl rfl (by rw [refI, if_pos (b2i_ne c5)]) rfl

set_option maxRecDepth 100000 in
set_option maxHeartbeats 4000000 in
theorem lp_X4_partsTimesShares {l : Launch} {G : GC} {ad : Nat → Nat} {h : HP} {lot : Nat} (hlot : lot < 24) {P : Nat} (hP : h 4 (lot * 5 + 2) = nI P) (hP4 : P ≤ 4) {pk : Nat → Nat} (hpk : ∀ k, k < P → h 6 (lot * 4 + k) = nI (pk k) ∧ pk k < 24) {hv : Nat} (hhv : hv < 12)  : ∀ (mu9 : Nat) (i : Nat) (x3 : Int32) (hi : i ≤ P) (hx3 : x3 = smI h pk i lot hv) (hmu9 : P - i < mu9), PW l G cX4_partsTimesShares RX4 5 ((Option.some FieldType.int)) [] { frames := 3, cells := 0, slots := 0, locals := 66 } (gNm "partsTimesShares") (gME G SW ad (gR SW ad (some (.int (smI h pk P lot hv))) (h)) gNo 0 0) 5 [some (.ref (ad 2)), some (.int (nI lot)), some (.int (nI hv)), some (.int x3), some (.int (nI i))] [] SW ad (h) 0 0 := by
  intro mu9
  induction mu9 with
  | zero => intro i x3 hi hx3 hmu9; exact absurd hmu9 (Nat.not_lt_zero _)
  | succ mu9 ih =>
    intro i x3 hi hx3 hmu9
    refine pw_iload dX4_partsTimesShares_5 rfl ?_
    refine pw_aload_n dX4_partsTimesShares_7 rfl ?_
    refine pw_iload_n dX4_partsTimesShares_8 rfl ?_
    refine pw_cV dX4_partsTimesShares_9 (sp_X4_partsOf hlot) mi_X4_partsOf mv_X4_partsOf ml_X4_105 sh_2 rfl rfl rfl rfl ⟨rfl, rfl⟩ rfl rfl ?_
    refine pw_icmp_ge dX4_partsTimesShares_12 (tgt := 53) (by decide) (fun c12 => ?_) (fun c12 => ?_)
    · skip
      have hi8 : i = P := eqN hP hi (by omega) c12
      refine pw_iload_n dX4_partsTimesShares_53 rfl ?_
      exact pw_iretF dX4_partsTimesShares_54 rfl rfl rfl (by rw [hx3, hi8]) rfl
    · skip
      have hi9 : i < P := ltN hP hi (by omega) c12
      refine pw_iload_n dX4_partsTimesShares_15 rfl ?_
      refine pw_aload_n dX4_partsTimesShares_16 rfl ?_
      refine pw_getr dX4_partsTimesShares_17 lf_X4_23 sh_2 rfl ?_
      refine pw_iload_n dX4_partsTimesShares_20 rfl ?_
      refine pw_iload dX4_partsTimesShares_21 rfl ?_
      refine pw_cV dX4_partsTimesShares_23 (sp_X6_at tq_7 (r := lot) (k := i) rfl rfl (hlot) (by omega)) mi_X6_at mv_X6_at ml_X4_80 sh_7 rfl rfl rfl rfl ⟨rfl, rfl⟩ rfl rfl ?_
      refine pw_aload_n dX4_partsTimesShares_26 rfl ?_
      refine pw_getr dX4_partsTimesShares_27 lf_X4_26 sh_2 rfl ?_
      refine pw_aload_n dX4_partsTimesShares_30 rfl ?_
      refine pw_getr dX4_partsTimesShares_31 lf_X4_20 sh_2 rfl ?_
      refine pw_iload_n dX4_partsTimesShares_34 rfl ?_
      refine pw_iload dX4_partsTimesShares_35 rfl ?_
      refine pw_cV dX4_partsTimesShares_37 (sp_X6_at tq_5 (r := lot) (k := i) rfl rfl (hlot) (by omega)) mi_X6_at mv_X6_at ml_X4_80 sh_5 rfl rfl rfl rfl ⟨rfl, rfl⟩ rfl rfl ?_
      rw [(hpk i hi9).1]
      refine pw_iload_n dX4_partsTimesShares_40 rfl ?_
      refine pw_cV dX4_partsTimesShares_41 (sp_X6_at tq_9 (r := pk i) (k := hv) rfl rfl ((hpk i hi9).2) (hhv)) mi_X6_at mv_X6_at ml_X4_80 sh_9 rfl rfl rfl rfl ⟨rfl, rfl⟩ rfl rfl ?_
      refine pw_imul dX4_partsTimesShares_44 ?_
      refine pw_iadd dX4_partsTimesShares_45 ?_
      refine pw_istore_n dX4_partsTimesShares_46 (by decide) rfl ?_
      refine pw_iinc dX4_partsTimesShares_47 rfl (d := 1) (by decide) (by decide) rfl ?_
      rw [nI_1]
      refine pw_goto dX4_partsTimesShares_50 (tgt := 5) (by decide) ?_
      refine ih (i + 1) _ (by omega) ?_ (by omega)
      rw [hx3]; rfl

set_option maxRecDepth 100000 in
set_option maxHeartbeats 4000000 in
theorem sp_X4_partsTimesShares {l : Launch} {G : GC} {ad : Nat → Nat} {h : HP} {lot : Nat} (hlot : lot < 24) {P : Nat} (hP : h 4 (lot * 5 + 2) = nI P) (hP4 : P ≤ 4) {pk : Nat → Nat} (hpk : ∀ k, k < P → h 6 (lot * 4 + k) = nI (pk k) ∧ pk k < 24) {hv : Nat} (hhv : hv < 12) : PF l G yX4_partsTimesShares (.code yX4_partsTimesShares cX4_partsTimesShares 5 ((Option.some FieldType.int))) { frames := 3, cells := 0, slots := 0, locals := 66 } [.ref (ad 2), .int (nI lot), .int (nI hv)] SW ad (h) (some (.int (smI h pk P lot hv))) (h) := by
  refine PF.mk (L0 := [some (.ref (ad 2)), some (.int (nI lot)), some (.int (nI hv)), none, none]) RX4 "partsTimesShares" 0 0 (by decide +kernel) rfl rfl ⟨rfl, rfl⟩ (by simp [Value.category]) (Nat.le_of_ble_eq_true rfl) rfl ?_
  refine pw_iconst dX4_partsTimesShares_0 (v := 0) (by decide) ?_
  refine pw_istore_n dX4_partsTimesShares_1 (by decide) rfl ?_
  refine pw_iconst dX4_partsTimesShares_2 (v := 0) (by decide) ?_
  refine pw_istore dX4_partsTimesShares_3 (by decide) rfl ?_
  exact lp_X4_partsTimesShares hlot hP hP4 hpk hhv (P + 1) 0 0 (Nat.zero_le _) rfl (by omega)

set_option maxRecDepth 100000 in
set_option maxHeartbeats 4000000 in
theorem lq_X4_mixShares {l : Launch} {G : GC} {ad : Nat → Nat} {h : HP} {lot : Nat} (hlot : lot < 24) {P : Nat} (hP : h 4 (lot * 5 + 2) = nI P) (hP4 : P ≤ 4) {pk : Nat → Nat} (hpk : ∀ k, k < P → h 6 (lot * 4 + k) = nI (pk k) ∧ pk k < 24) {T : Int32} (hT0 : 0 < T) {ls6 : Option Value} : ∀ (mu9 : Nat) (i : Nat) (hi : i ≤ 12) (hmu9 : 12 - i < mu9), PW l G cX4_mixShares RX4 7 ((Option.none : Option FieldType)) [] { frames := 4, cells := 0, slots := 0, locals := 90 } (gNm "mixShares") (gME G SW ad (gR SW ad (none) (mixH h pk P lot T)) gNo 0 0) 72 [some (.ref (ad 2)), some (.int (nI lot)), some (.int T), some (.ref (ad 249)), some (.int (msM h pk P lot T 12)), some (.int (nI i)), ls6] [] SW ad (hN (hM h pk P lot T 12) lot (msM h pk P lot T 12) i) 0 0 := by
  intro mu9
  induction mu9 with
  | zero => intro i hi hmu9; exact absurd hmu9 (Nat.not_lt_zero _)
  | succ mu9 ih =>
    intro i hi hmu9
    refine pw_iload dX4_mixShares_72 rfl ?_
    refine pw_bipush dX4_mixShares_74 (v := 12) (by decide) ?_
    refine pw_icmp_ge dX4_mixShares_76 (tgt := 108) (by decide) (fun c76 => ?_) (fun c76 => ?_)
    · skip
      have hi8 : i = 12 := eqN (N := 12) rfl hi (by decide) c76
      exact pw_retF dX4_mixShares_108 rfl rfl (by rw [hi8]; rfl)
    · skip
      have hi9 : i < 12 := ltN (N := 12) rfl hi (by decide) c76
      refine pw_aload_n dX4_mixShares_79 rfl ?_
      refine pw_iconst dX4_mixShares_80 (v := 0) (by decide) ?_
      refine pw_iload dX4_mixShares_81 rfl ?_
      refine pw_cV dX4_mixShares_83 (sp_X6_rankOf tq_249 (r := 0) (k := i) rfl rfl (by decide) hi9) mi_X6_rankOf mv_X6_rankOf ml_X4_102 sh_249 rfl rfl rfl rfl ⟨rfl, rfl⟩ rfl rfl ?_
      refine pw_iload dX4_mixShares_86 rfl ?_
      refine pw_icmp_ge dX4_mixShares_88 (tgt := 102) (by decide) (fun c88 => ?_) (fun c88 => ?_)
      · skip
        refine pw_iinc dX4_mixShares_102 rfl (d := 1) (by decide) (by decide) rfl ?_
        rw [nI_1]
        refine pw_goto dX4_mixShares_105 (tgt := 72) (by decide) ?_
        have e8 := ih (i + 1) (by omega) (by omega)
        rw [hN, if_neg (by simpa using c88)] at e8
        exact e8
      · skip
        refine pw_aload_n dX4_mixShares_91 rfl ?_
        refine pw_getr dX4_mixShares_92 lf_X4_26 sh_2 rfl ?_
        refine pw_iload_n dX4_mixShares_95 rfl ?_
        refine pw_iload dX4_mixShares_96 rfl ?_
        refine pw_iconst dX4_mixShares_98 (v := 1) (by decide) ?_
        refine pw_cVn dX4_mixShares_99 (sp_X6_add tq_9 (r := lot) (k := i) rfl rfl (hlot) (hi9)) mi_X6_add mv_X6_add ml_X4_77 sh_9 rfl rfl rfl rfl ⟨rfl, rfl⟩ rfl rfl ?_
        refine pw_iinc dX4_mixShares_102 rfl (d := 1) (by decide) (by decide) rfl ?_
        rw [nI_1]
        refine pw_goto dX4_mixShares_105 (tgt := 72) (by decide) ?_
        have e8 := ih (i + 1) (by omega) (by omega)
        rw [hN, if_pos (by simpa using c88)] at e8
        exact e8

set_option maxRecDepth 100000 in
set_option maxHeartbeats 4000000 in
theorem lp_X4_mixShares {l : Launch} {G : GC} {ad : Nat → Nat} {h : HP} {lot : Nat} (hlot : lot < 24) {P : Nat} (hP : h 4 (lot * 5 + 2) = nI P) (hP4 : P ≤ 4) {pk : Nat → Nat} (hpk : ∀ k, k < P → h 6 (lot * 4 + k) = nI (pk k) ∧ pk k < 24) {T : Int32} (hT0 : 0 < T)  : ∀ (mu9 : Nat) (i : Nat) (x4 : Int32) (ls6 : Option Value) (hi : i ≤ 12) (hx4 : x4 = msM h pk P lot T i) (hmu9 : 12 - i < mu9), PW l G cX4_mixShares RX4 7 ((Option.none : Option FieldType)) [] { frames := 4, cells := 0, slots := 0, locals := 90 } (gNm "mixShares") (gME G SW ad (gR SW ad (none) (mixH h pk P lot T)) gNo 0 0) 13 [some (.ref (ad 2)), some (.int (nI lot)), some (.int T), some (.ref (ad 249)), some (.int x4), some (.int (nI i)), ls6] [] SW ad (hM h pk P lot T i) 0 0 := by
  intro mu9
  induction mu9 with
  | zero => intro i x4 ls6 hi hx4 hmu9; exact absurd hmu9 (Nat.not_lt_zero _)
  | succ mu9 ih =>
    intro i x4 ls6 hi hx4 hmu9
    refine pw_iload dX4_mixShares_13 rfl ?_
    refine pw_bipush dX4_mixShares_15 (v := 12) (by decide) ?_
    refine pw_icmp_ge dX4_mixShares_17 (tgt := 69) (by decide) (fun c17 => ?_) (fun c17 => ?_)
    · skip
      have hi8 : i = 12 := eqN (N := 12) rfl hi (by decide) c17
      subst hi8
      subst hx4
      refine pw_iconst dX4_mixShares_69 (v := 0) (by decide) ?_
      refine pw_istore dX4_mixShares_70 (by decide) rfl ?_
      exact lq_X4_mixShares hlot hP hP4 hpk hT0 13 0 (Nat.zero_le _) (by decide)
    · skip
      have hi9 : i < 12 := ltN (N := 12) rfl hi (by decide) c17
      refine pw_aload_n dX4_mixShares_20 rfl ?_
      refine pw_iload_n dX4_mixShares_21 rfl ?_
      refine pw_iload dX4_mixShares_22 rfl ?_
      refine pw_cV dX4_mixShares_24 (sp_X4_partsTimesShares (h := hM h pk P lot T i) hlot (by rw [hM_o _ _ _ _ _ _ _ _ (by decide) (by decide)]; exact hP) hP4 (fun k hk => by rw [hM_o _ _ _ _ _ _ _ _ (by decide) (by decide)]; exact hpk k hk) hi9) mi_X4_partsTimesShares mv_X4_partsTimesShares ml_X4_99 sh_2 rfl rfl rfl rfl ⟨rfl, rfl⟩ rfl rfl ?_
      refine pw_istore dX4_mixShares_27 (by decide) rfl ?_
      refine pw_aload_n dX4_mixShares_29 rfl ?_
      refine pw_getr dX4_mixShares_30 lf_X4_26 sh_2 rfl ?_
      refine pw_iload_n dX4_mixShares_33 rfl ?_
      refine pw_iload dX4_mixShares_34 rfl ?_
      refine pw_iload dX4_mixShares_36 rfl ?_
      refine pw_iload_n dX4_mixShares_38 rfl ?_
      refine pw_idiv dX4_mixShares_39 (gt_ne0 hT0) ?_
      refine pw_cVn dX4_mixShares_40 (sp_X6_put tq_9 (r := lot) (k := i) rfl rfl (hlot) (hi9)) mi_X6_put mv_X6_put ml_X4_46 sh_9 rfl rfl rfl rfl ⟨rfl, rfl⟩ rfl rfl ?_
      refine pw_aload_n dX4_mixShares_43 rfl ?_
      refine pw_iconst dX4_mixShares_44 (v := 0) (by decide) ?_
      refine pw_iload dX4_mixShares_45 rfl ?_
      refine pw_iload dX4_mixShares_47 rfl ?_
      refine pw_iload_n dX4_mixShares_49 rfl ?_
      refine pw_irem dX4_mixShares_50 (gt_ne0 hT0) ?_
      refine pw_cVn dX4_mixShares_51 (sp_X6_put tq_249 (r := 0) (k := i) rfl rfl (by decide) (hi9)) mi_X6_put mv_X6_put ml_X4_46 sh_249 rfl rfl rfl rfl ⟨rfl, rfl⟩ rfl rfl ?_
      refine pw_iload dX4_mixShares_54 rfl ?_
      refine pw_iload dX4_mixShares_56 rfl ?_
      refine pw_iload_n dX4_mixShares_58 rfl ?_
      refine pw_idiv dX4_mixShares_59 (gt_ne0 hT0) ?_
      refine pw_isub dX4_mixShares_60 ?_
      refine pw_istore dX4_mixShares_61 (by decide) rfl ?_
      refine pw_iinc dX4_mixShares_63 rfl (d := 1) (by decide) (by decide) rfl ?_
      rw [nI_1]
      refine pw_goto dX4_mixShares_66 (tgt := 13) (by decide) ?_
      refine ih (i + 1) _ _ (by omega) ?_ (by omega)
      rw [hx4]; rfl

set_option maxRecDepth 100000 in
set_option maxHeartbeats 4000000 in
theorem sp_X4_mixShares {l : Launch} {G : GC} {ad : Nat → Nat} {h : HP} {lot : Nat} (hlot : lot < 24) {P : Nat} (hP : h 4 (lot * 5 + 2) = nI P) (hP4 : P ≤ 4) {pk : Nat → Nat} (hpk : ∀ k, k < P → h 6 (lot * 4 + k) = nI (pk k) ∧ pk k < 24) {T : Int32} (hT0 : 0 < T) : PF l G yX4_mixShares (.code yX4_mixShares cX4_mixShares 7 ((Option.none : Option FieldType))) { frames := 4, cells := 0, slots := 0, locals := 90 } [.ref (ad 2), .int (nI lot), .int (T), .ref (ad 249)] SW ad (h) (none) (mixH h pk P lot T) := by
  refine PF.mk (L0 := [some (.ref (ad 2)), some (.int (nI lot)), some (.int (T)), some (.ref (ad 249)), none, none, none]) RX4 "mixShares" 0 0 (by decide +kernel) rfl rfl ⟨rfl, rfl⟩ (by simp [Value.category]) (Nat.le_of_ble_eq_true rfl) rfl ?_
  refine pw_iload_n dX4_mixShares_0 rfl ?_
  refine pw_if_gt dX4_mixShares_1 (tgt := 5) (by decide) (fun c1 => ?_) (fun c1 => absurd c1 (fun q => q hT0))
  refine pw_sipush dX4_mixShares_5 (v := 1000) (by decide) ?_
  refine pw_istore dX4_mixShares_8 (by decide) rfl ?_
  refine pw_iconst dX4_mixShares_10 (v := 0) (by decide) ?_
  refine pw_istore dX4_mixShares_11 (by decide) rfl ?_
  exact lp_X4_mixShares hlot hP hP4 hpk hT0 13 0 1000 none (Nat.zero_le _) rfl (by decide)

