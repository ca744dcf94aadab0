/-! BOTTLINGS AND CUSTOMERS -/
def prI (k : Nat) : Int32 := if k = 0 then 12 else if k = 1 then 6 else 3
def msI (w d : Int32) : Int32 := if 0 < w - d then w - d else 0
def mnI (a b : Int32) : Int32 := if b < a then b else a
def filH (h : HP) (n : Nat) (lot b : Int32) : HP := hput (hput (hput (hput h 15 (n * 7 + 0) lot) 15 (n * 7 + 1) b) 15 (n * 7 + 2) b) 13 1 (nI (n + 1))
def labH (h : HP) (n : Nat) (v g s r : Int32) : HP := hput (hput (hput (hput h 15 (n * 7 + 3) v) 15 (n * 7 + 4) g) 15 (n * 7 + 5) s) 15 (n * 7 + 6) r
/-- who is on the list of a bottling, of a kind -/
def lnB (h : HP) (b k c : Nat) : Bool := decide (h 18 (c * 1 + 0) = nI k) && decide (0 < msI (h 22 (c * 16 + b)) (h 20 (c * 16 + b)))
def lnI (h : HP) (b k : Nat) : Nat → HP × Nat → HP × Nat
  | 0, x => x
  | c + 1, x => if lnB h b k c then (hput (lnI h b k c x).1 248 (0 * 8 + (lnI h b k c x).2) (nI c), (lnI h b k c x).2 + 1) else lnI h b k c x
def lnK (h : HP) (b nC : Nat) : Nat → HP × Nat
  | 0 => (h, 0)
  | k + 1 => lnI h b k nC (lnK h b nC k)
theorem lnI_o (h : HP) (b k : Nat) : ∀ (c : Nat) (x : HP × Nat) (q j : Nat), q ≠ 248 → (lnI h b k c x).1 q j = x.1 q j
  | 0, _, _, _, _ => rfl
  | c + 1, x, q, j, hq => by
    unfold lnI; split
    · show hput (lnI h b k c x).1 248 _ _ q j = _
      rw [hput, if_neg hq]; exact lnI_o h b k c x q j hq
    · exact lnI_o h b k c x q j hq
theorem lnK_o (h : HP) (b nC : Nat) : ∀ (k q j : Nat), q ≠ 248 → (lnK h b nC k).1 q j = h q j
  | 0, _, _, _ => rfl
  | k + 1, q, j, hq => by rw [lnK, lnI_o _ _ _ _ _ _ _ hq]; exact lnK_o h b nC k q j hq
theorem lnI_n (h : HP) (b k : Nat) : ∀ (c : Nat) (x : HP × Nat), (lnI h b k c x).2 = x.2 + cntB (lnB h b k) c
  | 0, _ => rfl
  | c + 1, x => by
    unfold lnI; split
    · rename_i q
      show (lnI h b k c x).2 + 1 = _
      rw [lnI_n h b k c x, cntB, if_pos q]; omega
    · rename_i q
      rw [lnI_n h b k c x, cntB, if_neg q]; omega
theorem cntB_mono (p : Nat → Bool) {m n : Nat} (h : m ≤ n) : cntB p m ≤ cntB p n := by
  induction n with
  | zero => rw [Nat.le_zero.mp h]; exact Nat.le_refl _
  | succ n ih =>
    rcases Nat.lt_or_ge n m with q | q
    · have : m = n + 1 := by omega
      rw [this]; exact Nat.le_refl _
    · exact Nat.le_trans (ih q) (Nat.le_add_right _ _)
theorem cntB_3 (p q r : Nat → Bool) (h1 : ∀ i, p i = true → q i = false) (h2 : ∀ i, p i = true → r i = false) (h3 : ∀ i, q i = true → r i = false) : ∀ n, cntB p n + cntB q n + cntB r n ≤ n
  | 0 => Nat.le_refl 0
  | n + 1 => by
    have ih := cntB_3 p q r h1 h2 h3 n
    have a := h1 n; have b := h2 n; have c := h3 n
    simp only [cntB]
    cases hp : p n <;> cases hq : q n <;> cases hr : r n <;> simp_all <;> omega
theorem lnB_ne (h : HP) (b : Nat) {k k' : Nat} (hk : k < 3) (hk' : k' < 3) (hne : k ≠ k') (i : Nat) (hp : lnB h b k i = true) : lnB h b k' i = false := by
  simp only [lnB, Bool.and_eq_true, decide_eq_true_eq] at hp
  simp only [lnB, Bool.and_eq_false_iff, decide_eq_false_iff_not]
  left
  rw [hp.1, nI_eq (by omega) (by omega)]
  exact hne
theorem lnK_lt (h : HP) (b nC k c : Nat) (hk : k < 3) (hc : c < nC) (hb : lnB h b k c = true) : (lnI h b k c (lnK h b nC k)).2 < nC := by
  have e3 := cntB_3 (lnB h b 0) (lnB h b 1) (lnB h b 2) (lnB_ne h b (by decide) (by decide) (by decide)) (lnB_ne h b (by decide) (by decide) (by decide)) (lnB_ne h b (by decide) (by decide) (by decide)) nC
  have e4 : cntB (lnB h b k) c + 1 ≤ cntB (lnB h b k) nC := by
    have e5 : cntB (lnB h b k) (c + 1) = cntB (lnB h b k) c + 1 := by simp [cntB, hb]
    rw [← e5]; exact cntB_mono _ hc
  rw [lnI_n]
  rcases (show k = 0 ∨ k = 1 ∨ k = 2 by omega) with rfl | rfl | rfl
  · simp only [lnK]; omega
  · simp only [lnK, lnI_n]; omega
  · simp only [lnK, lnI_n]; omega
/-- what a customer gets -/
def gtI (h : HP) (kd c b : Nat) (stock : Int32) : Int32 := mnI (prI kd) (mnI (msI (h 22 (c * 16 + b)) (h 20 (c * 16 + b))) stock)
def hoP (kd ln : Nat → Nat) (b : Nat) (stock : Int32) (x : HP × Int32) : Nat → HP × Int32
  | 0 => x
  | k + 1 => (hput (hoP kd ln b stock x k).1 20 (ln k * 16 + b) ((hoP kd ln b stock x k).1 20 (ln k * 16 + b) + gtI (hoP kd ln b stock x k).1 (kd (ln k)) (ln k) b (stock - (hoP kd ln b stock x k).2)), (hoP kd ln b stock x k).2 + gtI (hoP kd ln b stock x k).1 (kd (ln k)) (ln k) b (stock - (hoP kd ln b stock x k).2))
theorem hoP_o (kd ln : Nat → Nat) (b : Nat) (stock : Int32) (x : HP × Int32) : ∀ (k q j : Nat), q ≠ 20 → (hoP kd ln b stock x k).1 q j = x.1 q j
  | 0, _, _, _ => rfl
  | k + 1, q, j, hq => by
    show hput (hoP kd ln b stock x k).1 20 _ _ q j = _
    rw [hput, if_neg hq]; exact hoP_o kd ln b stock x k q j hq
def hoR (kd ln : Nat → Nat) (b : Nat) (stock : Int32) (len : Nat) : Nat → HP × Int32 → HP × Int32
  | 0, x => x
  | m + 1, x => if x.2 < (hoP kd ln b stock x len).2 then hoR kd ln b stock len m (hoP kd ln b stock x len) else hoP kd ln b stock x len
set_option maxRecDepth 100000 in
set_option maxHeartbeats 4000000 in
theorem sp_X0_fill {l : Launch} {G : GC} {ad : Nat → Nat} {h : HP} {nB : Nat} (hnB : h 13 1 = nI nB) (hn : nB < 16) {q s : Int32} : PF l G yX0_fill (.code yX0_fill cX0_fill 4 ((Option.some FieldType.int))) { frames := 2, cells := 0, slots := 0, locals := 46 } [.ref (ad 13), .int (q), .int (s)] SW ad (h) (some (.int (nI nB))) (filH h nB q s) := by
  refine PF.mk (L0 := [some (.ref (ad 13)), some (.int (q)), some (.int (s)), none]) RX0 "fill" 0 0 (by decide +kernel) rfl rfl ⟨rfl, rfl⟩ (by simp [Value.category]) (Nat.le_of_ble_eq_true rfl) rfl ?_
  refine pw_aload_n dX0_fill_0 rfl ?_
  refine pw_geti dX0_fill_1 lf_X0_20 sh_13 rfl ?_
  rw [hnB]
  refine pw_istore_n dX0_fill_4 (by decide) rfl ?_
  refine pw_aload_n dX0_fill_5 rfl ?_
  refine pw_getr dX0_fill_6 lf_X0_14 sh_13 rfl ?_
  refine pw_iload_n dX0_fill_9 rfl ?_
  refine pw_iconst dX0_fill_10 (v := 0) (by decide) ?_
  refine pw_iload_n dX0_fill_11 rfl ?_
  refine pw_cVn dX0_fill_12 (sp_X6_put tq_14 (r := nB) (k := 0) rfl rfl (hn) (by decide)) mi_X6_put mv_X6_put ml_X0_28 sh_14 rfl rfl rfl rfl ⟨rfl, rfl⟩ rfl rfl ?_
  refine pw_aload_n dX0_fill_15 rfl ?_
  refine pw_getr dX0_fill_16 lf_X0_14 sh_13 rfl ?_
  refine pw_iload_n dX0_fill_19 rfl ?_
  refine pw_iconst dX0_fill_20 (v := 1) (by decide) ?_
  refine pw_iload_n dX0_fill_21 rfl ?_
  refine pw_cVn dX0_fill_22 (sp_X6_put tq_14 (r := nB) (k := 1) rfl rfl (hn) (by decide)) mi_X6_put mv_X6_put ml_X0_28 sh_14 rfl rfl rfl rfl ⟨rfl, rfl⟩ rfl rfl ?_
  refine pw_aload_n dX0_fill_25 rfl ?_
  refine pw_getr dX0_fill_26 lf_X0_14 sh_13 rfl ?_
  refine pw_iload_n dX0_fill_29 rfl ?_
  refine pw_iconst dX0_fill_30 (v := 2) (by decide) ?_
  refine pw_iload_n dX0_fill_31 rfl ?_
  refine pw_cVn dX0_fill_32 (sp_X6_put tq_14 (r := nB) (k := 2) rfl rfl (hn) (by decide)) mi_X6_put mv_X6_put ml_X0_28 sh_14 rfl rfl rfl rfl ⟨rfl, rfl⟩ rfl rfl ?_
  refine pw_aload_n dX0_fill_35 rfl ?_
  refine pw_dup dX0_fill_36 rfl ?_
  refine pw_geti dX0_fill_37 lf_X0_20 sh_13 rfl ?_
  refine pw_iconst dX0_fill_40 (v := 1) (by decide) ?_
  refine pw_iadd dX0_fill_41 ?_
  rw [show hput (hput (hput h 15 (nB * 7 + 0) q) 15 (nB * 7 + 1) s) 15 (nB * 7 + 2) s 13 1 = nI nB from hnB, nI_1]
  refine pw_puti dX0_fill_42 lf_X0_20 lp_0_1 sh_13 rfl rfl rfl ?_
  refine pw_iload_n dX0_fill_45 rfl ?_
  exact pw_iretF dX0_fill_46 rfl rfl rfl rfl rfl

set_option maxRecDepth 100000 in
set_option maxHeartbeats 4000000 in
theorem sp_X0_putLabel {l : Launch} {G : GC} {ad : Nat → Nat} {h : HP} {b : Nat} (hb : b < 16) {v g s r : Int32} : PF l G yX0_putLabel (.code yX0_putLabel cX0_putLabel 6 ((Option.none : Option FieldType))) { frames := 2, cells := 0, slots := 0, locals := 46 } [.ref (ad 13), .int (nI b), .int (v), .int (g), .int (s), .int (r)] SW ad (h) (none) (labH h b v g s r) := by
  refine PF.mk (L0 := [some (.ref (ad 13)), some (.int (nI b)), some (.int (v)), some (.int (g)), some (.int (s)), some (.int (r))]) RX0 "putLabel" 0 0 (by decide +kernel) rfl rfl ⟨rfl, rfl⟩ (by simp [Value.category]) (Nat.le_of_ble_eq_true rfl) rfl ?_
  refine pw_aload_n dX0_putLabel_0 rfl ?_
  refine pw_getr dX0_putLabel_1 lf_X0_14 sh_13 rfl ?_
  refine pw_iload_n dX0_putLabel_4 rfl ?_
  refine pw_iconst dX0_putLabel_5 (v := 3) (by decide) ?_
  refine pw_iload_n dX0_putLabel_6 rfl ?_
  refine pw_cVn dX0_putLabel_7 (sp_X6_put tq_14 (r := b) (k := 3) rfl rfl (hb) (by decide)) mi_X6_put mv_X6_put ml_X0_28 sh_14 rfl rfl rfl rfl ⟨rfl, rfl⟩ rfl rfl ?_
  refine pw_aload_n dX0_putLabel_10 rfl ?_
  refine pw_getr dX0_putLabel_11 lf_X0_14 sh_13 rfl ?_
  refine pw_iload_n dX0_putLabel_14 rfl ?_
  refine pw_iconst dX0_putLabel_15 (v := 4) (by decide) ?_
  refine pw_iload_n dX0_putLabel_16 rfl ?_
  refine pw_cVn dX0_putLabel_17 (sp_X6_put tq_14 (r := b) (k := 4) rfl rfl (hb) (by decide)) mi_X6_put mv_X6_put ml_X0_28 sh_14 rfl rfl rfl rfl ⟨rfl, rfl⟩ rfl rfl ?_
  refine pw_aload_n dX0_putLabel_20 rfl ?_
  refine pw_getr dX0_putLabel_21 lf_X0_14 sh_13 rfl ?_
  refine pw_iload_n dX0_putLabel_24 rfl ?_
  refine pw_iconst dX0_putLabel_25 (v := 5) (by decide) ?_
  refine pw_iload dX0_putLabel_26 rfl ?_
  refine pw_cVn dX0_putLabel_28 (sp_X6_put tq_14 (r := b) (k := 5) rfl rfl (hb) (by decide)) mi_X6_put mv_X6_put ml_X0_28 sh_14 rfl rfl rfl rfl ⟨rfl, rfl⟩ rfl rfl ?_
  refine pw_aload_n dX0_putLabel_31 rfl ?_
  refine pw_getr dX0_putLabel_32 lf_X0_14 sh_13 rfl ?_
  refine pw_iload_n dX0_putLabel_35 rfl ?_
  refine pw_bipush dX0_putLabel_36 (v := 6) (by decide) ?_
  refine pw_iload dX0_putLabel_38 rfl ?_
  refine pw_cVn dX0_putLabel_40 (sp_X6_put tq_14 (r := b) (k := 6) rfl rfl (hb) (by decide)) mi_X6_put mv_X6_put ml_X0_28 sh_14 rfl rfl rfl rfl ⟨rfl, rfl⟩ rfl rfl ?_
  exact pw_retF dX0_putLabel_43 rfl rfl rfl

set_option maxRecDepth 100000 in
set_option maxHeartbeats 4000000 in
theorem sp_X0_lotOf {l : Launch} {G : GC} {ad : Nat → Nat} {h : HP} {b : Nat} (hb : b < 16) : PF l G yX0_lotOf (.code yX0_lotOf cX0_lotOf 2 ((Option.some FieldType.int))) { frames := 2, cells := 0, slots := 0, locals := 45 } [.ref (ad 13), .int (nI b)] SW ad (h) (some (.int (h 15 (b * 7 + 0)))) (h) := by
  refine PF.mk (L0 := [some (.ref (ad 13)), some (.int (nI b))]) RX0 "lotOf" 0 0 (by decide +kernel) rfl rfl ⟨rfl, rfl⟩ (by simp [Value.category]) (Nat.le_of_ble_eq_true rfl) rfl ?_
  refine pw_aload_n dX0_lotOf_0 rfl ?_
  refine pw_getr dX0_lotOf_1 lf_X0_14 sh_13 rfl ?_
  refine pw_iload_n dX0_lotOf_4 rfl ?_
  refine pw_iconst dX0_lotOf_5 (v := 0) (by decide) ?_
  refine pw_cV dX0_lotOf_6 (sp_X6_at tq_14 (r := b) (k := 0) rfl rfl (hb) (by decide)) mi_X6_at mv_X6_at ml_X0_32 sh_14 rfl rfl rfl rfl ⟨rfl, rfl⟩ rfl rfl ?_
  exact pw_iretF dX0_lotOf_9 rfl rfl rfl rfl rfl

set_option maxRecDepth 100000 in
set_option maxHeartbeats 4000000 in
theorem sp_X0_stockOf {l : Launch} {G : GC} {ad : Nat → Nat} {h : HP} {b : Nat} (hb : b < 16) : PF l G yX0_stockOf (.code yX0_stockOf cX0_stockOf 2 ((Option.some FieldType.int))) { frames := 2, cells := 0, slots := 0, locals := 45 } [.ref (ad 13), .int (nI b)] SW ad (h) (some (.int (h 15 (b * 7 + 2)))) (h) := by
  refine PF.mk (L0 := [some (.ref (ad 13)), some (.int (nI b))]) RX0 "stockOf" 0 0 (by decide +kernel) rfl rfl ⟨rfl, rfl⟩ (by simp [Value.category]) (Nat.le_of_ble_eq_true rfl) rfl ?_
  refine pw_aload_n dX0_stockOf_0 rfl ?_
  refine pw_getr dX0_stockOf_1 lf_X0_14 sh_13 rfl ?_
  refine pw_iload_n dX0_stockOf_4 rfl ?_
  refine pw_iconst dX0_stockOf_5 (v := 2) (by decide) ?_
  refine pw_cV dX0_stockOf_6 (sp_X6_at tq_14 (r := b) (k := 2) rfl rfl (hb) (by decide)) mi_X6_at mv_X6_at ml_X0_32 sh_14 rfl rfl rfl rfl ⟨rfl, rfl⟩ rfl rfl ?_
  exact pw_iretF dX0_stockOf_9 rfl rfl rfl rfl rfl

set_option maxRecDepth 100000 in
set_option maxHeartbeats 4000000 in
theorem sp_X0_addToStock {l : Launch} {G : GC} {ad : Nat → Nat} {h : HP} {b : Nat} (hb : b < 16) {q : Int32} : PF l G yX0_addToStock (.code yX0_addToStock cX0_addToStock 3 ((Option.none : Option FieldType))) { frames := 3, cells := 0, slots := 0, locals := 69 } [.ref (ad 13), .int (nI b), .int (q)] SW ad (h) (none) (hput h 15 (b * 7 + 2) (h 15 (b * 7 + 2) + q)) := by
  refine PF.mk (L0 := [some (.ref (ad 13)), some (.int (nI b)), some (.int (q))]) RX0 "addToStock" 0 0 (by decide +kernel) rfl rfl ⟨rfl, rfl⟩ (by simp [Value.category]) (Nat.le_of_ble_eq_true rfl) rfl ?_
  refine pw_aload_n dX0_addToStock_0 rfl ?_
  refine pw_getr dX0_addToStock_1 lf_X0_14 sh_13 rfl ?_
  refine pw_iload_n dX0_addToStock_4 rfl ?_
  refine pw_iconst dX0_addToStock_5 (v := 2) (by decide) ?_
  refine pw_iload_n dX0_addToStock_6 rfl ?_
  refine pw_cVn dX0_addToStock_7 (sp_X6_add tq_14 (r := b) (k := 2) rfl rfl (hb) (by decide)) mi_X6_add mv_X6_add ml_X0_36 sh_14 rfl rfl rfl rfl ⟨rfl, rfl⟩ rfl rfl ?_
  exact pw_retF dX0_addToStock_10 rfl rfl rfl

set_option maxRecDepth 100000 in
set_option maxHeartbeats 4000000 in
theorem lp_X0_ofLots {l : Launch} {G : GC} {ad : Nat → Nat} {h : HP} {nB : Nat} (hnB : h 13 1 = nI nB) (hn : nB ≤ 16) {lots : Int32}  : ∀ (mu9 : Nat) (i : Nat) (x2 : Int32) (hi : i ≤ nB) (hx2 : x2 = orI (fun b => ifOr ((fun b => inS lots (h 15 (b * 7 + 0))) b) (bit1 b)) i) (hmu9 : nB - i < mu9), PW l G cX0_ofLots RX0 4 ((Option.some FieldType.int)) [] { frames := 3, cells := 0, slots := 0, locals := 66 } (gNm "ofLots") (gME G SW ad (gR SW ad (some (.int (orI (fun b => ifOr ((fun b => inS lots (h 15 (b * 7 + 0))) b) (bit1 b)) nB))) (h)) gNo 0 0) 4 [some (.ref (ad 13)), some (.int lots), some (.int x2), some (.int (nI i))] [] SW ad (h) 0 0 := by
  intro mu9
  induction mu9 with
  | zero => intro i x2 hi hx2 hmu9; exact absurd hmu9 (Nat.not_lt_zero _)
  | succ mu9 ih =>
    intro i x2 hi hx2 hmu9
    refine pw_iload_n dX0_ofLots_4 rfl ?_
    refine pw_aload_n dX0_ofLots_5 rfl ?_
    refine pw_geti dX0_ofLots_6 lf_X0_20 sh_13 rfl ?_
    refine pw_icmp_ge dX0_ofLots_9 (tgt := 36) (by decide) (fun c9 => ?_) (fun c9 => ?_)
    · skip
      have hi8 : i = nB := eqN hnB hi (by omega) c9
      refine pw_iload_n dX0_ofLots_36 rfl ?_
      exact pw_iretF dX0_ofLots_37 rfl rfl rfl (by rw [hx2, hi8]) rfl
    · skip
      have hi9 : i < nB := ltN hnB hi (by omega) c9
      refine pw_iload_n dX0_ofLots_12 rfl ?_
      refine pw_aload_n dX0_ofLots_13 rfl ?_
      refine pw_iload_n dX0_ofLots_14 rfl ?_
      refine pw_cV dX0_ofLots_15 (sp_X0_lotOf (b := i) (by omega)) mi_X0_lotOf mv_X0_lotOf ml_X0_39 sh_13 rfl rfl rfl rfl ⟨rfl, rfl⟩ rfl rfl ?_
      refine pw_cS dX0_ofLots_18 (sp_X7_isIn) mi_X7_isIn ms_X7_isIn ml_X0_43 rfl rfl ⟨rfl, rfl⟩ rfl rfl ?_
      refine pw_if_eq dX0_ofLots_21 (tgt := 30) (by decide) (fun c21 => ?_) (fun c21 => ?_)
      · skip
        refine pw_iinc dX0_ofLots_30 rfl (d := 1) (by decide) (by decide) rfl ?_
        rw [nI_1]
        refine pw_goto dX0_ofLots_33 (tgt := 4) (by decide) ?_
        refine ih (i + 1) _ (by omega) ?_ (by omega)
        first | exact or_s (p := (fun b => inS lots (h 15 (b * 7 + 0)))) (g := bit1) hx2 (b2i_ne c21) | exact or_n (p := (fun b => inS lots (h 15 (b * 7 + 0)))) (g := bit1) hx2 (b2i_eq c21)
      · skip
        refine pw_iload_n dX0_ofLots_24 rfl ?_
        refine pw_iconst dX0_ofLots_25 (v := 1) (by decide) ?_
        refine pw_iload_n dX0_ofLots_26 rfl ?_
        refine pw_ishl dX0_ofLots_27 ?_
        refine pw_ior dX0_ofLots_28 ?_
        refine pw_istore_n dX0_ofLots_29 (by decide) rfl ?_
        refine pw_iinc dX0_ofLots_30 rfl (d := 1) (by decide) (by decide) rfl ?_
        rw [nI_1]
        refine pw_goto dX0_ofLots_33 (tgt := 4) (by decide) ?_
        refine ih (i + 1) _ (by omega) ?_ (by omega)
        first | exact or_s (p := (fun b => inS lots (h 15 (b * 7 + 0)))) (g := bit1) hx2 (b2i_ne c21) | exact or_n (p := (fun b => inS lots (h 15 (b * 7 + 0)))) (g := bit1) hx2 (b2i_eq c21)

set_option maxRecDepth 100000 in
set_option maxHeartbeats 4000000 in
theorem sp_X0_ofLots {l : Launch} {G : GC} {ad : Nat → Nat} {h : HP} {nB : Nat} (hnB : h 13 1 = nI nB) (hn : nB ≤ 16) {lots : Int32} : PF l G yX0_ofLots (.code yX0_ofLots cX0_ofLots 4 ((Option.some FieldType.int))) { frames := 3, cells := 0, slots := 0, locals := 66 } [.ref (ad 13), .int (lots)] SW ad (h) (some (.int (orI (fun b => ifOr ((fun b => inS lots (h 15 (b * 7 + 0))) b) (bit1 b)) nB))) (h) := by
  refine PF.mk (L0 := [some (.ref (ad 13)), some (.int (lots)), none, none]) RX0 "ofLots" 0 0 (by decide +kernel) rfl rfl ⟨rfl, rfl⟩ (by simp [Value.category]) (Nat.le_of_ble_eq_true rfl) rfl ?_
  refine pw_iconst dX0_ofLots_0 (v := 0) (by decide) ?_
  refine pw_istore_n dX0_ofLots_1 (by decide) rfl ?_
  refine pw_iconst dX0_ofLots_2 (v := 0) (by decide) ?_
  refine pw_istore_n dX0_ofLots_3 (by decide) rfl ?_
  exact lp_X0_ofLots hnB hn (nB + 1) 0 0 (Nat.zero_le _) rfl (by omega)

set_option maxRecDepth 100000 in
set_option maxHeartbeats 4000000 in
theorem lp_X0_stockOfAll {l : Launch} {G : GC} {ad : Nat → Nat} {h : HP} {nB : Nat} (hnB : h 13 1 = nI nB) (hn : nB ≤ 16) {bots : Int32}  : ∀ (mu9 : Nat) (i : Nat) (x2 : Int32) (hi : i ≤ nB) (hx2 : x2 = sumC (fun b => if inS bots (nI b) = true then h 15 (b * 7 + 2) else 0) i) (hmu9 : nB - i < mu9), PW l G cX0_stockOfAll RX0 4 ((Option.some FieldType.int)) [] { frames := 3, cells := 0, slots := 0, locals := 66 } (gNm "stockOfAll") (gME G SW ad (gR SW ad (some (.int (sumC (fun b => if inS bots (nI b) = true then h 15 (b * 7 + 2) else 0) nB))) (h)) gNo 0 0) 4 [some (.ref (ad 13)), some (.int bots), some (.int x2), some (.int (nI i))] [] SW ad (h) 0 0 := by
  intro mu9
  induction mu9 with
  | zero => intro i x2 hi hx2 hmu9; exact absurd hmu9 (Nat.not_lt_zero _)
  | succ mu9 ih =>
    intro i x2 hi hx2 hmu9
    refine pw_iload_n dX0_stockOfAll_4 rfl ?_
    refine pw_aload_n dX0_stockOfAll_5 rfl ?_
    refine pw_geti dX0_stockOfAll_6 lf_X0_20 sh_13 rfl ?_
    refine pw_icmp_ge dX0_stockOfAll_9 (tgt := 34) (by decide) (fun c9 => ?_) (fun c9 => ?_)
    · skip
      have hi8 : i = nB := eqN hnB hi (by omega) c9
      refine pw_iload_n dX0_stockOfAll_34 rfl ?_
      exact pw_iretF dX0_stockOfAll_35 rfl rfl rfl (by rw [hx2, hi8]) rfl
    · skip
      have hi9 : i < nB := ltN hnB hi (by omega) c9
      refine pw_iload_n dX0_stockOfAll_12 rfl ?_
      refine pw_iload_n dX0_stockOfAll_13 rfl ?_
      refine pw_cS dX0_stockOfAll_14 (sp_X7_isIn) mi_X7_isIn ms_X7_isIn ml_X0_43 rfl rfl ⟨rfl, rfl⟩ rfl rfl ?_
      refine pw_if_eq dX0_stockOfAll_17 (tgt := 28) (by decide) (fun c17 => ?_) (fun c17 => ?_)
      · skip
        refine pw_iinc dX0_stockOfAll_28 rfl (d := 1) (by decide) (by decide) rfl ?_
        rw [nI_1]
        refine pw_goto dX0_stockOfAll_31 (tgt := 4) (by decide) ?_
        refine ih (i + 1) _ (by omega) ?_ (by omega)
        first | exact sum_s (p := fun b => inS bots (nI b) = true) (f := fun b => h 15 (b * 7 + 2)) hx2 (b2i_ne c17) | exact sum_n (p := fun b => inS bots (nI b) = true) (f := fun b => h 15 (b * 7 + 2)) hx2 (by rw [b2i_eq c17]; decide)
      · skip
        refine pw_iload_n dX0_stockOfAll_20 rfl ?_
        refine pw_aload_n dX0_stockOfAll_21 rfl ?_
        refine pw_iload_n dX0_stockOfAll_22 rfl ?_
        refine pw_cV dX0_stockOfAll_23 (sp_X0_stockOf (b := i) (by omega)) mi_X0_stockOf mv_X0_stockOf ml_X0_47 sh_13 rfl rfl rfl rfl ⟨rfl, rfl⟩ rfl rfl ?_
        refine pw_iadd dX0_stockOfAll_26 ?_
        refine pw_istore_n dX0_stockOfAll_27 (by decide) rfl ?_
        refine pw_iinc dX0_stockOfAll_28 rfl (d := 1) (by decide) (by decide) rfl ?_
        rw [nI_1]
        refine pw_goto dX0_stockOfAll_31 (tgt := 4) (by decide) ?_
        refine ih (i + 1) _ (by omega) ?_ (by omega)
        first | exact sum_s (p := fun b => inS bots (nI b) = true) (f := fun b => h 15 (b * 7 + 2)) hx2 (b2i_ne c17) | exact sum_n (p := fun b => inS bots (nI b) = true) (f := fun b => h 15 (b * 7 + 2)) hx2 (by rw [b2i_eq c17]; decide)

set_option maxRecDepth 100000 in
set_option maxHeartbeats 4000000 in
theorem sp_X0_stockOfAll {l : Launch} {G : GC} {ad : Nat → Nat} {h : HP} {nB : Nat} (hnB : h 13 1 = nI nB) (hn : nB ≤ 16) {bots : Int32} : PF l G yX0_stockOfAll (.code yX0_stockOfAll cX0_stockOfAll 4 ((Option.some FieldType.int))) { frames := 3, cells := 0, slots := 0, locals := 66 } [.ref (ad 13), .int (bots)] SW ad (h) (some (.int (sumC (fun b => if inS bots (nI b) = true then h 15 (b * 7 + 2) else 0) nB))) (h) := by
  refine PF.mk (L0 := [some (.ref (ad 13)), some (.int (bots)), none, none]) RX0 "stockOfAll" 0 0 (by decide +kernel) rfl rfl ⟨rfl, rfl⟩ (by simp [Value.category]) (Nat.le_of_ble_eq_true rfl) rfl ?_
  refine pw_iconst dX0_stockOfAll_0 (v := 0) (by decide) ?_
  refine pw_istore_n dX0_stockOfAll_1 (by decide) rfl ?_
  refine pw_iconst dX0_stockOfAll_2 (v := 0) (by decide) ?_
  refine pw_istore_n dX0_stockOfAll_3 (by decide) rfl ?_
  exact lp_X0_stockOfAll hnB hn (nB + 1) 0 0 (Nat.zero_le _) rfl (by omega)

set_option maxRecDepth 100000 in
set_option maxHeartbeats 4000000 in
theorem sp_X0_bottledQuarters {l : Launch} {G : GC} {ad : Nat → Nat} {h : HP} : PF l G yX0_bottledQuarters (.code yX0_bottledQuarters cX0_bottledQuarters 1 ((Option.some FieldType.int))) { frames := 3, cells := 0, slots := 0, locals := 68 } [.ref (ad 13)] SW ad (h) (some (.int (sumC (fun r => h 15 (r * 7 + 1)) 16 * 3))) (h) := by
  refine PF.mk (L0 := [some (.ref (ad 13))]) RX0 "bottledQuarters" 0 0 (by decide +kernel) rfl rfl ⟨rfl, rfl⟩ (by simp [Value.category]) (Nat.le_of_ble_eq_true rfl) rfl ?_
  refine pw_aload_n dX0_bottledQuarters_0 rfl ?_
  refine pw_getr dX0_bottledQuarters_1 lf_X0_14 sh_13 rfl ?_
  refine pw_iconst dX0_bottledQuarters_4 (v := 1) (by decide) ?_
  refine pw_cV dX0_bottledQuarters_5 (sp_X6_sumOfColumn tq_14 (k := 1) rfl (by decide)) mi_X6_sumOfColumn mv_X6_sumOfColumn ml_X0_50 sh_14 rfl rfl rfl rfl ⟨rfl, rfl⟩ rfl rfl ?_
  refine pw_iconst dX0_bottledQuarters_8 (v := 3) (by decide) ?_
  refine pw_imul dX0_bottledQuarters_9 ?_
  exact pw_iretF dX0_bottledQuarters_10 rfl rfl rfl rfl rfl

set_option maxRecDepth 100000 in
set_option maxHeartbeats 4000000 in
theorem sp_X1_missingTo {l : Launch} {G : GC} {ad : Nat → Nat} {h : HP} {c b : Nat} (hc : c < 8) (hb : b < 16) : PF l G yX1_missingTo (.code yX1_missingTo cX1_missingTo 3 ((Option.some FieldType.int))) { frames := 2, cells := 0, slots := 0, locals := 45 } [.ref (ad 16), .int (nI c), .int (nI b)] SW ad (h) (some (.int (msI (h 22 (c * 16 + b)) (h 20 (c * 16 + b))))) (h) := by
  refine PF.mk (L0 := [some (.ref (ad 16)), some (.int (nI c)), some (.int (nI b))]) RX1 "missingTo" 0 0 (by decide +kernel) rfl rfl ⟨rfl, rfl⟩ (by simp [Value.category]) (Nat.le_of_ble_eq_true rfl) rfl ?_
  refine pw_iconst dX1_missingTo_0 (v := 0) (by decide) ?_
  refine pw_aload_n dX1_missingTo_1 rfl ?_
  refine pw_getr dX1_missingTo_2 lf_X1_23 sh_16 rfl ?_
  refine pw_iload_n dX1_missingTo_5 rfl ?_
  refine pw_iload_n dX1_missingTo_6 rfl ?_
  refine pw_cV dX1_missingTo_7 (sp_X6_at tq_21 (r := c) (k := b) rfl rfl (hc) (hb)) mi_X6_at mv_X6_at ml_X1_38 sh_21 rfl rfl rfl rfl ⟨rfl, rfl⟩ rfl rfl ?_
  refine pw_aload_n dX1_missingTo_10 rfl ?_
  refine pw_getr dX1_missingTo_11 lf_X1_20 sh_16 rfl ?_
  refine pw_iload_n dX1_missingTo_14 rfl ?_
  refine pw_iload_n dX1_missingTo_15 rfl ?_
  refine pw_cV dX1_missingTo_16 (sp_X6_at tq_19 (r := c) (k := b) rfl rfl (hc) (hb)) mi_X6_at mv_X6_at ml_X1_38 sh_19 rfl rfl rfl rfl ⟨rfl, rfl⟩ rfl rfl ?_
  refine pw_isub dX1_missingTo_19 ?_
  refine pw_max dX1_missingTo_20 mm_X1_42 mw_max ⟨Nat.le_of_ble_eq_true rfl, Nat.le_of_ble_eq_true rfl, Nat.le_of_ble_eq_true rfl, Nat.le_of_ble_eq_true rfl⟩ ?_
  exact pw_iretF dX1_missingTo_23 rfl rfl rfl rfl rfl

set_option maxRecDepth 100000 in
set_option maxHeartbeats 4000000 in
theorem sp_X1_portionOf {l : Launch} {G : GC} {ad : Nat → Nat} {h : HP} {c : Nat} (hc : c < 8) {k : Nat} (hk : h 18 (c * 1 + 0) = nI k) (hk3 : k < 3) : PF l G yX1_portionOf (.code yX1_portionOf cX1_portionOf 2 ((Option.some FieldType.int))) { frames := 2, cells := 0, slots := 0, locals := 45 } [.ref (ad 16), .int (nI c)] SW ad (h) (some (.int (prI k))) (h) := by
  refine PF.mk (L0 := [some (.ref (ad 16)), some (.int (nI c))]) RX1 "portionOf" 0 0 (by decide +kernel) rfl rfl ⟨rfl, rfl⟩ (by simp [Value.category]) (Nat.le_of_ble_eq_true rfl) rfl ?_
  refine pw_aload_n dX1_portionOf_0 rfl ?_
  refine pw_getr dX1_portionOf_1 lf_X1_14 sh_16 rfl ?_
  refine pw_iload_n dX1_portionOf_4 rfl ?_
  refine pw_iconst dX1_portionOf_5 (v := 0) (by decide) ?_
  refine pw_cV dX1_portionOf_6 (sp_X6_at tq_17 (r := c) (k := 0) rfl rfl (hc) (by decide)) mi_X6_at mv_X6_at ml_X1_38 sh_17 rfl rfl rfl rfl ⟨rfl, rfl⟩ rfl rfl ?_
  rw [hk]
  rcases (show k = 0 ∨ k = 1 ∨ k = 2 by omega) with rfl | rfl | rfl
  · refine pw_lookup dX1_portionOf_9 (by decide) (off := 27) (by decide) (tgt := 36) (by decide) ?_
    refine pw_bipush dX1_portionOf_36 (v := 12) (by decide) ?_
    exact pw_iretF dX1_portionOf_38 rfl rfl rfl rfl rfl
  · refine pw_lookup dX1_portionOf_9 (by decide) (off := 30) (by decide) (tgt := 39) (by decide) ?_
    refine pw_bipush dX1_portionOf_39 (v := 6) (by decide) ?_
    exact pw_iretF dX1_portionOf_41 rfl rfl rfl rfl rfl
  · refine pw_lookup dX1_portionOf_9 (by decide) (off := 33) (by decide) (tgt := 42) (by decide) ?_
    refine pw_iconst dX1_portionOf_42 (v := 3) (by decide) ?_
    exact pw_iretF dX1_portionOf_43 rfl rfl rfl rfl rfl

set_option maxRecDepth 100000 in
set_option maxHeartbeats 4000000 in
theorem sp_X1_handTo {l : Launch} {G : GC} {ad : Nat → Nat} {h : HP} {c b : Nat} (hc : c < 8) (hb : b < 16) {k : Nat} (hk : h 18 (c * 1 + 0) = nI k) (hk3 : k < 3) {stock : Int32} : PF l G yX1_handTo (.code yX1_handTo cX1_handTo 5 ((Option.some FieldType.int))) { frames := 3, cells := 0, slots := 0, locals := 69 } [.ref (ad 16), .int (nI c), .int (nI b), .int (stock)] SW ad (h) (some (.int (gtI h k c b stock))) (hput h 20 (c * 16 + b) (h 20 (c * 16 + b) + gtI h k c b stock)) := by
  refine PF.mk (L0 := [some (.ref (ad 16)), some (.int (nI c)), some (.int (nI b)), some (.int (stock)), none]) RX1 "handTo" 0 0 (by decide +kernel) rfl rfl ⟨rfl, rfl⟩ (by simp [Value.category]) (Nat.le_of_ble_eq_true rfl) rfl ?_
  refine pw_aload_n dX1_handTo_0 rfl ?_
  refine pw_iload_n dX1_handTo_1 rfl ?_
  refine pw_cV dX1_handTo_2 (sp_X1_portionOf hc hk hk3) mi_X1_portionOf mv_X1_portionOf ml_X1_58 sh_16 rfl rfl rfl rfl ⟨rfl, rfl⟩ rfl rfl ?_
  refine pw_aload_n dX1_handTo_5 rfl ?_
  refine pw_iload_n dX1_handTo_6 rfl ?_
  refine pw_iload_n dX1_handTo_7 rfl ?_
  refine pw_cV dX1_handTo_8 (sp_X1_missingTo hc hb) mi_X1_missingTo mv_X1_missingTo ml_X1_47 sh_16 rfl rfl rfl rfl ⟨rfl, rfl⟩ rfl rfl ?_
  refine pw_iload_n dX1_handTo_11 rfl ?_
  refine pw_min dX1_handTo_12 mm_X1_62 mw_min ⟨Nat.le_of_ble_eq_true rfl, Nat.le_of_ble_eq_true rfl, Nat.le_of_ble_eq_true rfl, Nat.le_of_ble_eq_true rfl⟩ ?_
  refine pw_min dX1_handTo_15 mm_X1_62 mw_min ⟨Nat.le_of_ble_eq_true rfl, Nat.le_of_ble_eq_true rfl, Nat.le_of_ble_eq_true rfl, Nat.le_of_ble_eq_true rfl⟩ ?_
  refine pw_istore dX1_handTo_18 (by decide) rfl ?_
  refine pw_aload_n dX1_handTo_20 rfl ?_
  refine pw_getr dX1_handTo_21 lf_X1_20 sh_16 rfl ?_
  refine pw_iload_n dX1_handTo_24 rfl ?_
  refine pw_iload_n dX1_handTo_25 rfl ?_
  refine pw_iload dX1_handTo_26 rfl ?_
  refine pw_cVn dX1_handTo_28 (sp_X6_add tq_19 (r := c) (k := b) rfl rfl (hc) (hb)) mi_X6_add mv_X6_add ml_X1_65 sh_19 rfl rfl rfl rfl ⟨rfl, rfl⟩ rfl rfl ?_
  refine pw_iload dX1_handTo_31 rfl ?_
  exact pw_iretF dX1_handTo_33 rfl rfl rfl rfl rfl

set_option maxRecDepth 100000 in
set_option maxHeartbeats 4000000 in
theorem sp_X1_handIn {l : Launch} {G : GC} {ad : Nat → Nat} {h : HP} {c b : Nat} (hc : c < 8) (hb : b < 16) {q : Int32} : PF l G yX1_handIn (.code yX1_handIn cX1_handIn 5 ((Option.some FieldType.int))) { frames := 3, cells := 0, slots := 0, locals := 69 } [.ref (ad 16), .int (nI c), .int (nI b), .int (q)] SW ad (h) (some (.int (h 20 (c * 16 + b) + (-q)))) (hput (hput h 20 (c * 16 + b) (h 20 (c * 16 + b) + (-q))) 22 (c * 16 + b) (mnI (h 20 (c * 16 + b) + (-q)) (h 22 (c * 16 + b)))) := by
  refine PF.mk (L0 := [some (.ref (ad 16)), some (.int (nI c)), some (.int (nI b)), some (.int (q)), none]) RX1 "handIn" 0 0 (by decide +kernel) rfl rfl ⟨rfl, rfl⟩ (by simp [Value.category]) (Nat.le_of_ble_eq_true rfl) rfl ?_
  refine pw_aload_n dX1_handIn_0 rfl ?_
  refine pw_getr dX1_handIn_1 lf_X1_20 sh_16 rfl ?_
  refine pw_iload_n dX1_handIn_4 rfl ?_
  refine pw_iload_n dX1_handIn_5 rfl ?_
  refine pw_iload_n dX1_handIn_6 rfl ?_
  refine pw_ineg dX1_handIn_7 ?_
  refine pw_cVn dX1_handIn_8 (sp_X6_add tq_19 (r := c) (k := b) rfl rfl (hc) (hb)) mi_X6_add mv_X6_add ml_X1_65 sh_19 rfl rfl rfl rfl ⟨rfl, rfl⟩ rfl rfl ?_
  refine pw_aload_n dX1_handIn_11 rfl ?_
  refine pw_getr dX1_handIn_12 lf_X1_20 sh_16 rfl ?_
  refine pw_iload_n dX1_handIn_15 rfl ?_
  refine pw_iload_n dX1_handIn_16 rfl ?_
  refine pw_cV dX1_handIn_17 (sp_X6_at tq_19 (r := c) (k := b) rfl rfl (hc) (hb)) mi_X6_at mv_X6_at ml_X1_38 sh_19 rfl rfl rfl rfl ⟨rfl, rfl⟩ rfl rfl ?_
  rw [show hput h 20 (c * 16 + b) (h 20 (c * 16 + b) + (-q)) 20 (c * 16 + b) = h 20 (c * 16 + b) + (-q) from by simp [hput]]
  refine pw_istore dX1_handIn_20 (by decide) rfl ?_
  refine pw_aload_n dX1_handIn_22 rfl ?_
  refine pw_getr dX1_handIn_23 lf_X1_23 sh_16 rfl ?_
  refine pw_iload_n dX1_handIn_26 rfl ?_
  refine pw_iload_n dX1_handIn_27 rfl ?_
  refine pw_iload dX1_handIn_28 rfl ?_
  refine pw_aload_n dX1_handIn_30 rfl ?_
  refine pw_getr dX1_handIn_31 lf_X1_23 sh_16 rfl ?_
  refine pw_iload_n dX1_handIn_34 rfl ?_
  refine pw_iload_n dX1_handIn_35 rfl ?_
  refine pw_cV dX1_handIn_36 (sp_X6_at tq_21 (r := c) (k := b) rfl rfl (hc) (hb)) mi_X6_at mv_X6_at ml_X1_38 sh_21 rfl rfl rfl rfl ⟨rfl, rfl⟩ rfl rfl ?_
  refine pw_min dX1_handIn_39 mm_X1_62 mw_min ⟨Nat.le_of_ble_eq_true rfl, Nat.le_of_ble_eq_true rfl, Nat.le_of_ble_eq_true rfl, Nat.le_of_ble_eq_true rfl⟩ ?_
  refine pw_cVn dX1_handIn_42 (sp_X6_put tq_21 (r := c) (k := b) rfl rfl (hc) (hb)) mi_X6_put mv_X6_put ml_X1_34 sh_21 rfl rfl rfl rfl ⟨rfl, rfl⟩ rfl rfl ?_
  refine pw_iload dX1_handIn_45 rfl ?_
  exact pw_iretF dX1_handIn_47 rfl rfl rfl rfl rfl

set_option maxRecDepth 100000 in
set_option maxHeartbeats 4000000 in
theorem lp_X1_heldOfAll {l : Launch} {G : GC} {ad : Nat → Nat} {h : HP} {c : Nat} (hc : c < 8) {bots : Int32}  : ∀ (mu9 : Nat) (i : Nat) (x3 : Int32) (hi : i ≤ 16) (hx3 : x3 = sumC (fun b => if inS bots (nI b) = true then h 20 (c * 16 + b) else 0) i) (hmu9 : 16 - i < mu9), PW l G cX1_heldOfAll RX1 5 ((Option.some FieldType.int)) [] { frames := 2, cells := 0, slots := 0, locals := 45 } (gNm "heldOfAll") (gME G SW ad (gR SW ad (some (.int (sumC (fun b => if inS bots (nI b) = true then h 20 (c * 16 + b) else 0) 16))) (h)) gNo 0 0) 5 [some (.ref (ad 16)), some (.int (nI c)), some (.int bots), some (.int x3), some (.int (nI i))] [] SW ad (h) 0 0 := by
  intro mu9
  induction mu9 with
  | zero => intro i x3 hi hx3 hmu9; exact absurd hmu9 (Nat.not_lt_zero _)
  | succ mu9 ih =>
    intro i x3 hi hx3 hmu9
    refine pw_iload dX1_heldOfAll_5 rfl ?_
    refine pw_bipush dX1_heldOfAll_7 (v := 16) (by decide) ?_
    refine pw_icmp_ge dX1_heldOfAll_9 (tgt := 40) (by decide) (fun c9 => ?_) (fun c9 => ?_)
    · skip
      have hi8 : i = 16 := eqN (N := 16) rfl hi (by decide) c9
      refine pw_iload_n dX1_heldOfAll_40 rfl ?_
      exact pw_iretF dX1_heldOfAll_41 rfl rfl rfl (by rw [hx3, hi8]) rfl
    · skip
      have hi9 : i < 16 := ltN (N := 16) rfl hi (by decide) c9
      refine pw_iload_n dX1_heldOfAll_12 rfl ?_
      refine pw_iload dX1_heldOfAll_13 rfl ?_
      refine pw_cS dX1_heldOfAll_15 (sp_X7_isIn) mi_X7_isIn ms_X7_isIn ml_X1_68 rfl rfl ⟨rfl, rfl⟩ rfl rfl ?_
      refine pw_if_eq dX1_heldOfAll_18 (tgt := 34) (by decide) (fun c18 => ?_) (fun c18 => ?_)
      · skip
        refine pw_iinc dX1_heldOfAll_34 rfl (d := 1) (by decide) (by decide) rfl ?_
        rw [nI_1]
        refine pw_goto dX1_heldOfAll_37 (tgt := 5) (by decide) ?_
        refine ih (i + 1) _ (by omega) ?_ (by omega)
        first | exact sum_s (p := fun b => inS bots (nI b) = true) (f := fun b => h 20 (c * 16 + b)) hx3 (b2i_ne c18) | exact sum_n (p := fun b => inS bots (nI b) = true) (f := fun b => h 20 (c * 16 + b)) hx3 (by rw [b2i_eq c18]; decide)
      · skip
        refine pw_iload_n dX1_heldOfAll_21 rfl ?_
        refine pw_aload_n dX1_heldOfAll_22 rfl ?_
        refine pw_getr dX1_heldOfAll_23 lf_X1_20 sh_16 rfl ?_
        refine pw_iload_n dX1_heldOfAll_26 rfl ?_
        refine pw_iload dX1_heldOfAll_27 rfl ?_
        refine pw_cV dX1_heldOfAll_29 (sp_X6_at tq_19 (r := c) (k := i) rfl rfl (hc) (hi9)) mi_X6_at mv_X6_at ml_X1_38 sh_19 rfl rfl rfl rfl ⟨rfl, rfl⟩ rfl rfl ?_
        refine pw_iadd dX1_heldOfAll_32 ?_
        refine pw_istore_n dX1_heldOfAll_33 (by decide) rfl ?_
        refine pw_iinc dX1_heldOfAll_34 rfl (d := 1) (by decide) (by decide) rfl ?_
        rw [nI_1]
        refine pw_goto dX1_heldOfAll_37 (tgt := 5) (by decide) ?_
        refine ih (i + 1) _ (by omega) ?_ (by omega)
        first | exact sum_s (p := fun b => inS bots (nI b) = true) (f := fun b => h 20 (c * 16 + b)) hx3 (b2i_ne c18) | exact sum_n (p := fun b => inS bots (nI b) = true) (f := fun b => h 20 (c * 16 + b)) hx3 (by rw [b2i_eq c18]; decide)

set_option maxRecDepth 100000 in
set_option maxHeartbeats 4000000 in
theorem sp_X1_heldOfAll {l : Launch} {G : GC} {ad : Nat → Nat} {h : HP} {c : Nat} (hc : c < 8) {bots : Int32} : PF l G yX1_heldOfAll (.code yX1_heldOfAll cX1_heldOfAll 5 ((Option.some FieldType.int))) { frames := 2, cells := 0, slots := 0, locals := 45 } [.ref (ad 16), .int (nI c), .int (bots)] SW ad (h) (some (.int (sumC (fun b => if inS bots (nI b) = true then h 20 (c * 16 + b) else 0) 16))) (h) := by
  refine PF.mk (L0 := [some (.ref (ad 16)), some (.int (nI c)), some (.int (bots)), none, none]) RX1 "heldOfAll" 0 0 (by decide +kernel) rfl rfl ⟨rfl, rfl⟩ (by simp [Value.category]) (Nat.le_of_ble_eq_true rfl) rfl ?_
  refine pw_iconst dX1_heldOfAll_0 (v := 0) (by decide) ?_
  refine pw_istore_n dX1_heldOfAll_1 (by decide) rfl ?_
  refine pw_iconst dX1_heldOfAll_2 (v := 0) (by decide) ?_
  refine pw_istore dX1_heldOfAll_3 (by decide) rfl ?_
  exact lp_X1_heldOfAll hc 17 0 0 (Nat.zero_le _) rfl (by decide)

set_option maxRecDepth 100000 in
set_option maxHeartbeats 4000000 in
theorem lp_X1_heldByAll {l : Launch} {G : GC} {ad : Nat → Nat} {h : HP}  : ∀ (mu9 : Nat) (i : Nat) (x1 : Int32) (hi : i ≤ 16) (hx1 : x1 = sumC (fun b => sumC (fun c => h 20 (c * 16 + b)) 8) i) (hmu9 : 16 - i < mu9), PW l G cX1_heldByAll RX1 3 ((Option.some FieldType.int)) [] { frames := 3, cells := 0, slots := 0, locals := 68 } (gNm "heldByAll") (gME G SW ad (gR SW ad (some (.int (sumC (fun b => sumC (fun c => h 20 (c * 16 + b)) 8) 16))) (h)) gNo 0 0) 4 [some (.ref (ad 16)), some (.int x1), some (.int (nI i))] [] SW ad (h) 0 0 := by
  intro mu9
  induction mu9 with
  | zero => intro i x1 hi hx1 hmu9; exact absurd hmu9 (Nat.not_lt_zero _)
  | succ mu9 ih =>
    intro i x1 hi hx1 hmu9
    refine pw_iload_n dX1_heldByAll_4 rfl ?_
    refine pw_bipush dX1_heldByAll_5 (v := 16) (by decide) ?_
    refine pw_icmp_ge dX1_heldByAll_7 (tgt := 27) (by decide) (fun c7 => ?_) (fun c7 => ?_)
    · skip
      have hi8 : i = 16 := eqN (N := 16) rfl hi (by decide) c7
      refine pw_iload_n dX1_heldByAll_27 rfl ?_
      exact pw_iretF dX1_heldByAll_28 rfl rfl rfl (by rw [hx1, hi8]) rfl
    · skip
      have hi9 : i < 16 := ltN (N := 16) rfl hi (by decide) c7
      refine pw_iload_n dX1_heldByAll_10 rfl ?_
      refine pw_aload_n dX1_heldByAll_11 rfl ?_
      refine pw_getr dX1_heldByAll_12 lf_X1_20 sh_16 rfl ?_
      refine pw_iload_n dX1_heldByAll_15 rfl ?_
      refine pw_cV dX1_heldByAll_16 (sp_X6_sumOfColumn tq_19 (k := i) rfl hi9) mi_X6_sumOfColumn mv_X6_sumOfColumn ml_X1_72 sh_19 rfl rfl rfl rfl ⟨rfl, rfl⟩ rfl rfl ?_
      refine pw_iadd dX1_heldByAll_19 ?_
      refine pw_istore_n dX1_heldByAll_20 (by decide) rfl ?_
      refine pw_iinc dX1_heldByAll_21 rfl (d := 1) (by decide) (by decide) rfl ?_
      rw [nI_1]
      refine pw_goto dX1_heldByAll_24 (tgt := 4) (by decide) ?_
      refine ih (i + 1) _ (by omega) ?_ (by omega)
      rw [hx1]; rfl

set_option maxRecDepth 100000 in
set_option maxHeartbeats 4000000 in
theorem sp_X1_heldByAll {l : Launch} {G : GC} {ad : Nat → Nat} {h : HP} : PF l G yX1_heldByAll (.code yX1_heldByAll cX1_heldByAll 3 ((Option.some FieldType.int))) { frames := 3, cells := 0, slots := 0, locals := 68 } [.ref (ad 16)] SW ad (h) (some (.int (sumC (fun b => sumC (fun c => h 20 (c * 16 + b)) 8) 16))) (h) := by
  refine PF.mk (L0 := [some (.ref (ad 16)), none, none]) RX1 "heldByAll" 0 0 (by decide +kernel) rfl rfl ⟨rfl, rfl⟩ (by simp [Value.category]) (Nat.le_of_ble_eq_true rfl) rfl ?_
  refine pw_iconst dX1_heldByAll_0 (v := 0) (by decide) ?_
  refine pw_istore_n dX1_heldByAll_1 (by decide) rfl ?_
  refine pw_iconst dX1_heldByAll_2 (v := 0) (by decide) ?_
  refine pw_istore_n dX1_heldByAll_3 (by decide) rfl ?_
  exact lp_X1_heldByAll 17 0 0 (Nat.zero_le _) rfl (by decide)

set_option maxRecDepth 100000 in
set_option maxHeartbeats 4000000 in
theorem sp_X1_enter {l : Launch} {G : GC} {ad : Nat → Nat} {h : HP} {nC : Nat} (hnC : h 16 3 = nI nC) (hn : nC < 8) {k : Int32} : PF l G yX1_enter (.code yX1_enter cX1_enter 3 ((Option.some FieldType.int))) { frames := 2, cells := 0, slots := 0, locals := 46 } [.ref (ad 16), .int (k)] SW ad (h) (some (.int (nI nC))) (hput (hput h 18 (nC * 1 + 0) k) 16 3 (nI (nC + 1))) := by
  refine PF.mk (L0 := [some (.ref (ad 16)), some (.int (k)), none]) RX1 "enter" 0 0 (by decide +kernel) rfl rfl ⟨rfl, rfl⟩ (by simp [Value.category]) (Nat.le_of_ble_eq_true rfl) rfl ?_
  refine pw_aload_n dX1_enter_0 rfl ?_
  refine pw_geti dX1_enter_1 lf_X1_26 sh_16 rfl ?_
  rw [hnC]
  refine pw_istore_n dX1_enter_4 (by decide) rfl ?_
  refine pw_aload_n dX1_enter_5 rfl ?_
  refine pw_getr dX1_enter_6 lf_X1_14 sh_16 rfl ?_
  refine pw_iload_n dX1_enter_9 rfl ?_
  refine pw_iconst dX1_enter_10 (v := 0) (by decide) ?_
  refine pw_iload_n dX1_enter_11 rfl ?_
  refine pw_cVn dX1_enter_12 (sp_X6_put tq_17 (r := nC) (k := 0) rfl rfl (hn) (by decide)) mi_X6_put mv_X6_put ml_X1_34 sh_17 rfl rfl rfl rfl ⟨rfl, rfl⟩ rfl rfl ?_
  refine pw_aload_n dX1_enter_15 rfl ?_
  refine pw_dup dX1_enter_16 rfl ?_
  refine pw_geti dX1_enter_17 lf_X1_26 sh_16 rfl ?_
  refine pw_iconst dX1_enter_20 (v := 1) (by decide) ?_
  refine pw_iadd dX1_enter_21 ?_
  rw [show hput h 18 (nC * 1 + 0) k 16 3 = nI nC from hnC, nI_1]
  refine pw_puti dX1_enter_22 lf_X1_26 lp_1_3 sh_16 rfl rfl rfl ?_
  refine pw_iload_n dX1_enter_25 rfl ?_
  exact pw_iretF dX1_enter_26 rfl rfl rfl rfl rfl

set_option maxRecDepth 100000 in
set_option maxHeartbeats 4000000 in
theorem lq_X1_lineUp {l : Launch} {G : GC} {ad : Nat → Nat} {h : HP} {nC : Nat} (hnC : h 16 3 = nI nC) (hn8 : nC ≤ 8) {b : Nat} (hb : b < 16) {k : Nat} (hk : k < 3) (K : PW l G cX1_lineUp RX1 6 ((Option.some FieldType.int)) [] { frames := 3, cells := 0, slots := 0, locals := 67 } (gNm "lineUp") (gME G SW ad (gR SW ad (some (.int (nI (lnK h b nC 3).2))) ((lnK h b nC 3).1)) gNo 0 0) 5 [some (.ref (ad 16)), some (.int (nI b)), some (.ref (ad 247)), some (.int (nI (lnK h b nC (k + 1)).2)), some (.int (nI (k + 1))), some (.int (nI nC))] [] SW ad ((lnK h b nC (k + 1)).1) 0 0) : ∀ (mu9 : Nat) (c : Nat) (hc : c ≤ nC) (hmu9 : nC - c < mu9), PW l G cX1_lineUp RX1 6 ((Option.some FieldType.int)) [] { frames := 3, cells := 0, slots := 0, locals := 67 } (gNm "lineUp") (gME G SW ad (gR SW ad (some (.int (nI (lnK h b nC 3).2))) ((lnK h b nC 3).1)) gNo 0 0) 14 [some (.ref (ad 16)), some (.int (nI b)), some (.ref (ad 247)), some (.int (nI (lnI h b k c (lnK h b nC k)).2)), some (.int (nI k)), some (.int (nI c))] [] SW ad ((lnI h b k c (lnK h b nC k)).1) 0 0 := by
  intro mu9
  induction mu9 with
  | zero => intro c hc hmu9; exact absurd hmu9 (Nat.not_lt_zero _)
  | succ mu9 ih =>
    intro c hc hmu9
    have ey : ∀ q j, q ≠ 248 → (lnI h b k c (lnK h b nC k)).1 q j = h q j := fun q j hq => by rw [lnI_o _ _ _ _ _ _ _ hq, lnK_o _ _ _ _ _ _ hq]
    refine pw_iload dX1_lineUp_14 rfl ?_
    refine pw_aload_n dX1_lineUp_16 rfl ?_
    refine pw_geti dX1_lineUp_17 lf_X1_26 sh_16 rfl ?_
    refine pw_icmp_ge dX1_lineUp_20 (tgt := 65) (by decide) (fun c20 => ?_) (fun c20 => ?_)
    · skip
      have hc8 : c = nC := eqN (by rw [ey _ _ (by decide)]; exact hnC) hc (by omega) c20
      subst hc8
      refine pw_iinc dX1_lineUp_65 rfl (d := 1) (by decide) (by decide) rfl ?_
      rw [nI_1]
      refine pw_goto dX1_lineUp_68 (tgt := 5) (by decide) ?_
      exact K
    · skip
      have hc9 : c < nC := ltN (by rw [ey _ _ (by decide)]; exact hnC) hc (by omega) c20
      refine pw_aload_n dX1_lineUp_23 rfl ?_
      refine pw_getr dX1_lineUp_24 lf_X1_14 sh_16 rfl ?_
      refine pw_iload dX1_lineUp_27 rfl ?_
      refine pw_iconst dX1_lineUp_29 (v := 0) (by decide) ?_
      refine pw_cV dX1_lineUp_30 (sp_X6_at tq_17 (r := c) (k := 0) rfl rfl (by omega) (by decide)) mi_X6_at mv_X6_at ml_X1_38 sh_17 rfl rfl rfl rfl ⟨rfl, rfl⟩ rfl rfl ?_
      rw [ey _ _ (by decide)]
      refine pw_iload dX1_lineUp_33 rfl ?_
      refine pw_icmp_ne dX1_lineUp_35 (tgt := 59) (by decide) (fun c35 => ?_) (fun c35 => ?_)
      · skip
        have hl9 : lnB h b k c = false := by simp only [lnB, Bool.and_eq_false_iff, decide_eq_false_iff_not]; exact Or.inl c35
        refine pw_iinc dX1_lineUp_59 rfl (d := 1) (by decide) (by decide) rfl ?_
        rw [nI_1]
        refine pw_goto dX1_lineUp_62 (tgt := 14) (by decide) ?_
        have e8 := ih (c + 1) (by omega) (by omega)
        rw [lnI, if_neg (by rw [hl9]; decide)] at e8
        exact e8
      · skip
        refine pw_aload_n dX1_lineUp_38 rfl ?_
        refine pw_iload dX1_lineUp_39 rfl ?_
        refine pw_iload_n dX1_lineUp_41 rfl ?_
        refine pw_cV dX1_lineUp_42 (sp_X1_missingTo (c := c) (by omega) hb) mi_X1_missingTo mv_X1_missingTo ml_X1_47 sh_16 rfl rfl rfl rfl ⟨rfl, rfl⟩ rfl rfl ?_
        rw [ey _ _ (by decide), ey _ _ (by decide)]
        refine pw_if_le dX1_lineUp_45 (tgt := 59) (by decide) (fun c45 => ?_) (fun c45 => ?_)
        · skip
          have hl9 : lnB h b k c = false := by simp only [lnB, Bool.and_eq_false_iff, decide_eq_false_iff_not]; exact Or.inr (Int32.not_lt.mpr c45)
          refine pw_iinc dX1_lineUp_59 rfl (d := 1) (by decide) (by decide) rfl ?_
          rw [nI_1]
          refine pw_goto dX1_lineUp_62 (tgt := 14) (by decide) ?_
          have e8 := ih (c + 1) (by omega) (by omega)
          rw [lnI, if_neg (by rw [hl9]; decide)] at e8
          exact e8
        · skip
          have hl9 : lnB h b k c = true := by simp only [lnB, Bool.and_eq_true, decide_eq_true_eq]; exact ⟨c35, Int32.not_le.mp c45⟩
          have hlt9 := lnK_lt h b nC k c hk hc9 hl9
          refine pw_aload_n dX1_lineUp_48 rfl ?_
          refine pw_iconst dX1_lineUp_49 (v := 0) (by decide) ?_
          refine pw_iload_n dX1_lineUp_50 rfl ?_
          refine pw_iload dX1_lineUp_51 rfl ?_
          refine pw_cVn dX1_lineUp_53 (sp_X6_put tq_247 (r := 0) (k := (lnI h b k c (lnK h b nC k)).2) rfl rfl (by decide) (by omega)) mi_X6_put mv_X6_put ml_X1_34 sh_247 rfl rfl rfl rfl ⟨rfl, rfl⟩ rfl rfl ?_
          refine pw_iinc dX1_lineUp_56 rfl (d := 1) (by decide) (by decide) rfl ?_
          rw [nI_1]
          refine pw_iinc dX1_lineUp_59 rfl (d := 1) (by decide) (by decide) rfl ?_
          rw [nI_1]
          refine pw_goto dX1_lineUp_62 (tgt := 14) (by decide) ?_
          have e8 := ih (c + 1) (by omega) (by omega)
          rw [lnI, if_pos hl9] at e8
          exact e8

set_option maxRecDepth 100000 in
set_option maxHeartbeats 4000000 in
theorem lp_X1_lineUp {l : Launch} {G : GC} {ad : Nat → Nat} {h : HP} {nC : Nat} (hnC : h 16 3 = nI nC) (hn8 : nC ≤ 8) {b : Nat} (hb : b < 16)  : ∀ (mu9 : Nat) (k : Nat) (ls5 : Option Value) (hk : k ≤ 3) (hmu9 : 3 - k < mu9), PW l G cX1_lineUp RX1 6 ((Option.some FieldType.int)) [] { frames := 3, cells := 0, slots := 0, locals := 67 } (gNm "lineUp") (gME G SW ad (gR SW ad (some (.int (nI (lnK h b nC 3).2))) ((lnK h b nC 3).1)) gNo 0 0) 5 [some (.ref (ad 16)), some (.int (nI b)), some (.ref (ad 247)), some (.int (nI (lnK h b nC k).2)), some (.int (nI k)), ls5] [] SW ad ((lnK h b nC k).1) 0 0 := by
  intro mu9
  induction mu9 with
  | zero => intro k ls5 hk hmu9; exact absurd hmu9 (Nat.not_lt_zero _)
  | succ mu9 ih =>
    intro k ls5 hk hmu9
    refine pw_iload dX1_lineUp_5 rfl ?_
    refine pw_iconst dX1_lineUp_7 (v := 3) (by decide) ?_
    refine pw_icmp_ge dX1_lineUp_8 (tgt := 71) (by decide) (fun c8 => ?_) (fun c8 => ?_)
    · skip
      have hk8 : k = 3 := eqN (N := 3) rfl hk (by decide) c8
      subst hk8
      refine pw_iload_n dX1_lineUp_71 rfl ?_
      exact pw_iretF dX1_lineUp_72 rfl rfl rfl rfl rfl
    · skip
      have hk9 : k < 3 := ltN (N := 3) rfl hk (by decide) c8
      refine pw_iconst dX1_lineUp_11 (v := 0) (by decide) ?_
      refine pw_istore dX1_lineUp_12 (by decide) rfl ?_
      exact lq_X1_lineUp hnC hn8 hb hk9 (ih (k + 1) _ (by omega) (by omega)) (nC + 1) 0 (Nat.zero_le _) (by omega)

set_option maxRecDepth 100000 in
set_option maxHeartbeats 4000000 in
theorem sp_X1_lineUp {l : Launch} {G : GC} {ad : Nat → Nat} {h : HP} {nC : Nat} (hnC : h 16 3 = nI nC) (hn8 : nC ≤ 8) {b : Nat} (hb : b < 16) : PF l G yX1_lineUp (.code yX1_lineUp cX1_lineUp 6 ((Option.some FieldType.int))) { frames := 3, cells := 0, slots := 0, locals := 67 } [.ref (ad 16), .int (nI b), .ref (ad 247)] SW ad (h) (some (.int (nI (lnK h b nC 3).2))) ((lnK h b nC 3).1) := by
  refine PF.mk (L0 := [some (.ref (ad 16)), some (.int (nI b)), some (.ref (ad 247)), none, none, none]) RX1 "lineUp" 0 0 (by decide +kernel) rfl rfl ⟨rfl, rfl⟩ (by simp [Value.category]) (Nat.le_of_ble_eq_true rfl) rfl ?_
  refine pw_iconst dX1_lineUp_0 (v := 0) (by decide) ?_
  refine pw_istore_n dX1_lineUp_1 (by decide) rfl ?_
  refine pw_iconst dX1_lineUp_2 (v := 0) (by decide) ?_
  refine pw_istore dX1_lineUp_3 (by decide) rfl ?_
  exact lp_X1_lineUp hnC hn8 hb 4 0 none (Nat.zero_le _) (by decide)

