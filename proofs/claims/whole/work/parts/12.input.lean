/-! THE INPUT -/
def hI (h : HP) (pos : Nat) (snd : Bool) : HP := hput (hput h 243 5 (b2i snd)) 243 4 (nI pos)
theorem hI_snd (h : HP) (pos : Nat) (s s' : Bool) : hput (hI h pos s) 243 5 (b2i s') = hI h pos s' := by
  funext q j; simp only [hI, hput]; split <;> (try split) <;> (try split) <;> simp_all
theorem hI_pos (h : HP) (pos p' : Nat) (s : Bool) : hput (hI h pos s) 243 4 (nI p') = hI h p' s := by
  funext q j; simp only [hI, hput]; split <;> (try split) <;> (try split) <;> simp_all
theorem hI_put (h : HP) (pos : Nat) (s : Bool) {p : Nat} (k : Nat) (v : Int32) (hp : p ≠ 243) : hput (hI h pos s) p k v = hI (hput h p k v) pos s := by
  funext q j; simp only [hI, hput]; split <;> (try split) <;> (try split) <;> (try split) <;> simp_all
theorem hI_put3 (h : HP) (pos : Nat) (s : Bool) (v : Int32) : hput (hI h pos s) 243 3 v = hI (hput h 243 3 v) pos s := by
  funext q j; simp only [hI, hput]; split <;> (try split) <;> (try split) <;> (try split) <;> simp_all
theorem hI_4 (h : HP) (pos : Nat) (s : Bool) : hI h pos s 243 4 = nI pos := by simp [hI, hput]
theorem hI_5 (h : HP) (pos : Nat) (s : Bool) : hI h pos s 243 5 = b2i s := by simp [hI, hput]
theorem hI_2 (h : HP) (pos : Nat) (s : Bool) : hI h pos s 243 2 = h 243 2 := by simp [hI, hput]
theorem hI_3 (h : HP) (pos : Nat) (s : Bool) : hI h pos s 243 3 = h 243 3 := by simp [hI, hput]
theorem hI_o (h : HP) (pos : Nat) (s : Bool) {q : Nat} (hq : q ≠ 243) : hI h pos s q = h q := by funext j; simp [hI, hput, hq]
def nsI (t : Nat → Int32) (len pos : Nat) : Int32 := if pos < len then t pos else -1
def isD (t : Nat → Int32) (len pos : Nat) : Bool := decide (48 ≤ nsI t len pos) && decide (nsI t len pos ≤ 57)
theorem isD_lt {t : Nat → Int32} {len pos : Nat} (h : isD t len pos = true) : pos < len := by
  rcases Nat.lt_or_ge pos len with q | q
  · exact q
  · simp [isD, nsI, Nat.not_lt.mpr q] at h
def rsS (t : Nat → Int32) (len pos : Nat) (s : Bool) (c : Int32) : Bool := s && decide (nsI t len pos = c)
def rsP (t : Nat → Int32) (len pos : Nat) (s : Bool) (c : Int32) : Nat := if rsS t len pos s c then pos + 1 else pos
theorem rsP_le {t : Nat → Int32} {len pos : Nat} {s : Bool} {c : Int32} (hc : c ≠ -1) (h : pos ≤ 40) (hl : len ≤ 40) : rsP t len pos s c ≤ 40 := by
  unfold rsP
  split
  · rename_i q
    simp only [rsS, Bool.and_eq_true, decide_eq_true_eq] at q
    rcases Nat.lt_or_ge pos len with z | z
    · omega
    · exact absurd (by rw [← q.2]; simp [nsI, Nat.not_lt.mpr z]) hc
  · exact h
def dgF (t : Nat → Int32) (len : Nat) : Nat → Int32 → Bool → Nat → Int32 × Nat
  | 0, n, _, p => (n, p)
  | m + 1, n, go, p => if go && isD t len p then dgF t len m (n * 10 + (nsI t len p - 48)) (decide (n * 10 + (nsI t len p - 48) ≠ 0)) (p + 1) else (n, p)
theorem dgF_le (t : Nat → Int32) (len : Nat) (hl : len ≤ 40) : ∀ (m : Nat) (n : Int32) (go : Bool) (p : Nat), p ≤ 40 → (dgF t len m n go p).2 ≤ 40
  | 0, _, _, _, h => h
  | m + 1, n, go, p, h => by
    unfold dgF
    split
    · rename_i q
      rw [Bool.and_eq_true] at q
      have := isD_lt q.2
      exact dgF_le t len hl m _ _ _ (by omega)
    · exact h
def rnS (t : Nat → Int32) (len pos : Nat) (s : Bool) : Bool := s && isD t len pos
def rn (t : Nat → Int32) (len pos : Nat) (s : Bool) : Int32 × Nat := dgF t len 4 0 (rnS t len pos s) pos
theorem rn_le {t : Nat → Int32} {len pos : Nat} {s : Bool} (hl : len ≤ 40) (h : pos ≤ 40) : (rn t len pos s).2 ≤ 40 := dgF_le t len hl _ _ _ _ h
/-- a part: the base, the position, whether it is sound -/
def rpP1 (t : Nat → Int32) (len pos : Nat) (s : Bool) : Nat := rsP t len (rn t len pos s).2 (rnS t len pos s) 58
def rpS1 (t : Nat → Int32) (len pos : Nat) (s : Bool) : Bool := rsS t len (rn t len pos s).2 (rnS t len pos s) 58
def rpH (t : Nat → Int32) (len part : Nat) (h : HP) (pos : Nat) (s : Bool) : HP := hput (hput (hput h 246 (part * 2 + 0) (rn t len pos s).1) 246 (part * 2 + 1) (rn t len (rpP1 t len pos s) (rpS1 t len pos s)).1) 243 3 (nI (part + 1))
def rpP (t : Nat → Int32) (len pos : Nat) (s : Bool) : Nat := (rn t len (rpP1 t len pos s) (rpS1 t len pos s)).2
def rpS (t : Nat → Int32) (len pos : Nat) (s : Bool) : Bool := rnS t len (rpP1 t len pos s) (rpS1 t len pos s)
theorem rpP_le {t : Nat → Int32} {len pos : Nat} {s : Bool} (hl : len ≤ 40) (h : pos ≤ 40) : rpP t len pos s ≤ 40 := rn_le hl (rsP_le (by decide) (rn_le hl h) hl)
theorem rpH_244 (t : Nat → Int32) (len part : Nat) (h : HP) (pos : Nat) (s : Bool) : rpH t len part h pos s 244 = h 244 := by funext j; simp [rpH, hput]
theorem rpH_2 (t : Nat → Int32) (len part : Nat) (h : HP) (pos : Nat) (s : Bool) : rpH t len part h pos s 243 2 = h 243 2 := by simp [rpH, hput]
def rbF (t : Nat → Int32) (len : Nat) : Nat → Nat → HP → Nat → Bool → Bool → HP × (Nat × (Bool × Bool))
  | 0, _, h, p, s, e => (h, p, s, e)
  | m + 1, part, h, p, s, e =>
    if s && !e then
      if decide (1 ≤ part) && decide (rpP t len p s = len) then rbF t len m (part + 1) (rpH t len part h p s) (rpP t len p s) (rpS t len p s) true
      else if part < 3 then rbF t len m (part + 1) (rpH t len part h p s) (rsP t len (rpP t len p s) (rpS t len p s) 43) (rsS t len (rpP t len p s) (rpS t len p s) 43) false
      else rbF t len m (part + 1) (rpH t len part h p s) (rpP t len p s) (rpS t len p s) false
    else (h, p, s, e)
theorem rsS_f1 {t : Nat → Int32} {len pos : Nat} {s : Bool} {c : Int32} (h : s = false) : rsS t len pos s c = false := by rw [rsS, h, Bool.false_and]
theorem rsS_f2 {t : Nat → Int32} {len pos : Nat} {s : Bool} {c : Int32} (h : ¬ nsI t len pos = c) : rsS t len pos s c = false := by rw [rsS, Bool.and_eq_false_iff, decide_eq_false_iff_not]; exact Or.inr h
theorem rsS_t {t : Nat → Int32} {len pos : Nat} {s : Bool} {c : Int32} (h1 : s = true) (h : nsI t len pos = c) : rsS t len pos s c = true := by rw [rsS, h1, Bool.true_and, decide_eq_true_eq]; exact h
theorem rbF_1 (t : Nat → Int32) (len m part : Nat) (h : HP) (p : Nat) : rbF t len (m + 1) part h p true false = (if (decide (1 ≤ part) && decide (rpP t len p true = len)) = true then rbF t len m (part + 1) (rpH t len part h p true) (rpP t len p true) (rpS t len p true) true
      else if part < 3 then rbF t len m (part + 1) (rpH t len part h p true) (rsP t len (rpP t len p true) (rpS t len p true) 43) (rsS t len (rpP t len p true) (rpS t len p true) 43) false
      else rbF t len m (part + 1) (rpH t len part h p true) (rpP t len p true) (rpS t len p true) false) := rfl
theorem rnS_f1 {t : Nat → Int32} {len pos : Nat} {s : Bool} (h : s = false) : rnS t len pos s = false := by rw [rnS, h, Bool.false_and]
theorem rnS_f2 {t : Nat → Int32} {len pos : Nat} {s : Bool} (h : isD t len pos = false) : rnS t len pos s = false := by rw [rnS, h, Bool.and_false]
theorem rnS_t {t : Nat → Int32} {len pos : Nat} {s : Bool} (h1 : s = true) (h : isD t len pos = true) : rnS t len pos s = true := by rw [rnS, h1, h]; rfl
set_option maxRecDepth 100000 in
set_option maxHeartbeats 4000000 in
theorem sp_X3_lotOf {l : Launch} {G : GC} {ad : Nat → Nat} {h : HP} {part : Nat} (hpart : part < 4) : PF l G yX3_lotOf (.code yX3_lotOf cX3_lotOf 2 ((Option.some FieldType.int))) { frames := 2, cells := 0, slots := 0, locals := 45 } [.ref (ad 243), .int (nI part)] SW ad (h) (some (.int (h 246 (part * 2 + 0)))) (h) := by
  refine PF.mk (L0 := [some (.ref (ad 243)), some (.int (nI part))]) RX3 "lotOf" 0 0 (by decide +kernel) rfl rfl ⟨rfl, rfl⟩ (by simp [Value.category]) (Nat.le_of_ble_eq_true rfl) rfl ?_
  refine pw_aload_n dX3_lotOf_0 rfl ?_
  refine pw_getr dX3_lotOf_1 lf_X3_20 sh_243 rfl ?_
  refine pw_iload_n dX3_lotOf_4 rfl ?_
  refine pw_iconst dX3_lotOf_5 (v := 0) (by decide) ?_
  refine pw_cV dX3_lotOf_6 (sp_X6_at tq_245 (r := part) (k := 0) rfl rfl (hpart) (by decide)) mi_X6_at mv_X6_at ml_X3_42 sh_245 rfl rfl rfl rfl ⟨rfl, rfl⟩ rfl rfl ?_
  exact pw_iretF dX3_lotOf_9 rfl rfl rfl rfl rfl

set_option maxRecDepth 100000 in
set_option maxHeartbeats 4000000 in
theorem sp_X3_quartersOf {l : Launch} {G : GC} {ad : Nat → Nat} {h : HP} {part : Nat} (hpart : part < 4) : PF l G yX3_quartersOf (.code yX3_quartersOf cX3_quartersOf 2 ((Option.some FieldType.int))) { frames := 2, cells := 0, slots := 0, locals := 45 } [.ref (ad 243), .int (nI part)] SW ad (h) (some (.int (h 246 (part * 2 + 1)))) (h) := by
  refine PF.mk (L0 := [some (.ref (ad 243)), some (.int (nI part))]) RX3 "quartersOf" 0 0 (by decide +kernel) rfl rfl ⟨rfl, rfl⟩ (by simp [Value.category]) (Nat.le_of_ble_eq_true rfl) rfl ?_
  refine pw_aload_n dX3_quartersOf_0 rfl ?_
  refine pw_getr dX3_quartersOf_1 lf_X3_20 sh_243 rfl ?_
  refine pw_iload_n dX3_quartersOf_4 rfl ?_
  refine pw_iconst dX3_quartersOf_5 (v := 1) (by decide) ?_
  refine pw_cV dX3_quartersOf_6 (sp_X6_at tq_245 (r := part) (k := 1) rfl rfl (hpart) (by decide)) mi_X6_at mv_X6_at ml_X3_42 sh_245 rfl rfl rfl rfl ⟨rfl, rfl⟩ rfl rfl ?_
  exact pw_iretF dX3_quartersOf_9 rfl rfl rfl rfl rfl

set_option maxRecDepth 100000 in
set_option maxHeartbeats 4000000 in
theorem sp_X3_append {l : Launch} {G : GC} {ad : Nat → Nat} {h : HP} {len : Nat} (hlen : h 243 2 = nI len) (hl40 : len < 40) {sign : Int32} : PF l G yX3_append (.code yX3_append cX3_append 2 ((Option.some FieldType.int))) { frames := 1, cells := 0, slots := 0, locals := 22 } [.ref (ad 243), .int (sign)] SW ad (h) (some (.int (nI (len + 1)))) (hput (hput h 244 len (vp_nar .char sign)) 243 2 (nI (len + 1))) := by
  refine PF.mk (L0 := [some (.ref (ad 243)), some (.int (sign))]) RX3 "append" 0 0 (by decide +kernel) rfl rfl ⟨rfl, rfl⟩ (by simp [Value.category]) (Nat.le_of_ble_eq_true rfl) rfl ?_
  refine pw_aload_n dX3_append_0 rfl ?_
  refine pw_geti dX3_append_1 lf_X3_24 sh_243 rfl ?_
  refine pw_iconst dX3_append_4 (v := 0) (by decide) ?_
  refine pw_aload_n dX3_append_5 rfl ?_
  refine pw_getr dX3_append_6 lf_X3_9 sh_243 rfl ?_
  refine pw_alen dX3_append_9 sh_244 (Or.inr rfl) ?_
  refine pw_iconst dX3_append_10 (v := 1) (by decide) ?_
  refine pw_isub dX3_append_11 ?_
  refine pw_cS dX3_append_12 (sp_X7_isWithin) mi_X7_isWithin ms_X7_isWithin ml_X3_38 rfl rfl ⟨rfl, rfl⟩ rfl rfl ?_
  refine pw_if_eq dX3_append_15 (tgt := 38) (by decide) (fun c15 => absurd c15 ((by rw [hlen, show (nI 40 - 1 : Int32) = nI 39 from nI_pred 39]; simp [b2i, nI_pos' (show len < 2 ^ 31 by omega), nI_le (show len ≤ 39 by omega) (show 39 < 2 ^ 31 by decide)]))) (fun c15 => ?_)
  refine pw_aload_n dX3_append_18 rfl ?_
  refine pw_getr dX3_append_19 lf_X3_9 sh_243 rfl ?_
  refine pw_aload_n dX3_append_22 rfl ?_
  refine pw_geti dX3_append_23 lf_X3_24 sh_243 rfl ?_
  refine pw_iload_n dX3_append_26 rfl ?_
  refine pw_castore dX3_append_27 sh_244 (by rw [hlen]; exact vpin hl40 (by decide)) ?_
  refine pw_aload_n dX3_append_28 rfl ?_
  refine pw_dup dX3_append_29 rfl ?_
  refine pw_geti dX3_append_30 lf_X3_24 sh_243 rfl ?_
  refine pw_iconst dX3_append_33 (v := 1) (by decide) ?_
  refine pw_iadd dX3_append_34 ?_
  rw [hlen, nI_cl (by omega), show hput h 244 len (vp_nar .char sign) 243 2 = nI len from hlen, nI_1]
  refine pw_puti dX3_append_35 lf_X3_24 lp_3_2 sh_243 rfl rfl rfl ?_
  refine pw_aload_n dX3_append_38 rfl ?_
  refine pw_geti dX3_append_39 lf_X3_24 sh_243 rfl ?_
  exact pw_iretF dX3_append_42 rfl rfl rfl (by simp [hput]) rfl

set_option maxRecDepth 100000 in
set_option maxHeartbeats 4000000 in
theorem sp_X3_nextSign {l : Launch} {G : GC} {ad : Nat → Nat} {h : HP} {len : Nat} (hlen : h 243 2 = nI len) (hl40 : len ≤ 40) {pos : Nat} (hp : pos ≤ 40) {snd : Bool} : PF l G yX3_nextSign (.code yX3_nextSign cX3_nextSign 1 ((Option.some FieldType.int))) { frames := 0, cells := 0, slots := 0, locals := 0 } [.ref (ad 243)] SW ad (hI h pos snd) (some (.int (nsI (h 244) len pos))) (hI h pos snd) := by
  refine PF.mk (L0 := [some (.ref (ad 243))]) RX3 "nextSign" 0 0 (by decide +kernel) rfl rfl ⟨rfl, rfl⟩ (by simp [Value.category]) (Nat.le_of_ble_eq_true rfl) rfl ?_
  refine pw_aload_n dX3_nextSign_0 rfl ?_
  refine pw_geti dX3_nextSign_1 lf_X3_31 sh_243 rfl ?_
  refine pw_if_lt dX3_nextSign_4 (tgt := 42) (by decide) (fun c4 => absurd c4 (by rw [hI_4]; exact nI_pos (by omega))) (fun c4 => ?_)
  refine pw_aload_n dX3_nextSign_7 rfl ?_
  refine pw_geti dX3_nextSign_8 lf_X3_31 sh_243 rfl ?_
  refine pw_aload_n dX3_nextSign_11 rfl ?_
  refine pw_geti dX3_nextSign_12 lf_X3_24 sh_243 rfl ?_
  refine pw_icmp_ge dX3_nextSign_15 (tgt := 42) (by decide) (fun c15 => ?_) (fun c15 => ?_)
  · skip
    refine pw_iconst dX3_nextSign_42 (v := (-1)) (by decide) ?_
    first
    | exact pw_iretF dX3_nextSign_43 rfl rfl rfl (by rw [hI_4, nI_cl (by omega), hI_o h pos snd (by decide), nsI, if_pos hi9]) rfl
    | exact pw_iretF dX3_nextSign_43 rfl rfl rfl (by rw [nsI, if_neg (fun q => (by rw [hI_4, hI_2, hlen] at c15; exact nI_ge q (by omega) c15))]) rfl
  · skip
    have hi9 : pos < len := by
      rcases Nat.lt_or_ge pos len with q | q
      · exact q
      · exact absurd (by rw [hI_4, hI_2, hlen]; exact nI_le q (by omega)) c15
    refine pw_aload_n dX3_nextSign_18 rfl ?_
    refine pw_geti dX3_nextSign_19 lf_X3_31 sh_243 rfl ?_
    refine pw_aload_n dX3_nextSign_22 rfl ?_
    refine pw_getr dX3_nextSign_23 lf_X3_9 sh_243 rfl ?_
    refine pw_alen dX3_nextSign_26 sh_244 (Or.inr rfl) ?_
    refine pw_icmp_ge dX3_nextSign_27 (tgt := 42) (by decide) (fun c27 => absurd c27 (by rw [hI_4]; exact nI_ge (by omega) (by decide))) (fun c27 => ?_)
    refine pw_aload_n dX3_nextSign_30 rfl ?_
    refine pw_getr dX3_nextSign_31 lf_X3_9 sh_243 rfl ?_
    refine pw_aload_n dX3_nextSign_34 rfl ?_
    refine pw_geti dX3_nextSign_35 lf_X3_31 sh_243 rfl ?_
    refine pw_caload dX3_nextSign_38 sh_244 (by rw [hI_4]; exact vpin (N := 40) (by omega) (by decide)) ?_
    refine pw_goto dX3_nextSign_39 (tgt := 43) (by decide) ?_
    first
    | exact pw_iretF dX3_nextSign_43 rfl rfl rfl (by rw [hI_4, nI_cl (by omega), hI_o h pos snd (by decide), nsI, if_pos hi9]) rfl
    | exact pw_iretF dX3_nextSign_43 rfl rfl rfl (by rw [nsI, if_neg (fun q => (by rw [hI_4, hI_2, hlen] at c15; exact nI_ge q (by omega) c15))]) rfl

set_option maxRecDepth 100000 in
set_option maxHeartbeats 4000000 in
theorem sp_X3_hasDigit {l : Launch} {G : GC} {ad : Nat → Nat} {h : HP} {len : Nat} (hlen : h 243 2 = nI len) (hl40 : len ≤ 40) {pos : Nat} (hp : pos ≤ 40) {snd : Bool} : PF l G yX3_hasDigit (.code yX3_hasDigit cX3_hasDigit 1 ((Option.some FieldType.boolean))) { frames := 1, cells := 0, slots := 0, locals := 22 } [.ref (ad 243)] SW ad (hI h pos snd) (some (.int (b2i (isD (h 244) len pos)))) (hI h pos snd) := by
  refine PF.mk (L0 := [some (.ref (ad 243))]) RX3 "hasDigit" 0 0 (by decide +kernel) rfl rfl ⟨rfl, rfl⟩ (by simp [Value.category]) (Nat.le_of_ble_eq_true rfl) rfl ?_
  refine pw_aload_n dX3_hasDigit_0 rfl ?_
  refine pw_cV dX3_hasDigit_1 (sp_X3_nextSign hlen hl40 hp) mi_X3_nextSign mv_X3_nextSign ml_X3_66 sh_243 rfl rfl rfl rfl ⟨rfl, rfl⟩ rfl rfl ?_
  refine pw_bipush dX3_hasDigit_4 (v := 48) (by decide) ?_
  refine pw_bipush dX3_hasDigit_6 (v := 57) (by decide) ?_
  refine pw_cS dX3_hasDigit_8 (sp_X7_isWithin) mi_X7_isWithin ms_X7_isWithin ml_X3_38 rfl rfl ⟨rfl, rfl⟩ rfl rfl ?_
  exact pw_iretF dX3_hasDigit_11 rfl (by simp only [b2i]; split <;> rfl) rfl rfl rfl

set_option maxRecDepth 100000 in
set_option maxHeartbeats 4000000 in
theorem sp_X3_readSign {l : Launch} {G : GC} {ad : Nat → Nat} {h : HP} {len : Nat} (hlen : h 243 2 = nI len) (hl40 : len ≤ 40) {pos : Nat} (hp : pos ≤ 40) {snd : Bool} {c : Int32} : PF l G yX3_readSign (.code yX3_readSign cX3_readSign 2 ((Option.none : Option FieldType))) { frames := 1, cells := 0, slots := 0, locals := 20 } [.ref (ad 243), .int (c)] SW ad (hI h pos snd) (none) (hI h (rsP (h 244) len pos snd c) (rsS (h 244) len pos snd c)) := by
  refine PF.mk (L0 := [some (.ref (ad 243)), some (.int (c))]) RX3 "readSign" 0 0 (by decide +kernel) rfl rfl ⟨rfl, rfl⟩ (by simp [Value.category]) (Nat.le_of_ble_eq_true rfl) rfl ?_
  refine pw_aload_n dX3_readSign_0 rfl ?_
  refine pw_geti dX3_readSign_1 lf_X3_34 sh_243 rfl ?_
  refine pw_if_eq dX3_readSign_4 (tgt := 28) (by decide) (fun c4 => ?_) (fun c4 => ?_)
  · skip
    have e9 : rsS (h 244) len pos snd c = false := by
      first
      | exact rsS_f1 (b2i_eq (by rw [hI_5] at c4; exact c4))
      | exact rsS_f2 c12
    refine pw_aload_n dX3_readSign_28 rfl ?_
    refine pw_iconst dX3_readSign_29 (v := 0) (by decide) ?_
    refine pw_puti dX3_readSign_30 lf_X3_34 lp_3_5 sh_243 rfl rfl rfl ?_
    first
    | exact pw_retF dX3_readSign_33 rfl rfl (by rw [hI_pos, rsP, e9, if_pos rfl]; rw [show snd = true from hs9])
    | exact pw_retF dX3_readSign_33 rfl rfl (by rw [rsP, e9, if_neg (by decide)]; exact hI_snd h pos snd false)
  · skip
    refine pw_aload_n dX3_readSign_7 rfl ?_
    refine pw_cV dX3_readSign_8 (sp_X3_nextSign hlen hl40 hp) mi_X3_nextSign mv_X3_nextSign ml_X3_66 sh_243 rfl rfl rfl rfl ⟨rfl, rfl⟩ rfl rfl ?_
    refine pw_iload_n dX3_readSign_11 rfl ?_
    refine pw_icmp_ne dX3_readSign_12 (tgt := 28) (by decide) (fun c12 => ?_) (fun c12 => ?_)
    · skip
      have e9 : rsS (h 244) len pos snd c = false := by
        first
        | exact rsS_f1 (b2i_eq (by rw [hI_5] at c4; exact c4))
        | exact rsS_f2 c12
      refine pw_aload_n dX3_readSign_28 rfl ?_
      refine pw_iconst dX3_readSign_29 (v := 0) (by decide) ?_
      refine pw_puti dX3_readSign_30 lf_X3_34 lp_3_5 sh_243 rfl rfl rfl ?_
      first
      | exact pw_retF dX3_readSign_33 rfl rfl (by rw [hI_pos, rsP, e9, if_pos rfl]; rw [show snd = true from hs9])
      | exact pw_retF dX3_readSign_33 rfl rfl (by rw [rsP, e9, if_neg (by decide)]; exact hI_snd h pos snd false)
    · skip
      have hs9 : snd = true := b2i_ne (by rw [hI_5] at c4; exact c4)
      have e9 : rsS (h 244) len pos snd c = true := rsS_t hs9 c12
      refine pw_aload_n dX3_readSign_15 rfl ?_
      refine pw_dup dX3_readSign_16 rfl ?_
      refine pw_geti dX3_readSign_17 lf_X3_31 sh_243 rfl ?_
      refine pw_iconst dX3_readSign_20 (v := 1) (by decide) ?_
      refine pw_iadd dX3_readSign_21 ?_
      rw [hI_4, nI_1]
      refine pw_puti dX3_readSign_22 lf_X3_31 lp_3_4 sh_243 rfl rfl rfl ?_
      refine pw_goto dX3_readSign_25 (tgt := 33) (by decide) ?_
      first
      | exact pw_retF dX3_readSign_33 rfl rfl (by rw [hI_pos, rsP, e9, if_pos rfl]; rw [show snd = true from hs9])
      | exact pw_retF dX3_readSign_33 rfl rfl (by rw [rsP, e9, if_neg (by decide)]; exact hI_snd h pos snd false)

set_option maxRecDepth 100000 in
set_option maxHeartbeats 4000000 in
theorem lp_X3_readNumber {l : Launch} {G : GC} {ad : Nat → Nat} {h : HP} {len : Nat} (hlen : h 243 2 = nI len) (hl40 : len ≤ 40) {pos : Nat} (hp : pos ≤ 40) {snd : Bool}  : ∀ (mu9 : Nat) (i : Nat) (x1 : Int32) (x2 : Int32) (go : Bool) (p9 : Nat) (hi : i ≤ 4) (hp9 : p9 ≤ 40) (hx2 : x2 = b2i go) (hF : rn (h 244) len pos snd = dgF (h 244) len (4 - i) x1 go p9) (hmu9 : 4 - i < mu9), PW l G cX3_readNumber RX3 4 ((Option.some FieldType.int)) [] { frames := 2, cells := 0, slots := 0, locals := 42 } (gNm "readNumber") (gME G SW ad (gR SW ad (some (.int (rn (h 244) len pos snd).1)) (hI h (rn (h 244) len pos snd).2 (rnS (h 244) len pos snd))) gNo 0 0) 32 [some (.ref (ad 243)), some (.int x1), some (.int x2), some (.int (nI i))] [] SW ad (hI h p9 (rnS (h 244) len pos snd)) 0 0 := by
  intro mu9
  induction mu9 with
  | zero => intro i x1 x2 go p9 hi hp9 hx2 hF hmu9; exact absurd hmu9 (Nat.not_lt_zero _)
  | succ mu9 ih =>
    intro i x1 x2 go p9 hi hp9 hx2 hF hmu9
    refine pw_iload_n dX3_readNumber_32 rfl ?_
    refine pw_iconst dX3_readNumber_33 (v := 4) (by decide) ?_
    refine pw_icmp_ge dX3_readNumber_34 (tgt := 87) (by decide) (fun c34 => ?_) (fun c34 => ?_)
    · skip
      refine pw_iload_n dX3_readNumber_87 rfl ?_
      refine pw_iretF dX3_readNumber_88 rfl rfl rfl ?_ ?_
      all_goals rw [hF]
      all_goals first
        | (have e8 : i = 4 := eqN (N := 4) rfl hi (by decide) c34; rw [e8]; rfl)
        | (rw [show 4 - i = (4 - (i + 1)) + 1 by omega, dgF, if_neg (by rw [show go = false from b2i_eq (by rw [← hx2]; exact c38)]; simp)])
        | (rw [show 4 - i = (4 - (i + 1)) + 1 by omega, dgF, if_neg (by rw [show isD (h 244) len p9 = false from b2i_eq c45]; simp)])
    · skip
      have hi9 : i < 4 := ltN (N := 4) rfl hi (by decide) c34
      refine pw_iload_n dX3_readNumber_37 rfl ?_
      refine pw_if_eq dX3_readNumber_38 (tgt := 87) (by decide) (fun c38 => ?_) (fun c38 => ?_)
      · skip
        refine pw_iload_n dX3_readNumber_87 rfl ?_
        refine pw_iretF dX3_readNumber_88 rfl rfl rfl ?_ ?_
        all_goals rw [hF]
        all_goals first
          | (have e8 : i = 4 := eqN (N := 4) rfl hi (by decide) c34; rw [e8]; rfl)
          | (rw [show 4 - i = (4 - (i + 1)) + 1 by omega, dgF, if_neg (by rw [show go = false from b2i_eq (by rw [← hx2]; exact c38)]; simp)])
          | (rw [show 4 - i = (4 - (i + 1)) + 1 by omega, dgF, if_neg (by rw [show isD (h 244) len p9 = false from b2i_eq c45]; simp)])
      · skip
        refine pw_aload_n dX3_readNumber_41 rfl ?_
        refine pw_cV dX3_readNumber_42 (sp_X3_hasDigit hlen hl40 hp9) mi_X3_hasDigit mv_X3_hasDigit ml_X3_69 sh_243 rfl rfl rfl rfl ⟨rfl, rfl⟩ rfl rfl ?_
        refine pw_if_eq dX3_readNumber_45 (tgt := 87) (by decide) (fun c45 => ?_) (fun c45 => ?_)
        · skip
          refine pw_iload_n dX3_readNumber_87 rfl ?_
          refine pw_iretF dX3_readNumber_88 rfl rfl rfl ?_ ?_
          all_goals rw [hF]
          all_goals first
            | (have e8 : i = 4 := eqN (N := 4) rfl hi (by decide) c34; rw [e8]; rfl)
            | (rw [show 4 - i = (4 - (i + 1)) + 1 by omega, dgF, if_neg (by rw [show go = false from b2i_eq (by rw [← hx2]; exact c38)]; simp)])
            | (rw [show 4 - i = (4 - (i + 1)) + 1 by omega, dgF, if_neg (by rw [show isD (h 244) len p9 = false from b2i_eq c45]; simp)])
        · skip
          have hg : go = true := b2i_ne (by rw [← hx2]; exact c38)
          have hdg : isD (h 244) len p9 = true := b2i_ne c45
          have hlt9 := isD_lt hdg
          refine pw_iload_n dX3_readNumber_48 rfl ?_
          refine pw_bipush dX3_readNumber_49 (v := 10) (by decide) ?_
          refine pw_imul dX3_readNumber_51 ?_
          refine pw_aload_n dX3_readNumber_52 rfl ?_
          refine pw_cV dX3_readNumber_53 (sp_X3_nextSign hlen hl40 hp9) mi_X3_nextSign mv_X3_nextSign ml_X3_66 sh_243 rfl rfl rfl rfl ⟨rfl, rfl⟩ rfl rfl ?_
          refine pw_bipush dX3_readNumber_56 (v := 48) (by decide) ?_
          refine pw_isub dX3_readNumber_58 ?_
          refine pw_iadd dX3_readNumber_59 ?_
          refine pw_istore_n dX3_readNumber_60 (by decide) rfl ?_
          refine pw_aload_n dX3_readNumber_61 rfl ?_
          refine pw_dup dX3_readNumber_62 rfl ?_
          refine pw_geti dX3_readNumber_63 lf_X3_31 sh_243 rfl ?_
          refine pw_iconst dX3_readNumber_66 (v := 1) (by decide) ?_
          refine pw_iadd dX3_readNumber_67 ?_
          rw [hI_4, nI_1]
          refine pw_puti dX3_readNumber_68 lf_X3_31 lp_3_4 sh_243 rfl rfl rfl ?_
          rw [hI_pos]
          refine pw_iload_n dX3_readNumber_71 rfl ?_
          refine pw_if_eq dX3_readNumber_72 (tgt := 79) (by decide) (fun c72 => ?_) (fun c72 => ?_)
          · skip
            refine pw_iconst dX3_readNumber_79 (v := 0) (by decide) ?_
            refine pw_istore_n dX3_readNumber_80 (by decide) rfl ?_
            refine pw_iinc dX3_readNumber_81 rfl (d := 1) (by decide) (by decide) rfl ?_
            rw [nI_1]
            refine pw_goto dX3_readNumber_84 (tgt := 32) (by decide) ?_
            refine ih (i + 1) _ _ (decide (x1 * 10 + (nsI (h 244) len p9 - 48) ≠ 0)) (p9 + 1) (by omega) (by omega) (by first | (rw [decide_eq_true c72]; rfl) | (simp [b2i, c72])) ?_ (by omega)
            rw [hF, show 4 - i = (4 - (i + 1)) + 1 by omega, dgF, if_pos (by rw [hg, hdg]; rfl)]
          · skip
            refine pw_iconst dX3_readNumber_75 (v := 1) (by decide) ?_
            refine pw_goto dX3_readNumber_76 (tgt := 80) (by decide) ?_
            refine pw_istore_n dX3_readNumber_80 (by decide) rfl ?_
            refine pw_iinc dX3_readNumber_81 rfl (d := 1) (by decide) (by decide) rfl ?_
            rw [nI_1]
            refine pw_goto dX3_readNumber_84 (tgt := 32) (by decide) ?_
            refine ih (i + 1) _ _ (decide (x1 * 10 + (nsI (h 244) len p9 - 48) ≠ 0)) (p9 + 1) (by omega) (by omega) (by first | (rw [decide_eq_true c72]; rfl) | (simp [b2i, c72])) ?_ (by omega)
            rw [hF, show 4 - i = (4 - (i + 1)) + 1 by omega, dgF, if_pos (by rw [hg, hdg]; rfl)]

set_option maxRecDepth 100000 in
set_option maxHeartbeats 4000000 in
theorem sp_X3_readNumber {l : Launch} {G : GC} {ad : Nat → Nat} {h : HP} {len : Nat} (hlen : h 243 2 = nI len) (hl40 : len ≤ 40) {pos : Nat} (hp : pos ≤ 40) {snd : Bool} : PF l G yX3_readNumber (.code yX3_readNumber cX3_readNumber 4 ((Option.some FieldType.int))) { frames := 2, cells := 0, slots := 0, locals := 42 } [.ref (ad 243)] SW ad (hI h pos snd) (some (.int (rn (h 244) len pos snd).1)) (hI h (rn (h 244) len pos snd).2 (rnS (h 244) len pos snd)) := by
  refine PF.mk (L0 := [some (.ref (ad 243)), none, none, none]) RX3 "readNumber" 0 0 (by decide +kernel) rfl rfl ⟨rfl, rfl⟩ (by simp [Value.category]) (Nat.le_of_ble_eq_true rfl) rfl ?_
  refine pw_aload_n dX3_readNumber_0 rfl ?_
  refine pw_aload_n dX3_readNumber_1 rfl ?_
  refine pw_geti dX3_readNumber_2 lf_X3_34 sh_243 rfl ?_
  refine pw_if_eq dX3_readNumber_5 (tgt := 19) (by decide) (fun c5 => ?_) (fun c5 => ?_)
  · skip
    have s9 : rnS (h 244) len pos snd = false := by
      first
      | exact rnS_f1 (b2i_eq (by rw [hI_5] at c5; exact c5))
      | exact rnS_f2 (b2i_eq c12)
    refine pw_iconst dX3_readNumber_19 (v := 0) (by decide) ?_
    refine pw_puti dX3_readNumber_20 lf_X3_34 lp_3_5 sh_243 rfl rfl rfl ?_
    first
    | refine pw_heq (show hput (hI h pos snd) 243 5 1 = hI h pos (rnS (h 244) len pos snd) from by rw [s9]; exact hI_snd h pos snd true) ?_
    | refine pw_heq (show hput (hI h pos snd) 243 5 0 = hI h pos (rnS (h 244) len pos snd) from by rw [s9]; exact hI_snd h pos snd false) ?_
    refine pw_iconst dX3_readNumber_23 (v := 0) (by decide) ?_
    refine pw_istore_n dX3_readNumber_24 (by decide) rfl ?_
    refine pw_aload_n dX3_readNumber_25 rfl ?_
    refine pw_geti dX3_readNumber_26 lf_X3_34 sh_243 rfl ?_
    rw [hI_5]
    refine pw_istore_n dX3_readNumber_29 (by decide) rfl ?_
    refine pw_iconst dX3_readNumber_30 (v := 0) (by decide) ?_
    refine pw_istore_n dX3_readNumber_31 (by decide) rfl ?_
    exact lp_X3_readNumber hlen hl40 hp 5 0 0 _ _ pos (by decide) hp rfl rfl (by decide)
  · skip
    refine pw_aload_n dX3_readNumber_8 rfl ?_
    refine pw_cV dX3_readNumber_9 (sp_X3_hasDigit hlen hl40 hp) mi_X3_hasDigit mv_X3_hasDigit ml_X3_69 sh_243 rfl rfl rfl rfl ⟨rfl, rfl⟩ rfl rfl ?_
    refine pw_if_eq dX3_readNumber_12 (tgt := 19) (by decide) (fun c12 => ?_) (fun c12 => ?_)
    · skip
      have s9 : rnS (h 244) len pos snd = false := by
        first
        | exact rnS_f1 (b2i_eq (by rw [hI_5] at c5; exact c5))
        | exact rnS_f2 (b2i_eq c12)
      refine pw_iconst dX3_readNumber_19 (v := 0) (by decide) ?_
      refine pw_puti dX3_readNumber_20 lf_X3_34 lp_3_5 sh_243 rfl rfl rfl ?_
      first
      | refine pw_heq (show hput (hI h pos snd) 243 5 1 = hI h pos (rnS (h 244) len pos snd) from by rw [s9]; exact hI_snd h pos snd true) ?_
      | refine pw_heq (show hput (hI h pos snd) 243 5 0 = hI h pos (rnS (h 244) len pos snd) from by rw [s9]; exact hI_snd h pos snd false) ?_
      refine pw_iconst dX3_readNumber_23 (v := 0) (by decide) ?_
      refine pw_istore_n dX3_readNumber_24 (by decide) rfl ?_
      refine pw_aload_n dX3_readNumber_25 rfl ?_
      refine pw_geti dX3_readNumber_26 lf_X3_34 sh_243 rfl ?_
      rw [hI_5]
      refine pw_istore_n dX3_readNumber_29 (by decide) rfl ?_
      refine pw_iconst dX3_readNumber_30 (v := 0) (by decide) ?_
      refine pw_istore_n dX3_readNumber_31 (by decide) rfl ?_
      exact lp_X3_readNumber hlen hl40 hp 5 0 0 _ _ pos (by decide) hp rfl rfl (by decide)
    · skip
      have s9 : rnS (h 244) len pos snd = true := rnS_t (b2i_ne (by rw [hI_5] at c5; exact c5)) (b2i_ne c12)
      refine pw_iconst dX3_readNumber_15 (v := 1) (by decide) ?_
      refine pw_goto dX3_readNumber_16 (tgt := 20) (by decide) ?_
      refine pw_puti dX3_readNumber_20 lf_X3_34 lp_3_5 sh_243 rfl rfl rfl ?_
      first
      | refine pw_heq (show hput (hI h pos snd) 243 5 1 = hI h pos (rnS (h 244) len pos snd) from by rw [s9]; exact hI_snd h pos snd true) ?_
      | refine pw_heq (show hput (hI h pos snd) 243 5 0 = hI h pos (rnS (h 244) len pos snd) from by rw [s9]; exact hI_snd h pos snd false) ?_
      refine pw_iconst dX3_readNumber_23 (v := 0) (by decide) ?_
      refine pw_istore_n dX3_readNumber_24 (by decide) rfl ?_
      refine pw_aload_n dX3_readNumber_25 rfl ?_
      refine pw_geti dX3_readNumber_26 lf_X3_34 sh_243 rfl ?_
      rw [hI_5]
      refine pw_istore_n dX3_readNumber_29 (by decide) rfl ?_
      refine pw_iconst dX3_readNumber_30 (v := 0) (by decide) ?_
      refine pw_istore_n dX3_readNumber_31 (by decide) rfl ?_
      exact lp_X3_readNumber hlen hl40 hp 5 0 0 _ _ pos (by decide) hp rfl rfl (by decide)

set_option maxRecDepth 100000 in
set_option maxHeartbeats 4000000 in
theorem sp_X3_readPart {l : Launch} {G : GC} {ad : Nat → Nat} {h : HP} {len : Nat} (hlen : h 243 2 = nI len) (hl40 : len ≤ 40) {pos : Nat} (hp : pos ≤ 40) {snd : Bool} {part : Nat} (hpart : part < 4) : PF l G yX3_readPart (.code yX3_readPart cX3_readPart 2 ((Option.none : Option FieldType))) { frames := 3, cells := 0, slots := 0, locals := 65 } [.ref (ad 243), .int (nI part)] SW ad (hI h pos snd) (none) (hI (rpH (h 244) len part h pos snd) (rpP (h 244) len pos snd) (rpS (h 244) len pos snd)) := by
  refine PF.mk (L0 := [some (.ref (ad 243)), some (.int (nI part))]) RX3 "readPart" 0 0 (by decide +kernel) rfl rfl ⟨rfl, rfl⟩ (by simp [Value.category]) (Nat.le_of_ble_eq_true rfl) rfl ?_
  refine pw_aload_n dX3_readPart_0 rfl ?_
  refine pw_getr dX3_readPart_1 lf_X3_20 sh_243 rfl ?_
  refine pw_iload_n dX3_readPart_4 rfl ?_
  refine pw_iconst dX3_readPart_5 (v := 0) (by decide) ?_
  refine pw_aload_n dX3_readPart_6 rfl ?_
  refine pw_cV dX3_readPart_7 (sp_X3_readNumber hlen hl40 hp) mi_X3_readNumber mv_X3_readNumber ml_X3_58 sh_243 rfl rfl rfl rfl ⟨rfl, rfl⟩ rfl rfl ?_
  refine pw_cVn dX3_readPart_10 (sp_X6_put tq_245 (r := part) (k := 0) rfl rfl (hpart) (by decide)) mi_X6_put mv_X6_put ml_X3_62 sh_245 rfl rfl rfl rfl ⟨rfl, rfl⟩ rfl rfl ?_
  rw [hI_put _ _ _ _ _ (by decide)]
  refine pw_aload_n dX3_readPart_13 rfl ?_
  refine pw_bipush dX3_readPart_14 (v := 58) (by decide) ?_
  refine pw_cVn dX3_readPart_16 (sp_X3_readSign (h := (hput h 246 (part * 2 + 0) (rn (h 244) len pos snd).1)) (by simpa [hput] using hlen) hl40 (rn_le hl40 hp)) mi_X3_readSign mv_X3_readSign ml_X3_54 sh_243 rfl rfl rfl rfl ⟨rfl, rfl⟩ rfl rfl ?_
  rw [show (hput h 246 (part * 2 + 0) (rn (h 244) len pos snd).1) 244 = h 244 from by funext j; simp [hput]]
  refine pw_aload_n dX3_readPart_19 rfl ?_
  refine pw_getr dX3_readPart_20 lf_X3_20 sh_243 rfl ?_
  refine pw_iload_n dX3_readPart_23 rfl ?_
  refine pw_iconst dX3_readPart_24 (v := 1) (by decide) ?_
  refine pw_aload_n dX3_readPart_25 rfl ?_
  refine pw_cV dX3_readPart_26 (sp_X3_readNumber (h := (hput h 246 (part * 2 + 0) (rn (h 244) len pos snd).1)) (by simpa [hput] using hlen) hl40 (rsP_le (by decide) (rn_le hl40 hp) hl40)) mi_X3_readNumber mv_X3_readNumber ml_X3_58 sh_243 rfl rfl rfl rfl ⟨rfl, rfl⟩ rfl rfl ?_
  refine pw_cVn dX3_readPart_29 (sp_X6_put tq_245 (r := part) (k := 1) rfl rfl (hpart) (by decide)) mi_X6_put mv_X6_put ml_X3_62 sh_245 rfl rfl rfl rfl ⟨rfl, rfl⟩ rfl rfl ?_
  rw [show (hput h 246 (part * 2 + 0) (rn (h 244) len pos snd).1) 244 = h 244 from by funext j; simp [hput], hI_put _ _ _ _ _ (by decide)]
  refine pw_aload_n dX3_readPart_32 rfl ?_
  refine pw_iload_n dX3_readPart_33 rfl ?_
  refine pw_iconst dX3_readPart_34 (v := 1) (by decide) ?_
  refine pw_iadd dX3_readPart_35 ?_
  rw [nI_1]
  refine pw_puti dX3_readPart_36 lf_X3_28 lp_3_3 sh_243 rfl rfl rfl ?_
  rw [hI_put3]
  exact pw_retF dX3_readPart_39 rfl rfl rfl

set_option maxRecDepth 100000 in
set_option maxHeartbeats 4000000 in
theorem lp_X3_readBlend {l : Launch} {G : GC} {ad : Nat → Nat} {h : HP} {len : Nat} (hlen : h 243 2 = nI len) (hl40 : len ≤ 40)  : ∀ (mu9 : Nat) (i : Nat) (b : HP) (p : Nat) (s9 : Bool) (e9 : Bool) (hi : i ≤ 4) (hp : p ≤ 40) (hb : b 244 = h 244) (hb2 : b 243 2 = nI len) (hF : rbF (h 244) len 4 0 h 0 true false = rbF (h 244) len (4 - i) i b p s9 e9) (hmu9 : 4 - i < mu9), PW l G cX3_readBlend RX3 3 ((Option.some FieldType.boolean)) [] { frames := 4, cells := 0, slots := 0, locals := 86 } (gNm "readBlend") (gME G SW ad (gR SW ad (some (.int (b2i ((rbF (h 244) len 4 0 h 0 true false).2.2.1 && (rbF (h 244) len 4 0 h 0 true false).2.2.2)))) (hI (rbF (h 244) len 4 0 h 0 true false).1 (rbF (h 244) len 4 0 h 0 true false).2.1 ((rbF (h 244) len 4 0 h 0 true false).2.2.1 && (rbF (h 244) len 4 0 h 0 true false).2.2.2))) gNo 0 0) 14 [some (.ref (ad 243)), some (.int (b2i e9)), some (.int (nI i))] [] SW ad (hI b p s9) 0 0 := by
  intro mu9
  induction mu9 with
  | zero => intro i b p s9 e9 hi hp hb hb2 hF hmu9; exact absurd hmu9 (Nat.not_lt_zero _)
  | succ mu9 ih =>
    intro i b p s9 e9 hi hp hb hb2 hF hmu9
    refine pw_iload_n dX3_readBlend_14 rfl ?_
    refine pw_iconst dX3_readBlend_15 (v := 4) (by decide) ?_
    refine pw_icmp_ge dX3_readBlend_16 (tgt := 78) (by decide) (fun c16 => ?_) (fun c16 => ?_)
    · skip
      have hF2 : rbF (h 244) len 4 0 h 0 true false = (b, p, s9, e9) := by
        rw [hF]
        first
        | (rw [show 4 - i = 0 from by have e8 := eqN (N := 4) rfl hi (by decide) c16; omega]; rfl)
        | (rw [show 4 - i = (4 - (i + 1)) + 1 from by have := ltN (N := 4) rfl hi (by decide) c16; omega, rbF, if_neg (by rw [show s9 = false from b2i_eq (by rw [hI_5] at c23; exact c23)]; simp)])
        | (rw [show 4 - i = (4 - (i + 1)) + 1 from by have := ltN (N := 4) rfl hi (by decide) c16; omega, rbF, if_neg (by rw [show e9 = true from b2i_ne c27]; simp)])
      refine pw_aload_n dX3_readBlend_78 rfl ?_
      refine pw_aload_n dX3_readBlend_79 rfl ?_
      refine pw_geti dX3_readBlend_80 lf_X3_34 sh_243 rfl ?_
      refine pw_if_eq dX3_readBlend_83 (tgt := 94) (by decide) (fun c83 => ?_) (fun c83 => ?_)
      · skip
        have hz9 : (s9 && e9) = false := by
          first
          | (rw [show s9 = false from b2i_eq (by rw [hI_5] at c83; exact c83), Bool.false_and])
          | (rw [show e9 = false from b2i_eq c87, Bool.and_false])
        refine pw_iconst dX3_readBlend_94 (v := 0) (by decide) ?_
        have hv9 : ∀ z : Bool, (s9 && e9) = z → hput (hI b p s9) 243 5 (b2i z) = hI b p (s9 && e9) := fun z q => by rw [q]; exact hI_snd b p s9 z
        refine pw_puti dX3_readBlend_95 lf_X3_34 lp_3_5 sh_243 rfl rfl rfl ?_
        first | refine pw_heq (hv9 true hz9) ?_ | refine pw_heq (hv9 false hz9) ?_
        refine pw_aload_n dX3_readBlend_98 rfl ?_
        refine pw_geti dX3_readBlend_99 lf_X3_34 sh_243 rfl ?_
        exact pw_iretF dX3_readBlend_102 rfl (by rw [hI_5]; simp only [b2i]; split <;> rfl) rfl (by rw [hI_5, hF2]) (by rw [hF2])
      · skip
        refine pw_iload_n dX3_readBlend_86 rfl ?_
        refine pw_if_eq dX3_readBlend_87 (tgt := 94) (by decide) (fun c87 => ?_) (fun c87 => ?_)
        · skip
          have hz9 : (s9 && e9) = false := by
            first
            | (rw [show s9 = false from b2i_eq (by rw [hI_5] at c83; exact c83), Bool.false_and])
            | (rw [show e9 = false from b2i_eq c87, Bool.and_false])
          refine pw_iconst dX3_readBlend_94 (v := 0) (by decide) ?_
          have hv9 : ∀ z : Bool, (s9 && e9) = z → hput (hI b p s9) 243 5 (b2i z) = hI b p (s9 && e9) := fun z q => by rw [q]; exact hI_snd b p s9 z
          refine pw_puti dX3_readBlend_95 lf_X3_34 lp_3_5 sh_243 rfl rfl rfl ?_
          first | refine pw_heq (hv9 true hz9) ?_ | refine pw_heq (hv9 false hz9) ?_
          refine pw_aload_n dX3_readBlend_98 rfl ?_
          refine pw_geti dX3_readBlend_99 lf_X3_34 sh_243 rfl ?_
          exact pw_iretF dX3_readBlend_102 rfl (by rw [hI_5]; simp only [b2i]; split <;> rfl) rfl (by rw [hI_5, hF2]) (by rw [hF2])
        · skip
          have hz9 : (s9 && e9) = true := by rw [show s9 = true from b2i_ne (by rw [hI_5] at c83; exact c83), show e9 = true from b2i_ne c87]; rfl
          refine pw_iconst dX3_readBlend_90 (v := 1) (by decide) ?_
          refine pw_goto dX3_readBlend_91 (tgt := 95) (by decide) ?_
          have hv9 : ∀ z : Bool, (s9 && e9) = z → hput (hI b p s9) 243 5 (b2i z) = hI b p (s9 && e9) := fun z q => by rw [q]; exact hI_snd b p s9 z
          refine pw_puti dX3_readBlend_95 lf_X3_34 lp_3_5 sh_243 rfl rfl rfl ?_
          first | refine pw_heq (hv9 true hz9) ?_ | refine pw_heq (hv9 false hz9) ?_
          refine pw_aload_n dX3_readBlend_98 rfl ?_
          refine pw_geti dX3_readBlend_99 lf_X3_34 sh_243 rfl ?_
          exact pw_iretF dX3_readBlend_102 rfl (by rw [hI_5]; simp only [b2i]; split <;> rfl) rfl (by rw [hI_5, hF2]) (by rw [hF2])
    · skip
      have hi9 : i < 4 := ltN (N := 4) rfl hi (by decide) c16
      refine pw_aload_n dX3_readBlend_19 rfl ?_
      refine pw_geti dX3_readBlend_20 lf_X3_34 sh_243 rfl ?_
      refine pw_if_eq dX3_readBlend_23 (tgt := 78) (by decide) (fun c23 => ?_) (fun c23 => ?_)
      · skip
        have hF2 : rbF (h 244) len 4 0 h 0 true false = (b, p, s9, e9) := by
          rw [hF]
          first
          | (rw [show 4 - i = 0 from by have e8 := eqN (N := 4) rfl hi (by decide) c16; omega]; rfl)
          | (rw [show 4 - i = (4 - (i + 1)) + 1 from by have := ltN (N := 4) rfl hi (by decide) c16; omega, rbF, if_neg (by rw [show s9 = false from b2i_eq (by rw [hI_5] at c23; exact c23)]; simp)])
          | (rw [show 4 - i = (4 - (i + 1)) + 1 from by have := ltN (N := 4) rfl hi (by decide) c16; omega, rbF, if_neg (by rw [show e9 = true from b2i_ne c27]; simp)])
        refine pw_aload_n dX3_readBlend_78 rfl ?_
        refine pw_aload_n dX3_readBlend_79 rfl ?_
        refine pw_geti dX3_readBlend_80 lf_X3_34 sh_243 rfl ?_
        refine pw_if_eq dX3_readBlend_83 (tgt := 94) (by decide) (fun c83 => ?_) (fun c83 => ?_)
        · skip
          have hz9 : (s9 && e9) = false := by
            first
            | (rw [show s9 = false from b2i_eq (by rw [hI_5] at c83; exact c83), Bool.false_and])
            | (rw [show e9 = false from b2i_eq c87, Bool.and_false])
          refine pw_iconst dX3_readBlend_94 (v := 0) (by decide) ?_
          have hv9 : ∀ z : Bool, (s9 && e9) = z → hput (hI b p s9) 243 5 (b2i z) = hI b p (s9 && e9) := fun z q => by rw [q]; exact hI_snd b p s9 z
          refine pw_puti dX3_readBlend_95 lf_X3_34 lp_3_5 sh_243 rfl rfl rfl ?_
          first | refine pw_heq (hv9 true hz9) ?_ | refine pw_heq (hv9 false hz9) ?_
          refine pw_aload_n dX3_readBlend_98 rfl ?_
          refine pw_geti dX3_readBlend_99 lf_X3_34 sh_243 rfl ?_
          exact pw_iretF dX3_readBlend_102 rfl (by rw [hI_5]; simp only [b2i]; split <;> rfl) rfl (by rw [hI_5, hF2]) (by rw [hF2])
        · skip
          refine pw_iload_n dX3_readBlend_86 rfl ?_
          refine pw_if_eq dX3_readBlend_87 (tgt := 94) (by decide) (fun c87 => ?_) (fun c87 => ?_)
          · skip
            have hz9 : (s9 && e9) = false := by
              first
              | (rw [show s9 = false from b2i_eq (by rw [hI_5] at c83; exact c83), Bool.false_and])
              | (rw [show e9 = false from b2i_eq c87, Bool.and_false])
            refine pw_iconst dX3_readBlend_94 (v := 0) (by decide) ?_
            have hv9 : ∀ z : Bool, (s9 && e9) = z → hput (hI b p s9) 243 5 (b2i z) = hI b p (s9 && e9) := fun z q => by rw [q]; exact hI_snd b p s9 z
            refine pw_puti dX3_readBlend_95 lf_X3_34 lp_3_5 sh_243 rfl rfl rfl ?_
            first | refine pw_heq (hv9 true hz9) ?_ | refine pw_heq (hv9 false hz9) ?_
            refine pw_aload_n dX3_readBlend_98 rfl ?_
            refine pw_geti dX3_readBlend_99 lf_X3_34 sh_243 rfl ?_
            exact pw_iretF dX3_readBlend_102 rfl (by rw [hI_5]; simp only [b2i]; split <;> rfl) rfl (by rw [hI_5, hF2]) (by rw [hF2])
          · skip
            have hz9 : (s9 && e9) = true := by rw [show s9 = true from b2i_ne (by rw [hI_5] at c83; exact c83), show e9 = true from b2i_ne c87]; rfl
            refine pw_iconst dX3_readBlend_90 (v := 1) (by decide) ?_
            refine pw_goto dX3_readBlend_91 (tgt := 95) (by decide) ?_
            have hv9 : ∀ z : Bool, (s9 && e9) = z → hput (hI b p s9) 243 5 (b2i z) = hI b p (s9 && e9) := fun z q => by rw [q]; exact hI_snd b p s9 z
            refine pw_puti dX3_readBlend_95 lf_X3_34 lp_3_5 sh_243 rfl rfl rfl ?_
            first | refine pw_heq (hv9 true hz9) ?_ | refine pw_heq (hv9 false hz9) ?_
            refine pw_aload_n dX3_readBlend_98 rfl ?_
            refine pw_geti dX3_readBlend_99 lf_X3_34 sh_243 rfl ?_
            exact pw_iretF dX3_readBlend_102 rfl (by rw [hI_5]; simp only [b2i]; split <;> rfl) rfl (by rw [hI_5, hF2]) (by rw [hF2])
      · skip
        refine pw_iload_n dX3_readBlend_26 rfl ?_
        refine pw_if_ne dX3_readBlend_27 (tgt := 78) (by decide) (fun c27 => ?_) (fun c27 => ?_)
        · skip
          have hF2 : rbF (h 244) len 4 0 h 0 true false = (b, p, s9, e9) := by
            rw [hF]
            first
            | (rw [show 4 - i = 0 from by have e8 := eqN (N := 4) rfl hi (by decide) c16; omega]; rfl)
            | (rw [show 4 - i = (4 - (i + 1)) + 1 from by have := ltN (N := 4) rfl hi (by decide) c16; omega, rbF, if_neg (by rw [show s9 = false from b2i_eq (by rw [hI_5] at c23; exact c23)]; simp)])
            | (rw [show 4 - i = (4 - (i + 1)) + 1 from by have := ltN (N := 4) rfl hi (by decide) c16; omega, rbF, if_neg (by rw [show e9 = true from b2i_ne c27]; simp)])
          refine pw_aload_n dX3_readBlend_78 rfl ?_
          refine pw_aload_n dX3_readBlend_79 rfl ?_
          refine pw_geti dX3_readBlend_80 lf_X3_34 sh_243 rfl ?_
          refine pw_if_eq dX3_readBlend_83 (tgt := 94) (by decide) (fun c83 => ?_) (fun c83 => ?_)
          · skip
            have hz9 : (s9 && e9) = false := by
              first
              | (rw [show s9 = false from b2i_eq (by rw [hI_5] at c83; exact c83), Bool.false_and])
              | (rw [show e9 = false from b2i_eq c87, Bool.and_false])
            refine pw_iconst dX3_readBlend_94 (v := 0) (by decide) ?_
            have hv9 : ∀ z : Bool, (s9 && e9) = z → hput (hI b p s9) 243 5 (b2i z) = hI b p (s9 && e9) := fun z q => by rw [q]; exact hI_snd b p s9 z
            refine pw_puti dX3_readBlend_95 lf_X3_34 lp_3_5 sh_243 rfl rfl rfl ?_
            first | refine pw_heq (hv9 true hz9) ?_ | refine pw_heq (hv9 false hz9) ?_
            refine pw_aload_n dX3_readBlend_98 rfl ?_
            refine pw_geti dX3_readBlend_99 lf_X3_34 sh_243 rfl ?_
            exact pw_iretF dX3_readBlend_102 rfl (by rw [hI_5]; simp only [b2i]; split <;> rfl) rfl (by rw [hI_5, hF2]) (by rw [hF2])
          · skip
            refine pw_iload_n dX3_readBlend_86 rfl ?_
            refine pw_if_eq dX3_readBlend_87 (tgt := 94) (by decide) (fun c87 => ?_) (fun c87 => ?_)
            · skip
              have hz9 : (s9 && e9) = false := by
                first
                | (rw [show s9 = false from b2i_eq (by rw [hI_5] at c83; exact c83), Bool.false_and])
                | (rw [show e9 = false from b2i_eq c87, Bool.and_false])
              refine pw_iconst dX3_readBlend_94 (v := 0) (by decide) ?_
              have hv9 : ∀ z : Bool, (s9 && e9) = z → hput (hI b p s9) 243 5 (b2i z) = hI b p (s9 && e9) := fun z q => by rw [q]; exact hI_snd b p s9 z
              refine pw_puti dX3_readBlend_95 lf_X3_34 lp_3_5 sh_243 rfl rfl rfl ?_
              first | refine pw_heq (hv9 true hz9) ?_ | refine pw_heq (hv9 false hz9) ?_
              refine pw_aload_n dX3_readBlend_98 rfl ?_
              refine pw_geti dX3_readBlend_99 lf_X3_34 sh_243 rfl ?_
              exact pw_iretF dX3_readBlend_102 rfl (by rw [hI_5]; simp only [b2i]; split <;> rfl) rfl (by rw [hI_5, hF2]) (by rw [hF2])
            · skip
              have hz9 : (s9 && e9) = true := by rw [show s9 = true from b2i_ne (by rw [hI_5] at c83; exact c83), show e9 = true from b2i_ne c87]; rfl
              refine pw_iconst dX3_readBlend_90 (v := 1) (by decide) ?_
              refine pw_goto dX3_readBlend_91 (tgt := 95) (by decide) ?_
              have hv9 : ∀ z : Bool, (s9 && e9) = z → hput (hI b p s9) 243 5 (b2i z) = hI b p (s9 && e9) := fun z q => by rw [q]; exact hI_snd b p s9 z
              refine pw_puti dX3_readBlend_95 lf_X3_34 lp_3_5 sh_243 rfl rfl rfl ?_
              first | refine pw_heq (hv9 true hz9) ?_ | refine pw_heq (hv9 false hz9) ?_
              refine pw_aload_n dX3_readBlend_98 rfl ?_
              refine pw_geti dX3_readBlend_99 lf_X3_34 sh_243 rfl ?_
              exact pw_iretF dX3_readBlend_102 rfl (by rw [hI_5]; simp only [b2i]; split <;> rfl) rfl (by rw [hI_5, hF2]) (by rw [hF2])
        · skip
          have hs9 : s9 = true := b2i_ne (by rw [hI_5] at c23; exact c23)
          have he9 : e9 = false := b2i_eq c27
          subst hs9; subst he9
          have e7 : 4 - i = (4 - (i + 1)) + 1 := by omega
          have hF1 := hF.trans ((congrArg (fun z => rbF (h 244) len z i b p true false) e7).trans (rbF_1 (h 244) len (4 - (i + 1)) i b p))
          refine pw_aload_n dX3_readBlend_30 rfl ?_
          refine pw_iload_n dX3_readBlend_31 rfl ?_
          refine pw_cVn dX3_readBlend_32 (sp_X3_readPart (h := b) hb2 hl40 hp hi9) mi_X3_readPart mv_X3_readPart ml_X3_50 sh_243 rfl rfl rfl rfl ⟨rfl, rfl⟩ rfl rfl ?_
          rw [hb]
          refine pw_iload_n dX3_readBlend_35 rfl ?_
          refine pw_iconst dX3_readBlend_36 (v := 1) (by decide) ?_
          refine pw_icmp_lt dX3_readBlend_37 (tgt := 55) (by decide) (fun c37 => ?_) (fun c37 => ?_)
          · skip
            have q9 : ¬ (decide (1 ≤ i) && decide (rpP (h 244) len p true = len)) = true := by
              rw [Bool.and_eq_true, decide_eq_true_eq, decide_eq_true_eq]
              first
              | exact (fun z => nI_nlt z.1 (by omega) c37)
              | exact (fun z => c48 (by rw [hI_4, hI_2, rpH_2, hb2, z.2]))
            rw [if_neg q9] at hF1
            refine pw_iconst dX3_readBlend_55 (v := 0) (by decide) ?_
            refine pw_istore_n dX3_readBlend_56 (by decide) rfl ?_
            refine pw_iload_n dX3_readBlend_57 rfl ?_
            refine pw_if_ne dX3_readBlend_58 (tgt := 72) (by decide) (fun c58 => absurd c58 (by decide)) (fun c58 => ?_)
            refine pw_iload_n dX3_readBlend_61 rfl ?_
            refine pw_iconst dX3_readBlend_62 (v := 3) (by decide) ?_
            refine pw_icmp_ge dX3_readBlend_63 (tgt := 72) (by decide) (fun c63 => ?_) (fun c63 => ?_)
            · skip
              refine pw_iinc dX3_readBlend_72 rfl (d := 1) (by decide) (by decide) rfl ?_
              rw [nI_1]
              refine pw_goto dX3_readBlend_75 (tgt := 14) (by decide) ?_
              rw [if_neg (fun z => nI_ge z (by decide) c63)] at hF1
              exact ih (i + 1) (rpH (h 244) len i b p true) (rpP (h 244) len p true) (rpS (h 244) len p true) false (by omega) (rpP_le hl40 hp) (by rw [rpH_244]; exact hb) (by rw [rpH_2]; exact hb2) hF1 (by omega)
            · skip
              have q8 : i < 3 := by
                rcases Nat.lt_or_ge i 3 with q | q
                · exact q
                · exact absurd (nI_le (a := 3) q (by omega)) c63
              rw [if_pos q8] at hF1
              refine pw_aload_n dX3_readBlend_66 rfl ?_
              refine pw_bipush dX3_readBlend_67 (v := 43) (by decide) ?_
              refine pw_cVn dX3_readBlend_69 (sp_X3_readSign (h := rpH (h 244) len i b p true) (by rw [rpH_2]; exact hb2) hl40 (rpP_le hl40 hp)) mi_X3_readSign mv_X3_readSign ml_X3_54 sh_243 rfl rfl rfl rfl ⟨rfl, rfl⟩ rfl rfl ?_
              rw [rpH_244, hb]
              refine pw_iinc dX3_readBlend_72 rfl (d := 1) (by decide) (by decide) rfl ?_
              rw [nI_1]
              refine pw_goto dX3_readBlend_75 (tgt := 14) (by decide) ?_
              exact ih (i + 1) (rpH (h 244) len i b p true) _ _ false (by omega) (rsP_le (by decide) (rpP_le hl40 hp) hl40) (by rw [rpH_244]; exact hb) (by rw [rpH_2]; exact hb2) hF1 (by omega)
          · skip
            refine pw_aload_n dX3_readBlend_40 rfl ?_
            refine pw_geti dX3_readBlend_41 lf_X3_31 sh_243 rfl ?_
            refine pw_aload_n dX3_readBlend_44 rfl ?_
            refine pw_geti dX3_readBlend_45 lf_X3_24 sh_243 rfl ?_
            refine pw_icmp_ne dX3_readBlend_48 (tgt := 55) (by decide) (fun c48 => ?_) (fun c48 => ?_)
            · skip
              have q9 : ¬ (decide (1 ≤ i) && decide (rpP (h 244) len p true = len)) = true := by
                rw [Bool.and_eq_true, decide_eq_true_eq, decide_eq_true_eq]
                first
                | exact (fun z => nI_nlt z.1 (by omega) c37)
                | exact (fun z => c48 (by rw [hI_4, hI_2, rpH_2, hb2, z.2]))
              rw [if_neg q9] at hF1
              refine pw_iconst dX3_readBlend_55 (v := 0) (by decide) ?_
              refine pw_istore_n dX3_readBlend_56 (by decide) rfl ?_
              refine pw_iload_n dX3_readBlend_57 rfl ?_
              refine pw_if_ne dX3_readBlend_58 (tgt := 72) (by decide) (fun c58 => absurd c58 (by decide)) (fun c58 => ?_)
              refine pw_iload_n dX3_readBlend_61 rfl ?_
              refine pw_iconst dX3_readBlend_62 (v := 3) (by decide) ?_
              refine pw_icmp_ge dX3_readBlend_63 (tgt := 72) (by decide) (fun c63 => ?_) (fun c63 => ?_)
              · skip
                refine pw_iinc dX3_readBlend_72 rfl (d := 1) (by decide) (by decide) rfl ?_
                rw [nI_1]
                refine pw_goto dX3_readBlend_75 (tgt := 14) (by decide) ?_
                rw [if_neg (fun z => nI_ge z (by decide) c63)] at hF1
                exact ih (i + 1) (rpH (h 244) len i b p true) (rpP (h 244) len p true) (rpS (h 244) len p true) false (by omega) (rpP_le hl40 hp) (by rw [rpH_244]; exact hb) (by rw [rpH_2]; exact hb2) hF1 (by omega)
              · skip
                have q8 : i < 3 := by
                  rcases Nat.lt_or_ge i 3 with q | q
                  · exact q
                  · exact absurd (nI_le (a := 3) q (by omega)) c63
                rw [if_pos q8] at hF1
                refine pw_aload_n dX3_readBlend_66 rfl ?_
                refine pw_bipush dX3_readBlend_67 (v := 43) (by decide) ?_
                refine pw_cVn dX3_readBlend_69 (sp_X3_readSign (h := rpH (h 244) len i b p true) (by rw [rpH_2]; exact hb2) hl40 (rpP_le hl40 hp)) mi_X3_readSign mv_X3_readSign ml_X3_54 sh_243 rfl rfl rfl rfl ⟨rfl, rfl⟩ rfl rfl ?_
                rw [rpH_244, hb]
                refine pw_iinc dX3_readBlend_72 rfl (d := 1) (by decide) (by decide) rfl ?_
                rw [nI_1]
                refine pw_goto dX3_readBlend_75 (tgt := 14) (by decide) ?_
                exact ih (i + 1) (rpH (h 244) len i b p true) _ _ false (by omega) (rsP_le (by decide) (rpP_le hl40 hp) hl40) (by rw [rpH_244]; exact hb) (by rw [rpH_2]; exact hb2) hF1 (by omega)
            · skip
              have q9 : (decide (1 ≤ i) && decide (rpP (h 244) len p true = len)) = true := by
                rw [Bool.and_eq_true, decide_eq_true_eq, decide_eq_true_eq]
                refine ⟨?_, ?_⟩
                · rcases Nat.lt_or_ge i 1 with q | q
                  · exact absurd (nI_lt q (by decide)) c37
                  · exact q
                · rw [hI_4, hI_2, rpH_2, hb2] at c48
                  exact (nI_eq (by have := rpP_le (t := h 244) (s := true) hl40 hp; omega) (by omega)).mp c48
              rw [if_pos q9] at hF1
              refine pw_iconst dX3_readBlend_51 (v := 1) (by decide) ?_
              refine pw_goto dX3_readBlend_52 (tgt := 56) (by decide) ?_
              refine pw_istore_n dX3_readBlend_56 (by decide) rfl ?_
              refine pw_iload_n dX3_readBlend_57 rfl ?_
              refine pw_if_ne dX3_readBlend_58 (tgt := 72) (by decide) (fun c58 => ?_) (fun c58 => absurd c58 (by decide))
              refine pw_iinc dX3_readBlend_72 rfl (d := 1) (by decide) (by decide) rfl ?_
              rw [nI_1]
              refine pw_goto dX3_readBlend_75 (tgt := 14) (by decide) ?_
              exact ih (i + 1) (rpH (h 244) len i b p true) (rpP (h 244) len p true) (rpS (h 244) len p true) true (by omega) (rpP_le hl40 hp) (by rw [rpH_244]; exact hb) (by rw [rpH_2]; exact hb2) hF1 (by omega)

set_option maxRecDepth 100000 in
set_option maxHeartbeats 4000000 in
theorem sp_X3_readBlend {l : Launch} {G : GC} {ad : Nat → Nat} {h : HP} {len : Nat} (hlen : h 243 2 = nI len) (hl40 : len ≤ 40) : PF l G yX3_readBlend (.code yX3_readBlend cX3_readBlend 3 ((Option.some FieldType.boolean))) { frames := 4, cells := 0, slots := 0, locals := 86 } [.ref (ad 243)] SW ad (h) (some (.int (b2i ((rbF (h 244) len 4 0 h 0 true false).2.2.1 && (rbF (h 244) len 4 0 h 0 true false).2.2.2)))) (hI (rbF (h 244) len 4 0 h 0 true false).1 (rbF (h 244) len 4 0 h 0 true false).2.1 ((rbF (h 244) len 4 0 h 0 true false).2.2.1 && (rbF (h 244) len 4 0 h 0 true false).2.2.2)) := by
  refine PF.mk (L0 := [some (.ref (ad 243)), none, none]) RX3 "readBlend" 0 0 (by decide +kernel) rfl rfl ⟨rfl, rfl⟩ (by simp [Value.category]) (Nat.le_of_ble_eq_true rfl) rfl ?_
  refine pw_aload_n dX3_readBlend_0 rfl ?_
  refine pw_iconst dX3_readBlend_1 (v := 0) (by decide) ?_
  refine pw_puti dX3_readBlend_2 lf_X3_31 lp_3_4 sh_243 rfl rfl rfl ?_
  refine pw_aload_n dX3_readBlend_5 rfl ?_
  refine pw_iconst dX3_readBlend_6 (v := 1) (by decide) ?_
  refine pw_puti dX3_readBlend_7 lf_X3_34 lp_3_5 sh_243 rfl rfl rfl ?_
  refine pw_iconst dX3_readBlend_10 (v := 0) (by decide) ?_
  refine pw_istore_n dX3_readBlend_11 (by decide) rfl ?_
  refine pw_iconst dX3_readBlend_12 (v := 0) (by decide) ?_
  refine pw_istore_n dX3_readBlend_13 (by decide) rfl ?_
  refine pw_heq (show hput (hput h 243 4 0) 243 5 1 = hI h 0 true from ?_) ?_
  · funext q j; simp only [hI, hput]; split <;> (try split) <;> (try split) <;> (first | rfl | exact nI_0.symm | (simp_all; done) | (simp_all; first | rfl | exact nI_0.symm))
  · exact lp_X3_readBlend hlen hl40 5 0 h 0 true false (by decide) (by decide) rfl hlen rfl (by decide)

