/-! BLEND: what is read -/
section RD
variable {t t' : Nat → Int32} {len : Nat}
theorem isD_eq (ht : ∀ i, i < len → t i = t' i) (p : Nat) : isD t len p = (decide (p < len) && wiB (t' p) 48 57) := by
  unfold isD nsI wiB
  by_cases h : p < len
  · rw [if_pos h, decide_eq_true h, ht p h, Bool.true_and]
  · rw [if_neg h, decide_eq_false h, Bool.false_and]; decide
theorem mdD_eq (ht : ∀ i, i < len → t i = t' i) (p : Nat) (s : Bool) : mdD t' len p (!s) = (s && isD t len p) := by
  unfold mdD
  rw [isD_eq ht, Bool.not_not]
theorem isD_n (ht : ∀ i, i < len → t i = t' i) {p : Nat} (h : isD t len p = true) : ∃ d, d ≤ 9 ∧ t' p = nI (48 + d) ∧ nsI t len p = nI (48 + d) := by
  have h2 := h
  rw [isD_eq ht, Bool.and_eq_true, decide_eq_true_iff] at h
  obtain ⟨x, e, a1, a2⟩ := wi_bd (a := 48) (N := 57) (by decide) (by decide) h.2
  refine ⟨x - 48, by omega, by rw [e]; congr 1; omega, ?_⟩
  unfold nsI
  rw [if_pos h.1, ht p h.1, e]
  congr 1
  omega
theorem dg_eq (ht : ∀ i, i < len → t i = t' i) : ∀ m n p, (n + 1) * 10 ^ m ≤ 10000 → dgF t len m (nI n) (decide (nI n ≠ 0)) p = mnF t' len m (nI n) p
  | 0, _, _, _ => rfl
  | m + 1, n, p, hb => by
      have h1 : 1 ≤ 10 ^ (m + 1) := Nat.one_le_pow _ _ (by decide)
      have hn9 : (n + 1) * 1 ≤ (n + 1) * 10 ^ (m + 1) := Nat.mul_le_mul_left _ h1
      have hn : n < 100000 := by omega
      have e0 : decide (nI n ≠ 0) = decide (0 < nI n) := by
        rw [pos_nI (by omega)]
        rcases Nat.eq_zero_or_pos n with q | q
        · rw [q]; rfl
        · rw [decide_eq_true q, decide_eq_true (nI_ne0 q (by omega))]
      have e1 : mdD t' len p false = isD t len p := by
        have := mdD_eq ht p true
        rw [Bool.true_and] at this; exact this
      rw [dgF, mnF, e0, e1]
      by_cases c : (decide (0 < nI n) && isD t len p) = true
      · rw [if_pos c, if_pos c]
        obtain ⟨c1, c2⟩ := Bool.and_eq_true_iff.mp c
        obtain ⟨d, d1, d2, d3⟩ := isD_n ht c2
        have f1 : nI n * 10 + (nsI t len p - 48) = nI (n * 10 + d) := by
          rw [d3, show (48 : Int32) = nI 48 from rfl, show (10 : Int32) = nI 10 from rfl, pk_sub (by omega), pk_mul, nI_add]
          congr 1; omega
        have f2 : 10 * nI n + t' p - 48 = nI (n * 10 + d) := by
          rw [d2, show (48 : Int32) = nI 48 from rfl, show (10 : Int32) = nI 10 from rfl, pk_mul, nI_add, pk_sub (by omega)]
          congr 1; omega
        rw [f1, f2]
        have hb2 : (n * 10 + d + 1) * 10 ^ m ≤ 10000 := by
          refine Nat.le_trans (Nat.mul_le_mul_right _ (show n * 10 + d + 1 ≤ (n + 1) * 10 by omega)) ?_
          rw [Nat.mul_assoc, Nat.mul_comm 10, ← Nat.pow_succ]; exact hb
        exact dg_eq ht m (n * 10 + d) (p + 1) hb2
      · rw [if_neg c, if_neg c]
theorem dg_is (ht : ∀ i, i < len → t i = t' i) : ∀ m n go p, (n + 1) * 10 ^ m ≤ 10000 → ∃ v, v < 10000 ∧ (dgF t len m (nI n) go p).1 = nI v
  | 0, n, _, _, hb => ⟨n, by omega, rfl⟩
  | m + 1, n, go, p, hb => by
      have h1 : 1 ≤ 10 ^ (m + 1) := Nat.one_le_pow _ _ (by decide)
      have hn9 : (n + 1) * 1 ≤ (n + 1) * 10 ^ (m + 1) := Nat.mul_le_mul_left _ h1
      rw [dgF]
      by_cases c : (go && isD t len p) = true
      · rw [if_pos c]
        obtain ⟨d, d1, d2, d3⟩ := isD_n ht (Bool.and_eq_true_iff.mp c).2
        have f1 : nI n * 10 + (nsI t len p - 48) = nI (n * 10 + d) := by
          rw [d3, show (48 : Int32) = nI 48 from rfl, show (10 : Int32) = nI 10 from rfl, pk_sub (by omega), pk_mul, nI_add]
          congr 1; omega
        rw [f1]
        have hb2 : (n * 10 + d + 1) * 10 ^ m ≤ 10000 := by
          refine Nat.le_trans (Nat.mul_le_mul_right _ (show n * 10 + d + 1 ≤ (n + 1) * 10 by omega)) ?_
          rw [Nat.mul_assoc, Nat.mul_comm 10, ← Nat.pow_succ]; exact hb
        exact dg_is ht m (n * 10 + d) _ (p + 1) hb2
      · rw [if_neg c]; exact ⟨n, by omega, rfl⟩
/-- a number, read by both -/
theorem rn_eq (ht : ∀ i, i < len → t i = t' i) (p : Nat) (s : Bool) : rn t len p s = mn t' len p (!s) ∧ rnS t len p s = !(mnS t' len p (!s)) ∧ ∃ v, v < 10000 ∧ (rn t len p s).1 = nI v := by
  refine ⟨?_, ?_, dg_is ht 4 0 _ p (by decide)⟩
  · unfold rn mn
    rw [mdD_eq ht, rnS, dgF]
    by_cases c : (s && isD t len p) = true
    · have c2 := (Bool.and_eq_true_iff.mp c).2
      obtain ⟨d, d1, d2, d3⟩ := isD_n ht c2
      rw [if_pos c, if_pos (by rw [c, c2]; rfl)]
      have f1 : (0 : Int32) * 10 + (nsI t len p - 48) = nI d := by
        rw [d3, show (48 : Int32) = nI 48 from rfl, pk_sub (by omega), show (0 : Int32) * 10 = nI 0 from by decide, nI_add]
        congr 1; omega
      have f2 : t' p - 48 = nI d := by
        rw [d2, show (48 : Int32) = nI 48 from rfl, pk_sub (by omega)]
        congr 1; omega
      rw [f1, f2]
      exact dg_eq ht 3 d (p + 1) (by omega)
    · rw [if_neg c, if_neg (fun q => c (Bool.and_eq_true_iff.mp q).1)]
  · unfold rnS mnS
    rw [mdD_eq ht, Bool.not_not]
theorem rs_eq2 (ht : ∀ i, i < len → t i = t' i) (p : Nat) (s : Bool) {c : Int32} (hc : ¬ c = -1) : rsS t len p s c = mgB t' len p (!s) c ∧ rsP t len p s c = mgP t' len p (!s) c := by
  have : rsS t len p s c = mgB t' len p (!s) c := by
    unfold rsS mgB nsI
    rw [Bool.not_not]
    by_cases h : p < len
    · rw [if_pos h, decide_eq_true h, ht p h, Bool.true_and]
    · rw [if_neg h, decide_eq_false h, decide_eq_false (fun q => hc q.symm), Bool.false_and]
  refine ⟨this, ?_⟩
  unfold rsP mgP
  rw [this]
/-- a part, read by both -/
theorem rp_eq (ht : ∀ i, i < len → t i = t' i) (p : Nat) (s : Bool) : rpP t len p s = mpP t' len p (!s) ∧ rpS t len p s = !(mpS t' len p (!s)) ∧ (rn t len p s).1 = (mn t' len p (!s)).1 ∧
    (rn t len (rpP1 t len p s) (rpS1 t len p s)).1 = (mn t' len (mpA t' len p (!s)) (mp1 t' len p (!s))).1 ∧ (∃ v, v < 10000 ∧ (rn t len p s).1 = nI v) ∧ ∃ v, v < 10000 ∧ (rn t len (rpP1 t len p s) (rpS1 t len p s)).1 = nI v := by
  obtain ⟨a1, a2, a3⟩ := rn_eq ht p s
  obtain ⟨b1, b2⟩ := rs_eq2 ht (rn t len p s).2 (rnS t len p s) (c := 58) (by decide)
  have e1 : rpS1 t len p s = !(mp1 t' len p (!s)) := by
    unfold rpS1 mp1
    rw [b1, a1, a2, Bool.not_not]
    cases e : mnS t' len p (!s) with
    | false => rw [Bool.false_or, Bool.not_not]
    | true => unfold mgB; rfl
  have e2 : rpP1 t len p s = mpA t' len p (!s) := by
    unfold rpP1 mpA
    rw [b2, a1, a2, Bool.not_not]
    cases e : mnS t' len p (!s) with
    | false => rw [if_neg (by decide)]
    | true =>
      rw [if_pos rfl]
      unfold mgP mgB
      rw [if_neg (by simp)]
  obtain ⟨c1, c2, c3⟩ := rn_eq ht (rpP1 t len p s) (rpS1 t len p s)
  have e3 : (!rpS1 t len p s) = mp1 t' len p (!s) := by rw [e1, Bool.not_not]
  refine ⟨?_, ?_, by rw [a1], ?_, a3, c3⟩
  · unfold rpP mpP
    rw [c1, e3, e2]
  · unfold rpS mpS
    rw [c2, e3, e2]
  · rw [c1, e3, e2]
end RD
