/-! THE INVARIANT, its parts -/
def nv (x : Int32) : Nat := x.toNatClampNeg
def bd (x : Int32) (B : Nat) : Prop := x = nI (nv x) ∧ nv x ≤ B
theorem nv_nI {n : Nat} (h : n < 2147483648) : nv (nI n) = n := nI_cl h
theorem bd_of {x : Int32} {n B : Nat} (e : x = nI n) (h : n ≤ B) (hB : B < 2147483648) : bd x B := by
  subst e
  exact ⟨by rw [nv_nI (by omega)], by rw [nv_nI (by omega)]; exact h⟩
theorem bd_nI {n B : Nat} (h : n ≤ B) (hB : B < 2147483648) : bd (nI n) B := bd_of rfl h hB
theorem bd_le {x : Int32} {B C : Nat} (h : bd x B) (hBC : B ≤ C) : bd x C := ⟨h.1, Nat.le_trans h.2 hBC⟩
theorem bd_0 (B : Nat) : bd 0 B := ⟨rfl, Nat.zero_le B⟩
theorem nv_0 : nv 0 = 0 := rfl
theorem nv_m1 : nv (-1) = 0 := rfl
/-- a state's cells are the row's -/
def Rep (h : HP) (p : Nat) (s : Nat → Int32) : Prop :=
  (h (p + 1) 5 = s 0 ∧ h (p + 1) 6 = s 1 ∧ h (p + 12) 1 = s 2 ∧ h (p + 15) 3 = s 3 ∧ h (p + 1) 7 = s 4) ∧
  (∀ k j, k < 24 → j < 5 → h (p + 3) (k * 5 + j) = s (8 + 25 * k + j)) ∧
  (∀ k j, k < 24 → j < 4 → h (p + 5) (k * 4 + j) = s (8 + 25 * k + (5 + j))) ∧
  (∀ k j, k < 24 → j < 4 → h (p + 7) (k * 4 + j) = s (8 + 25 * k + (9 + j))) ∧
  (∀ k j, k < 24 → j < 12 → h (p + 9) (k * 12 + j) = s (8 + 25 * k + (13 + j))) ∧
  (∀ k j, k < 12 → j < 3 → h (p + 11) (k * 3 + j) = s (608 + 4 * k + j)) ∧
  (∀ b j, b < 16 → j < 7 → h (p + 14) (b * 7 + j) = s (656 + 7 * b + j)) ∧
  (∀ c, c < 8 → h (p + 17) (c * 1 + 0) = s (768 + c)) ∧
  (∀ c b, c < 8 → b < 16 → h (p + 19) (c * 16 + b) = s (776 + 16 * c + b)) ∧
  (∀ c b, c < 8 → b < 16 → h (p + 21) (c * 16 + b) = s (904 + 16 * c + b)) ∧
  (∀ j, j < 3 → h (p + 23) (0 * 3 + j) = s (5 + j))
theorem Rep.congr {h h' : HP} {p : Nat} {s s' : Nat → Int32} (r : Rep h p s) (eh : ∀ o, 1 ≤ o → o ≤ 23 → h' (p + o) = h (p + o)) (es : ∀ i, i < 1032 → s' i = s i) : Rep h' p s' := by
  obtain ⟨⟨a1, a2, a3, a4, a5⟩, b1, b2, b3, b4, b5, b6, b7, b8, b9, b10⟩ := r
  refine ⟨⟨?_, ?_, ?_, ?_, ?_⟩, fun k j hk hj => ?_, fun k j hk hj => ?_, fun k j hk hj => ?_, fun k j hk hj => ?_, fun k j hk hj => ?_, fun k j hk hj => ?_, fun c hc => ?_, fun c b hc hb => ?_, fun c b hc hb => ?_, fun j hj => ?_⟩
  · rw [eh 1 (by omega) (by omega), es _ (by omega)]; exact a1
  · rw [eh 1 (by omega) (by omega), es _ (by omega)]; exact a2
  · rw [eh 12 (by omega) (by omega), es _ (by omega)]; exact a3
  · rw [eh 15 (by omega) (by omega), es _ (by omega)]; exact a4
  · rw [eh 1 (by omega) (by omega), es _ (by omega)]; exact a5
  · rw [eh 3 (by omega) (by omega), es _ (by omega)]; exact b1 k j hk hj
  · rw [eh 5 (by omega) (by omega), es _ (by omega)]; exact b2 k j hk hj
  · rw [eh 7 (by omega) (by omega), es _ (by omega)]; exact b3 k j hk hj
  · rw [eh 9 (by omega) (by omega), es _ (by omega)]; exact b4 k j hk hj
  · rw [eh 11 (by omega) (by omega), es _ (by omega)]; exact b5 k j hk hj
  · rw [eh 14 (by omega) (by omega), es _ (by omega)]; exact b6 k j hk hj
  · rw [eh 17 (by omega) (by omega), es _ (by omega)]; exact b7 c hc
  · rw [eh 19 (by omega) (by omega), es _ (by omega)]; exact b8 c b hc hb
  · rw [eh 21 (by omega) (by omega), es _ (by omega)]; exact b9 c b hc hb
  · rw [eh 23 (by omega) (by omega), es _ (by omega)]; exact b10 j hj
theorem hcpy_at (h : HP) (a b n : Nat) {k : Nat} (hk : k < n) : hcpy h a b 0 0 n b k = h a k := by
  simp only [hcpy, if_true, va_cpy]
  rw [if_pos ⟨Nat.zero_le _, by omega⟩, Nat.sub_zero, Nat.zero_add]
theorem cp1_at (h : HP) (p q k : Nat) : cp1 h p q k p k = h q k := by simp [cp1, hput]
theorem cp1_k (h : HP) (p q k : Nat) {j : Nat} (hj : j ≠ k) : cp1 h p q k p j = h p j := by simp [cp1, hput, hj]
/-- a state copied is the same state -/
theorem cpS_at (h : HP) (p q : Nat) (hpq : p + 23 < q ∨ q + 23 < p) :
    (cpS h p q (p + 1) 5 = h (q + 1) 5 ∧ cpS h p q (p + 1) 6 = h (q + 1) 6 ∧ cpS h p q (p + 12) 1 = h (q + 12) 1 ∧ cpS h p q (p + 15) 3 = h (q + 15) 3 ∧ cpS h p q (p + 1) 7 = h (q + 1) 7) ∧
    (∀ k, k < 120 → cpS h p q (p + 3) k = h (q + 3) k) ∧ (∀ k, k < 96 → cpS h p q (p + 5) k = h (q + 5) k) ∧ (∀ k, k < 96 → cpS h p q (p + 7) k = h (q + 7) k) ∧ (∀ k, k < 288 → cpS h p q (p + 9) k = h (q + 9) k) ∧
    (∀ k, k < 36 → cpS h p q (p + 11) k = h (q + 11) k) ∧ (∀ k, k < 112 → cpS h p q (p + 14) k = h (q + 14) k) ∧ (∀ k, k < 8 → cpS h p q (p + 17) k = h (q + 17) k) ∧ (∀ k, k < 128 → cpS h p q (p + 19) k = h (q + 19) k) ∧ (∀ k, k < 128 → cpS h p q (p + 21) k = h (q + 21) k) ∧ (∀ k, k < 3 → cpS h p q (p + 23) k = h (q + 23) k) := by
  unfold cpS cpC cpB cpL
  refine ⟨⟨?_, ?_, ?_, ?_, ?_⟩, fun k hk => ?_, fun k hk => ?_, fun k hk => ?_, fun k hk => ?_, fun k hk => ?_, fun k hk => ?_, fun k hk => ?_, fun k hk => ?_, fun k hk => ?_, fun k hk => ?_⟩
  · rw [hcpy_o _ _ _ _ _ _ (by omega), cp1_o _ _ _ _ (by omega), hcpy_o _ _ _ _ _ _ (by omega), hcpy_o _ _ _ _ _ _ (by omega), hcpy_o _ _ _ _ _ _ (by omega), cp1_o _ _ _ _ (by omega), hcpy_o _ _ _ _ _ _ (by omega), cp1_k _ _ _ _ (by decide), cp1_k _ _ _ _ (by decide), cp1_at, hcpy_o _ _ _ _ _ _ (by omega), hcpy_o _ _ _ _ _ _ (by omega), hcpy_o _ _ _ _ _ _ (by omega), hcpy_o _ _ _ _ _ _ (by omega), hcpy_o _ _ _ _ _ _ (by omega)]
  · rw [hcpy_o _ _ _ _ _ _ (by omega), cp1_o _ _ _ _ (by omega), hcpy_o _ _ _ _ _ _ (by omega), hcpy_o _ _ _ _ _ _ (by omega), hcpy_o _ _ _ _ _ _ (by omega), cp1_o _ _ _ _ (by omega), hcpy_o _ _ _ _ _ _ (by omega), cp1_k _ _ _ _ (by decide), cp1_at, cp1_o _ _ _ _ (by omega), hcpy_o _ _ _ _ _ _ (by omega), hcpy_o _ _ _ _ _ _ (by omega), hcpy_o _ _ _ _ _ _ (by omega), hcpy_o _ _ _ _ _ _ (by omega), hcpy_o _ _ _ _ _ _ (by omega)]
  · rw [hcpy_o _ _ _ _ _ _ (by omega), cp1_o _ _ _ _ (by omega), hcpy_o _ _ _ _ _ _ (by omega), hcpy_o _ _ _ _ _ _ (by omega), hcpy_o _ _ _ _ _ _ (by omega), cp1_at, hcpy_o _ _ _ _ _ _ (by omega), cp1_o _ _ _ _ (by omega), cp1_o _ _ _ _ (by omega), cp1_o _ _ _ _ (by omega), hcpy_o _ _ _ _ _ _ (by omega), hcpy_o _ _ _ _ _ _ (by omega), hcpy_o _ _ _ _ _ _ (by omega), hcpy_o _ _ _ _ _ _ (by omega), hcpy_o _ _ _ _ _ _ (by omega)]
  · rw [hcpy_o _ _ _ _ _ _ (by omega), cp1_at, hcpy_o _ _ _ _ _ _ (by omega), hcpy_o _ _ _ _ _ _ (by omega), hcpy_o _ _ _ _ _ _ (by omega), cp1_o _ _ _ _ (by omega), hcpy_o _ _ _ _ _ _ (by omega), cp1_o _ _ _ _ (by omega), cp1_o _ _ _ _ (by omega), cp1_o _ _ _ _ (by omega), hcpy_o _ _ _ _ _ _ (by omega), hcpy_o _ _ _ _ _ _ (by omega), hcpy_o _ _ _ _ _ _ (by omega), hcpy_o _ _ _ _ _ _ (by omega), hcpy_o _ _ _ _ _ _ (by omega)]
  · rw [hcpy_o _ _ _ _ _ _ (by omega), cp1_o _ _ _ _ (by omega), hcpy_o _ _ _ _ _ _ (by omega), hcpy_o _ _ _ _ _ _ (by omega), hcpy_o _ _ _ _ _ _ (by omega), cp1_o _ _ _ _ (by omega), hcpy_o _ _ _ _ _ _ (by omega), cp1_at, cp1_o _ _ _ _ (by omega), cp1_o _ _ _ _ (by omega), hcpy_o _ _ _ _ _ _ (by omega), hcpy_o _ _ _ _ _ _ (by omega), hcpy_o _ _ _ _ _ _ (by omega), hcpy_o _ _ _ _ _ _ (by omega), hcpy_o _ _ _ _ _ _ (by omega)]
  · rw [hcpy_o _ _ _ _ _ _ (by omega), cp1_o _ _ _ _ (by omega), hcpy_o _ _ _ _ _ _ (by omega), hcpy_o _ _ _ _ _ _ (by omega), hcpy_o _ _ _ _ _ _ (by omega), cp1_o _ _ _ _ (by omega), hcpy_o _ _ _ _ _ _ (by omega), cp1_o _ _ _ _ (by omega), cp1_o _ _ _ _ (by omega), cp1_o _ _ _ _ (by omega), hcpy_o _ _ _ _ _ _ (by omega), hcpy_o _ _ _ _ _ _ (by omega), hcpy_o _ _ _ _ _ _ (by omega), hcpy_o _ _ _ _ _ _ (by omega), hcpy_at _ _ _ _ hk]
  · rw [hcpy_o _ _ _ _ _ _ (by omega), cp1_o _ _ _ _ (by omega), hcpy_o _ _ _ _ _ _ (by omega), hcpy_o _ _ _ _ _ _ (by omega), hcpy_o _ _ _ _ _ _ (by omega), cp1_o _ _ _ _ (by omega), hcpy_o _ _ _ _ _ _ (by omega), cp1_o _ _ _ _ (by omega), cp1_o _ _ _ _ (by omega), cp1_o _ _ _ _ (by omega), hcpy_o _ _ _ _ _ _ (by omega), hcpy_o _ _ _ _ _ _ (by omega), hcpy_o _ _ _ _ _ _ (by omega), hcpy_at _ _ _ _ hk, hcpy_o _ _ _ _ _ _ (by omega)]
  · rw [hcpy_o _ _ _ _ _ _ (by omega), cp1_o _ _ _ _ (by omega), hcpy_o _ _ _ _ _ _ (by omega), hcpy_o _ _ _ _ _ _ (by omega), hcpy_o _ _ _ _ _ _ (by omega), cp1_o _ _ _ _ (by omega), hcpy_o _ _ _ _ _ _ (by omega), cp1_o _ _ _ _ (by omega), cp1_o _ _ _ _ (by omega), cp1_o _ _ _ _ (by omega), hcpy_o _ _ _ _ _ _ (by omega), hcpy_o _ _ _ _ _ _ (by omega), hcpy_at _ _ _ _ hk, hcpy_o _ _ _ _ _ _ (by omega), hcpy_o _ _ _ _ _ _ (by omega)]
  · rw [hcpy_o _ _ _ _ _ _ (by omega), cp1_o _ _ _ _ (by omega), hcpy_o _ _ _ _ _ _ (by omega), hcpy_o _ _ _ _ _ _ (by omega), hcpy_o _ _ _ _ _ _ (by omega), cp1_o _ _ _ _ (by omega), hcpy_o _ _ _ _ _ _ (by omega), cp1_o _ _ _ _ (by omega), cp1_o _ _ _ _ (by omega), cp1_o _ _ _ _ (by omega), hcpy_o _ _ _ _ _ _ (by omega), hcpy_at _ _ _ _ hk, hcpy_o _ _ _ _ _ _ (by omega), hcpy_o _ _ _ _ _ _ (by omega), hcpy_o _ _ _ _ _ _ (by omega)]
  · rw [hcpy_o _ _ _ _ _ _ (by omega), cp1_o _ _ _ _ (by omega), hcpy_o _ _ _ _ _ _ (by omega), hcpy_o _ _ _ _ _ _ (by omega), hcpy_o _ _ _ _ _ _ (by omega), cp1_o _ _ _ _ (by omega), hcpy_o _ _ _ _ _ _ (by omega), cp1_o _ _ _ _ (by omega), cp1_o _ _ _ _ (by omega), cp1_o _ _ _ _ (by omega), hcpy_at _ _ _ _ hk, hcpy_o _ _ _ _ _ _ (by omega), hcpy_o _ _ _ _ _ _ (by omega), hcpy_o _ _ _ _ _ _ (by omega), hcpy_o _ _ _ _ _ _ (by omega)]
  · rw [hcpy_o _ _ _ _ _ _ (by omega), cp1_o _ _ _ _ (by omega), hcpy_o _ _ _ _ _ _ (by omega), hcpy_o _ _ _ _ _ _ (by omega), hcpy_o _ _ _ _ _ _ (by omega), cp1_o _ _ _ _ (by omega), hcpy_at _ _ _ _ hk, cp1_o _ _ _ _ (by omega), cp1_o _ _ _ _ (by omega), cp1_o _ _ _ _ (by omega), hcpy_o _ _ _ _ _ _ (by omega), hcpy_o _ _ _ _ _ _ (by omega), hcpy_o _ _ _ _ _ _ (by omega), hcpy_o _ _ _ _ _ _ (by omega), hcpy_o _ _ _ _ _ _ (by omega)]
  · rw [hcpy_o _ _ _ _ _ _ (by omega), cp1_o _ _ _ _ (by omega), hcpy_o _ _ _ _ _ _ (by omega), hcpy_o _ _ _ _ _ _ (by omega), hcpy_at _ _ _ _ hk, cp1_o _ _ _ _ (by omega), hcpy_o _ _ _ _ _ _ (by omega), cp1_o _ _ _ _ (by omega), cp1_o _ _ _ _ (by omega), cp1_o _ _ _ _ (by omega), hcpy_o _ _ _ _ _ _ (by omega), hcpy_o _ _ _ _ _ _ (by omega), hcpy_o _ _ _ _ _ _ (by omega), hcpy_o _ _ _ _ _ _ (by omega), hcpy_o _ _ _ _ _ _ (by omega)]
  · rw [hcpy_o _ _ _ _ _ _ (by omega), cp1_o _ _ _ _ (by omega), hcpy_o _ _ _ _ _ _ (by omega), hcpy_at _ _ _ _ hk, hcpy_o _ _ _ _ _ _ (by omega), cp1_o _ _ _ _ (by omega), hcpy_o _ _ _ _ _ _ (by omega), cp1_o _ _ _ _ (by omega), cp1_o _ _ _ _ (by omega), cp1_o _ _ _ _ (by omega), hcpy_o _ _ _ _ _ _ (by omega), hcpy_o _ _ _ _ _ _ (by omega), hcpy_o _ _ _ _ _ _ (by omega), hcpy_o _ _ _ _ _ _ (by omega), hcpy_o _ _ _ _ _ _ (by omega)]
  · rw [hcpy_o _ _ _ _ _ _ (by omega), cp1_o _ _ _ _ (by omega), hcpy_at _ _ _ _ hk, hcpy_o _ _ _ _ _ _ (by omega), hcpy_o _ _ _ _ _ _ (by omega), cp1_o _ _ _ _ (by omega), hcpy_o _ _ _ _ _ _ (by omega), cp1_o _ _ _ _ (by omega), cp1_o _ _ _ _ (by omega), cp1_o _ _ _ _ (by omega), hcpy_o _ _ _ _ _ _ (by omega), hcpy_o _ _ _ _ _ _ (by omega), hcpy_o _ _ _ _ _ _ (by omega), hcpy_o _ _ _ _ _ _ (by omega), hcpy_o _ _ _ _ _ _ (by omega)]
  · rw [hcpy_at _ _ _ _ hk, cp1_o _ _ _ _ (by omega), hcpy_o _ _ _ _ _ _ (by omega), hcpy_o _ _ _ _ _ _ (by omega), hcpy_o _ _ _ _ _ _ (by omega), cp1_o _ _ _ _ (by omega), hcpy_o _ _ _ _ _ _ (by omega), cp1_o _ _ _ _ (by omega), cp1_o _ _ _ _ (by omega), cp1_o _ _ _ _ (by omega), hcpy_o _ _ _ _ _ _ (by omega), hcpy_o _ _ _ _ _ _ (by omega), hcpy_o _ _ _ _ _ _ (by omega), hcpy_o _ _ _ _ _ _ (by omega), hcpy_o _ _ _ _ _ _ (by omega)]
theorem Rep.cp {h : HP} {p q : Nat} {s : Nat → Int32} (r : Rep h q s) (hpq : p + 23 < q ∨ q + 23 < p) : Rep (cpS h p q) p s := by
  obtain ⟨⟨c1, c2, c3, c4, c5⟩, d1, d2, d3, d4, d5, d6, d7, d8, d9, d10⟩ := cpS_at h p q hpq
  obtain ⟨⟨a1, a2, a3, a4, a5⟩, b1, b2, b3, b4, b5, b6, b7, b8, b9, b10⟩ := r
  exact ⟨⟨c1.trans a1, c2.trans a2, c3.trans a3, c4.trans a4, c5.trans a5⟩, fun k j hk hj => (d1 _ (by omega)).trans (b1 k j hk hj), fun k j hk hj => (d2 _ (by omega)).trans (b2 k j hk hj), fun k j hk hj => (d3 _ (by omega)).trans (b3 k j hk hj),
    fun k j hk hj => (d4 _ (by omega)).trans (b4 k j hk hj), fun k j hk hj => (d5 _ (by omega)).trans (b5 k j hk hj), fun k j hk hj => (d6 _ (by omega)).trans (b6 k j hk hj), fun c hc => (d7 _ (by omega)).trans (b7 c hc),
    fun c b hc hb => (d8 _ (by omega)).trans (b8 c b hc hb), fun c b hc hb => (d9 _ (by omega)).trans (b9 c b hc hb), fun j hj => (d10 _ (by omega)).trans (b10 j hj)⟩
/-- a row copied: between two rows, and downwards within one -/
theorem rcH_ne (h : HP) (d od s os : Nat) (hd : d ≠ s) : ∀ (n j : Nat), rcH h d od s os n d j = if od ≤ j ∧ j < od + n then h s (os + (j - od)) else h d j
  | 0, j => by rw [rcH, if_neg (by omega)]
  | n + 1, j => by
      show hput _ _ _ _ d j = _
      unfold hput
      rw [if_pos rfl]
      by_cases hj : j = od + n
      · rw [if_pos hj, rcH_o _ _ _ _ _ (Ne.symm hd), if_pos (by omega), hj, Nat.add_sub_cancel_left]
      · rw [if_neg hj, rcH_ne h d od s os hd n j]
        by_cases hq : od ≤ j ∧ j < od + n
        · rw [if_pos hq, if_pos (by omega)]
        · rw [if_neg hq, if_neg (by omega)]
theorem rcH_dn (h : HP) (d od os : Nat) (hlt : od < os) : ∀ (n j : Nat), rcH h d od d os n d j = if od ≤ j ∧ j < od + n then h d (os + (j - od)) else h d j
  | 0, j => by rw [rcH, if_neg (by omega)]
  | n + 1, j => by
      show hput _ _ _ _ d j = _
      unfold hput
      rw [if_pos rfl]
      by_cases hj : j = od + n
      · rw [if_pos hj, rcH_dn h d od os hlt n (os + n), if_neg (by omega), if_pos (by omega), hj, Nat.add_sub_cancel_left]
      · rw [if_neg hj, rcH_dn h d od os hlt n j]
        by_cases hq : od ≤ j ∧ j < od + n
        · rw [if_pos hq, if_pos (by omega)]
        · rw [if_neg hq, if_neg (by omega)]
/-- which lots are harvests -/
def hvB (s : Nat → Int32) (k : Nat) : Bool := !decide (s (8 + 25 * k + 4) = -1)
def nSh (s : Nat → Int32) (k n : Nat) : Nat := match n with
  | 0 => 0
  | j + 1 => nSh s k j + nv (s (8 + 25 * k + (13 + j)))
def nHd (s : Nat → Int32) (b n : Nat) : Nat := match n with
  | 0 => 0
  | c + 1 => nHd s b c + nv (s (776 + 16 * c + b))
/-- a lot's row -/
def LotOk (s : Nat → Int32) (k : Nat) : Prop :=
  (bd (s (8 + 25 * k + 0)) 39996 ∧ 1 ≤ nv (s (8 + 25 * k + 0))) ∧ bd (s (8 + 25 * k + 1)) 39996 ∧ bd (s (8 + 25 * k + 2)) 4 ∧ bd (s (8 + 25 * k + 3)) 4 ∧
  (s (8 + 25 * k + 4) = -1 ∨ (s (8 + 25 * k + 4) = nI (cntB (hvB s) k) ∧ s (608 + 4 * cntB (hvB s) k + 3) = s (8 + 25 * k + 0) ∧ s (8 + 25 * k + 3) = 0 ∧ s (8 + 25 * k + 2) = 0)) ∧
  (∀ j, j < 4 → bd (s (8 + 25 * k + (5 + j))) 23) ∧
  (∀ j, j < nv (s (8 + 25 * k + 2)) → nv (s (8 + 25 * k + (5 + j))) < k ∧ nv (s (8 + 25 * nv (s (8 + 25 * k + (5 + j))) + 3)) < nv (s (8 + 25 * k + 3))) ∧
  (∀ i j, i < nv (s (8 + 25 * k + 2)) → j < i → nv (s (8 + 25 * k + (5 + j))) ≠ nv (s (8 + 25 * k + (5 + i)))) ∧
  (∀ j, j < 12 → bd (s (8 + 25 * k + (13 + j))) 1000) ∧ nSh s k 12 = 1000 ∧ (∀ j, nv (s 1) ≤ j → j < 12 → s (8 + 25 * k + (13 + j)) = 0)
def BotOk (s : Nat → Int32) (b : Nat) : Prop :=
  (bd (s (656 + 7 * b + 0)) 23 ∧ nv (s (656 + 7 * b + 0)) < nv (s 0)) ∧ bd (s (656 + 7 * b + 1)) 3333 ∧ bd (s (656 + 7 * b + 2)) 3333 ∧ (¬ s (656 + 7 * b + 5) = -1 → ¬ s (656 + 7 * b + 4) = -1) ∧
  nHd s b 8 + nv (s (656 + 7 * b + 2)) = nv (s (656 + 7 * b + 1))
def Inv (s : Nat → Int32) : Prop :=
  (bd (s 0) 24 ∧ bd (s 1) 12 ∧ bd (s 2) 16 ∧ bd (s 3) 8) ∧ (∀ j, j < 3 → bd (s (5 + j)) 1000) ∧
  (∀ k, k < nv (s 0) → LotOk s k) ∧ (∀ k j, nv (s 0) ≤ k → k < 24 → j < 25 → s (8 + 25 * k + j) = 0) ∧ cntB (hvB s) (nv (s 0)) = nv (s 1) ∧
  (∀ b, b < nv (s 2) → BotOk s b) ∧ (∀ b j, nv (s 2) ≤ b → b < 16 → j < 7 → s (656 + 7 * b + j) = 0) ∧
  (∀ c, c < 8 → bd (s (768 + c)) 2) ∧ (∀ c b, c < 8 → b < 16 → bd (s (776 + 16 * c + b)) 3333 ∧ bd (s (904 + 16 * c + b)) 3333) ∧
  (∀ c b, c < 8 → b < 16 → (nv (s 3) ≤ c ∨ nv (s 2) ≤ b) → s (776 + 16 * c + b) = 0 ∧ s (904 + 16 * c + b) = 0) ∧ (∀ c, nv (s 3) ≤ c → c < 8 → s (768 + c) = 0)
theorem cntB_c {p q : Nat → Bool} : ∀ {n : Nat}, (∀ k, k < n → p k = q k) → cntB p n = cntB q n
  | 0, _ => rfl
  | n + 1, h => by rw [cntB, cntB, h n (by omega), cntB_c (fun k hk => h k (by omega))]
theorem sumC_c {f g : Nat → Int32} : ∀ {n : Nat}, (∀ k, k < n → f k = g k) → sumC f n = sumC g n
  | 0, _ => rfl
  | n + 1, h => by rw [sumC, sumC, h n (by omega), sumC_c (fun k hk => h k (by omega))]
theorem orI_c {f g : Nat → Int32} : ∀ {n : Nat}, (∀ k, k < n → f k = g k) → orI f n = orI g n
  | 0, _ => rfl
  | n + 1, h => by rw [orI, orI, h n (by omega), orI_c (fun k hk => h k (by omega))]
theorem anyB_c {p q : Nat → Bool} : ∀ {n : Nat}, (∀ k, k < n → p k = q k) → anyB p n = anyB q n
  | 0, _ => rfl
  | n + 1, h => by rw [anyB, anyB, h n (by omega), anyB_c (fun k hk => h k (by omega))]
theorem maxF_c {f g : Nat → Int32} : ∀ {n : Nat}, (∀ k, k < n → f k = g k) → maxF f n = maxF g n
  | 0, _ => rfl
  | n + 1, h => by rw [maxF, maxF, h n (by omega), maxF_c (fun k hk => h k (by omega))]
theorem nSh_c {s s' : Nat → Int32} {k : Nat} : ∀ {n : Nat}, (∀ j, j < n → s' (8 + 25 * k + (13 + j)) = s (8 + 25 * k + (13 + j))) → nSh s' k n = nSh s k n
  | 0, _ => rfl
  | n + 1, h => by rw [nSh, nSh, h n (by omega), nSh_c (fun j hj => h j (by omega))]
theorem nHd_c {s s' : Nat → Int32} {b : Nat} : ∀ {n : Nat}, (∀ c, c < n → s' (776 + 16 * c + b) = s (776 + 16 * c + b)) → nHd s' b n = nHd s b n
  | 0, _ => rfl
  | n + 1, h => by rw [nHd, nHd, h n (by omega), nHd_c (fun j hj => h j (by omega))]
theorem nI_m1 {n : Nat} (h : n < 2147483648) : ¬ nI n = -1 := fun q => absurd (q ▸ nI_pos (n := n) (by omega)) (by decide)
/-- lots whose cells are as they were, among lots and harvests as they were -/
theorem LotOk.congr {s s' : Nat → Int32} {k : Nat} (h : LotOk s k) (h0 : ∀ i j, i ≤ k → j < 25 → j ≠ 1 → s' (8 + 25 * i + j) = s (8 + 25 * i + j)) (h1 : bd (s' (8 + 25 * k + 1)) 39996) (hn : nv (s 1) ≤ nv (s' 1)) (hk24 : k < 24) (hq : hvB s k = true → s' (608 + 4 * cntB (hvB s) k + 3) = s (608 + 4 * cntB (hvB s) k + 3)) : LotOk s' k := by
  have hhv : ∀ i, i < k → hvB s' i = hvB s i := fun i hi => by unfold hvB; rw [h0 i 4 (by omega) (by omega) (by omega)]
  have hcn : cntB (hvB s') k = cntB (hvB s) k := cntB_c hhv
  have hcl := cntB_le (hvB s) k
  obtain ⟨⟨a1, a2⟩, a3, a4, a5, a6, a7, a8, a9, a10, a11, a12⟩ := h
  have e0 := h0 k 0 (by omega) (by omega) (by omega)
  have e2 := h0 k 2 (by omega) (by omega) (by omega)
  have e3 := h0 k 3 (by omega) (by omega) (by omega)
  have e4 := h0 k 4 (by omega) (by omega) (by omega)
  have e5 : ∀ j, j < 4 → s' (8 + 25 * k + (5 + j)) = s (8 + 25 * k + (5 + j)) := fun j hj => h0 k (5 + j) (by omega) (by omega) (by omega)
  have e13 : ∀ j, j < 12 → s' (8 + 25 * k + (13 + j)) = s (8 + 25 * k + (13 + j)) := fun j hj => h0 k (13 + j) (by omega) (by omega) (by omega)
  have hnp := a4.2
  refine ⟨⟨by rw [e0]; exact a1, by rw [e0]; exact a2⟩, h1, by rw [e2]; exact a4, by rw [e3]; exact a5, ?_, fun j hj => by rw [e5 j hj]; exact a7 j hj, fun j hj => ?_, fun i j hi hj => ?_, fun j hj => by rw [e13 j hj]; exact a10 j hj, by rw [nSh_c e13]; exact a11, fun j h1 h2 => by rw [e13 j h2]; exact a12 j (by omega) h2⟩
  · rw [e4, hcn, e0, e3, e2]
    rcases a6 with q | ⟨q1, q2, q3⟩
    · exact Or.inl q
    · exact Or.inr ⟨q1, by rw [hq (by unfold hvB; rw [q1, decide_eq_false (nI_m1 (by omega))]; rfl)]; exact q2, q3⟩
  · rw [e2] at hj
    rw [e5 j (by omega), e3]
    obtain ⟨b1, b2⟩ := a8 j hj
    exact ⟨b1, by rw [h0 _ 3 (by omega) (by omega) (by omega)]; exact b2⟩
  · rw [e2] at hi
    rw [e5 j (by omega), e5 i (by omega)]
    exact a9 i j hi hj
