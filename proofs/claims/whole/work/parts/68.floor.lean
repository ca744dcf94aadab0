/-! BLEND: the shares rounded down -/
theorem dv_n {a T : Nat} (ha : a < 2147483648) (h0 : 0 < T) (hT : T < 2147483648) : nI a / nI T = nI (a / T) ∧ nI a - nI (a / T) * nI T = nI (a % T) := by
  have e : nI a / nI T = nI (a / T) := pk_div ha h0 hT
  have hle := Nat.div_mul_le_self a T
  refine ⟨e, ?_⟩
  rw [pk_mul, pk_sub hle]
  congr 1
  have := Nat.mod_add_div a T
  rw [Nat.mul_comm] at this
  omega
theorem smI_c {h h' : HP} {pk : Nat → Nat} {P lot i : Nat} (e8 : h' 8 = h 8) (e10 : ∀ k, k < P → h' 10 (pk k * 12 + i) = h 10 (pk k * 12 + i)) : smI h' pk P lot i = smI h pk P lot i := sumC_c (fun k hk => by rw [e8, e10 k hk])
theorem hM_is {h : HP} {pk : Nat → Nat} {P lot T : Nat} {num : Nat → Nat} (h0 : 0 < T) (hT : T < 2147483648) (hn : ∀ i, i < 12 → smI h pk P lot i = nI (num i) ∧ num i < 2147483648) (hp : ∀ k, k < P → pk k ≠ lot) : ∀ n, n ≤ 12 →
    (∀ j, (∀ i, i < n → j ≠ lot * 12 + i) → hM h pk P lot (nI T) n 10 j = h 10 j) ∧ (∀ i, i < n → hM h pk P lot (nI T) n 10 (lot * 12 + i) = nI (num i / T)) ∧ (∀ i, i < n → hM h pk P lot (nI T) n 250 (0 * 12 + i) = nI (num i % T)) ∧
    msM h pk P lot (nI T) n = 1000 - nI (sumN (fun i => num i / T) n) := by
  intro n
  induction n with
  | zero => exact fun _ => ⟨fun _ _ => rfl, fun _ h => absurd h (Nat.not_lt_zero _), fun _ h => absurd h (Nat.not_lt_zero _), by rw [msM, sumN]; decide⟩
  | succ n ih =>
    intro hn12
    obtain ⟨a1, a2, a3, a4⟩ := ih (by omega)
    have hs : smI (hM h pk P lot (nI T) n) pk P lot n = nI (num n) := by
      rw [smI_c (h := h) (funext fun j => hM_o h pk P lot (nI T) n 8 j (by decide) (by decide)) (fun k hk => a1 _ (fun i hi => by
        have := hp k hk
        omega))]
      exact (hn n (by omega)).1
    obtain ⟨d1, d2⟩ := dv_n (hn n (by omega)).2 h0 hT
    have e : hM h pk P lot (nI T) (n + 1) = hput (hput (hM h pk P lot (nI T) n) 10 (lot * 12 + n) (nI (num n / T))) 250 (0 * 12 + n) (nI (num n % T)) := by
      rw [hM, hs, d1, d2]
    rw [e]
    refine ⟨fun j hj => ?_, fun i hi => ?_, fun i hi => ?_, ?_⟩
    · rw [hput_ne _ _ _ (by decide), hput_k _ _ _ (hj n (by omega))]
      exact a1 j (fun i hi => hj i (by omega))
    · rw [hput_ne _ _ _ (by decide)]
      by_cases r : i = n
      · rw [r, hput_at]
      · rw [hput_k _ _ _ (by omega)]; exact a2 i (by omega)
    · by_cases r : i = n
      · rw [r, hput_at]
      · rw [hput_k _ _ _ (by omega), hput_ne _ _ _ (by decide)]; exact a3 i (by omega)
    · rw [msM, a4, hs, d1, sumN, ← nI_add, Int32.sub_eq_add_neg, Int32.sub_eq_add_neg, Int32.sub_eq_add_neg, Int32.neg_add, Int32.add_assoc, Int32.sub_eq_add_neg]
theorem fsS_c {g g' : HP} {pk : Nat → Nat} {n lot k : Nat} (e9 : ∀ i, i < n → mL g' lot (9 + i) = mL g lot (9 + i)) (e13 : ∀ i, i < n → mL g' (pk i) (13 + k) = mL g (pk i) (13 + k)) : fsS g' pk lot n k = fsS g pk lot n k := sumC_c (fun i hi => by rw [e9 i hi, e13 i hi])
theorem fsH_is {h : HP} {pk : Nat → Nat} {P lot T : Nat} {num : Nat → Nat} (h0 : 0 < T) (hT : T < 2147483648) (hP : P ≤ 4) (hn : ∀ i, i < 12 → fsS h pk lot P i = nI (num i) ∧ num i < 2147483648) (hp : ∀ k, k < P → pk k ≠ lot) : ∀ n, n ≤ 12 →
    (∀ j, (∀ i, i < n → j ≠ 8 + 25 * lot + (13 + i)) → fsH h pk lot P (nI T) n 254 j = h 254 j) ∧ (∀ i, i < n → fsH h pk lot P (nI T) n 254 (8 + 25 * lot + (13 + i)) = nI (num i / T)) ∧ (∀ i, i < n → fsH h pk lot P (nI T) n 260 i = nI (num i % T)) ∧
    fsM h pk lot P (nI T) n = 1000 - nI (sumN (fun i => num i / T) n) ∧ (∀ q, q ≠ 254 → q ≠ 260 → fsH h pk lot P (nI T) n q = h q) := by
  intro n
  induction n with
  | zero => exact fun _ => ⟨fun _ _ => rfl, fun _ h => absurd h (Nat.not_lt_zero _), fun _ h => absurd h (Nat.not_lt_zero _), by rw [fsM, sumN]; decide, fun _ _ _ => rfl⟩
  | succ n ih =>
    intro hn12
    obtain ⟨a1, a2, a3, a4, a5⟩ := ih (by omega)
    have hs : fsS (fsH h pk lot P (nI T) n) pk lot P n = nI (num n) := by
      rw [fsS_c (g := h) (fun i hi => a1 _ (fun i' hi' => by omega)) (fun i hi => a1 _ (fun i' hi' => by
        have := hp i hi
        omega))]
      exact (hn n (by omega)).1
    obtain ⟨d1, d2⟩ := dv_n (hn n (by omega)).2 h0 hT
    have e : fsH h pk lot P (nI T) (n + 1) = hput (sL (fsH h pk lot P (nI T) n) lot (13 + n) (nI (num n / T))) 260 n (nI (num n % T)) := by
      rw [fsH, hs, d1, d2]
    rw [e]
    unfold sL
    refine ⟨fun j hj => ?_, fun i hi => ?_, fun i hi => ?_, ?_, fun q h1 h2 => ?_⟩
    · rw [hput_ne _ _ _ (by decide), hput_k _ _ _ (hj n (by omega))]
      exact a1 j (fun i hi => hj i (by omega))
    · rw [hput_ne _ _ _ (by decide)]
      by_cases r : i = n
      · rw [r, hput_at]
      · rw [hput_k _ _ _ (by omega)]; exact a2 i (by omega)
    · by_cases r : i = n
      · rw [r, hput_at]
      · rw [hput_k _ _ _ (by omega), hput_ne _ _ _ (by decide)]; exact a3 i (by omega)
    · rw [fsM, a4, hs, d1, sumN, ← nI_add, Int32.sub_eq_add_neg, Int32.sub_eq_add_neg, Int32.sub_eq_add_neg, Int32.neg_add, Int32.add_assoc, Int32.sub_eq_add_neg]
    · rw [hput_ne _ _ _ h2, hput_ne _ _ _ h1]; exact a5 q h1 h2
/-! sums of shares -/
theorem sumN_add (f g : Nat → Nat) : ∀ n, sumN (fun k => f k + g k) n = sumN f n + sumN g n
  | 0 => rfl
  | n + 1 => by rw [sumN, sumN, sumN, sumN_add f g n]; omega
theorem sumN_0 : ∀ n, sumN (fun _ => 0) n = 0
  | 0 => rfl
  | n + 1 => by rw [sumN, sumN_0 n]
theorem sumN_mul (a : Nat) (f : Nat → Nat) : ∀ n, sumN (fun k => a * f k) n = a * sumN f n
  | 0 => rfl
  | n + 1 => by rw [sumN, sumN, sumN_mul a f n, Nat.mul_add]
theorem sumN_sw (F : Nat → Nat → Nat) (m : Nat) : ∀ n, sumN (fun k => sumN (fun i => F i k) m) n = sumN (fun i => sumN (fun k => F i k) n) m
  | 0 => by
      show 0 = _
      exact ((sumN_c (g := fun _ => 0) (fun _ _ => rfl)).trans (sumN_0 m)).symm
  | n + 1 => by
      rw [sumN, sumN_sw F m n, ← sumN_add]
      exact sumN_c (fun _ _ => rfl)
theorem sumN_ext {f : Nat → Nat} {n m : Nat} (hnm : n ≤ m) (h : ∀ k, n ≤ k → k < m → f k = 0) : sumN f m = sumN f n := by
  have : ∀ d, n + d ≤ m → sumN f (n + d) = sumN f n := fun d => by
    induction d with
    | zero => exact fun _ => rfl
    | succ d ih => exact fun hd => by rw [← Nat.add_assoc, sumN, ih (by omega), h (n + d) (by omega) (by omega), Nat.add_zero]
  have h2 := this (m - n) (by omega)
  rw [show n + (m - n) = m by omega] at h2
  exact h2
/-- what is missing is not more than the rests that are there -/
theorem rest_le {num : Nat → Nat} {T M : Nat} (h0 : 0 < T) : ∀ n, sumN num n = T * sumN (fun i => num i / T) n + sumN (fun i => num i % T) n ∧ sumN (fun i => num i % T) n ≤ T * cntB (fun o => decide (0 < num o % T)) n
  | 0 => ⟨rfl, Nat.zero_le _⟩
  | n + 1 => by
      obtain ⟨h1, h2⟩ := rest_le (num := num) (M := M) h0 n
      have h3 := Nat.div_add_mod (num n) T
      have h4 := Nat.mod_lt (num n) h0
      refine ⟨?_, ?_⟩
      · rw [sumN, sumN, sumN, Nat.mul_add]; omega
      · rw [sumN, cntB, Nat.mul_add]
        by_cases r : 0 < num n % T
        · rw [decide_eq_true r, if_pos rfl, Nat.mul_one]; omega
        · rw [decide_eq_false r, if_neg (by decide)]; omega
theorem miss_le {num : Nat → Nat} {T n : Nat} (h0 : 0 < T) (hs : sumN num n = 1000 * T) : sumN (fun i => num i / T) n ≤ 1000 ∧ 1000 - sumN (fun i => num i / T) n ≤ cntB (fun o => decide (0 < num o % T)) n := by
  obtain ⟨h1, h2⟩ := rest_le (num := num) (M := 0) h0 n
  rw [hs, Nat.mul_comm 1000 T] at h1
  have h3 : sumN (fun i => num i / T) n ≤ 1000 := Nat.le_of_mul_le_mul_left (by omega) h0
  refine ⟨h3, Nat.le_of_mul_le_mul_left (c := T) ?_ h0⟩
  rw [Nat.mul_sub]
  omega
