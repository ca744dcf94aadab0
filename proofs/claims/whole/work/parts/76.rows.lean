/-! BLEND: the model's rows -/
theorem qmH_row {g : HP} {tn : Nat → Nat} {P : Nat} (hd : ∀ a b, a < P → b < a → tn b ≠ tn a) : ∀ k, k ≤ P → (∀ j, j < k → qmH g tn k 254 (8 + 25 * tn j + 1) = g 254 (8 + 25 * tn j + 1) - g 259 j) ∧ ∀ i, (∀ j, j < k → i ≠ 8 + 25 * tn j + 1) → qmH g tn k 254 i = g 254 i := by
  intro k
  induction k with
  | zero => exact fun _ => ⟨fun _ h => absurd h (Nat.not_lt_zero _), fun _ _ => rfl⟩
  | succ k ih =>
    intro hk
    obtain ⟨a1, a2⟩ := ih (by omega)
    have ek : qmH g tn k 254 (8 + 25 * tn k + 1) = g 254 (8 + 25 * tn k + 1) := a2 _ (fun j hj => by
      have := hd k j (by omega) hj
      omega)
    have e : qmH g tn (k + 1) 254 = upR (qmH g tn k 254) (8 + 25 * tn k + 1) (g 254 (8 + 25 * tn k + 1) - g 259 k) := by
      rw [qmH, sL, hput_u, qmH_o g tn (show 259 ≠ 254 by decide)]
      unfold mL
      rw [ek]
    rw [e]
    refine ⟨fun j hj => ?_, fun i hi => ?_⟩
    · by_cases r : j = k
      · rw [r, upR_at]
      · have := hd k j (by omega) (by omega)
        rw [upR_ne _ _ (by omega)]; exact a1 j (by omega)
    · rw [upR_ne _ _ (hi k (by omega))]; exact a2 i (fun j hj => hi j (by omega))
theorem pmH_row {g : HP} {lot : Nat} : ∀ k, k ≤ 4 → (∀ j, j < k → pmH g lot k 254 (8 + 25 * lot + (5 + j)) = g 258 j) ∧ (∀ j, j < k → pmH g lot k 254 (8 + 25 * lot + (9 + j)) = g 259 j) ∧ ∀ i, (∀ j, j < k → i ≠ 8 + 25 * lot + (5 + j) ∧ i ≠ 8 + 25 * lot + (9 + j)) → pmH g lot k 254 i = g 254 i := by
  intro k
  induction k with
  | zero => exact fun _ => ⟨fun _ h => absurd h (Nat.not_lt_zero _), fun _ h => absurd h (Nat.not_lt_zero _), fun _ _ => rfl⟩
  | succ k ih =>
    intro hk
    obtain ⟨a1, a2, a3⟩ := ih (by omega)
    have e : pmH g lot (k + 1) 254 = upR (upR (pmH g lot k 254) (8 + 25 * lot + (5 + k)) (g 258 k)) (8 + 25 * lot + (9 + k)) (g 259 k) := by
      rw [pmH, sL, hput_u, sL, hput_u, hput_ne _ _ _ (show 259 ≠ 254 by decide), pmH_o g lot (show 258 ≠ 254 by decide), pmH_o g lot (show 259 ≠ 254 by decide)]
    rw [e]
    refine ⟨fun j hj => ?_, fun j hj => ?_, fun i hi => ?_⟩
    · by_cases r : j = k
      · rw [r, upR_ne _ _ (by omega), upR_at]
      · rw [upR_ne _ _ (by omega), upR_ne _ _ (by omega)]; exact a1 j (by omega)
    · by_cases r : j = k
      · rw [r, upR_at]
      · rw [upR_ne _ _ (by omega), upR_ne _ _ (by omega)]; exact a2 j (by omega)
    · obtain ⟨h1, h2⟩ := hi k (by omega)
      rw [upR_ne _ _ h2, upR_ne _ _ h1]; exact a3 i (fun j hj => hi j (by omega))
