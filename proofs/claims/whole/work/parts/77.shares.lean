/-! BLEND: the shares of a good one -/
theorem anyB_f {p : Nat → Bool} {n : Nat} (h : anyB p n = false) : ∀ k, k < n → p k = false := fun k hk => by
  cases e : p k with
  | false => rfl
  | true => rw [anyB_t hk e] at h; cases h
theorem sumN_one {f : Nat → Nat} {i : Nat} : ∀ {n : Nat}, i < n → f i ≤ sumN f n
  | 0, h => absurd h (Nat.not_lt_zero _)
  | n + 1, h => by
      rw [sumN]
      by_cases e : i = n
      · rw [e]; exact Nat.le_add_left _ _
      · have := sumN_one (f := f) (i := i) (n := n) (by omega)
        omega
theorem sumN_if (p : Nat → Bool) : ∀ n, sumN (fun i => if p i = true then 1 else 0) n = cntB p n
  | 0 => rfl
  | n + 1 => by rw [sumN, cntB, sumN_if p n]
/-- as many have a rank below M as M says -/
theorem rk_cnt (f : Nat → Nat) (n : Nat) : ∀ M, M ≤ cntB (fun o => decide (0 < f o)) n → cntB (fun o => decide (cntB (aN f o) n < M)) n = M := by
  intro M
  induction M with
  | zero => exact fun _ => cntB_ext (n := 0) (Nat.zero_le _) (fun k _ _ => decide_eq_false (Nat.not_lt_zero _))
  | succ M ih =>
    intro h
    obtain ⟨j, j1, -, j3⟩ := rk_onto f n M (by omega)
    have := cntB_up (p := fun o => decide (cntB (aN f o) n < M)) (q := fun o => decide (cntB (aN f o) n < M + 1)) (i := j) j1 (decide_eq_false (by omega)) (decide_eq_true (by omega)) (fun k hk hne => b_eq (by
      have h9 : cntB (aN f k) n ≠ M := fun q => hne (rk_inj (f := f) hk j1 (q.trans j3.symm))
      show decide (cntB (aN f k) n < M + 1) = true ↔ decide (cntB (aN f k) n < M) = true
      rw [decide_eq_true_iff, decide_eq_true_iff]
      omega))
    rw [this, ih (by omega)]
/-- the share of a harvest in a blend -/
def shF (num : Nat → Nat) (T i : Nat) : Nat := num i / T + (if cntB (aN (fun o => num o % T) i) 12 < 1000 - sumN (fun i => num i / T) 12 then 1 else 0)
theorem shF_sum {num : Nat → Nat} {T : Nat} (h0 : 0 < T) (hs : sumN num 12 = 1000 * T) : sumN (shF num T) 12 = 1000 := by
  obtain ⟨m1, m2⟩ := miss_le h0 hs
  have e1 : sumN (shF num T) 12 = sumN (fun i => num i / T) 12 + cntB (fun o => decide (cntB (aN (fun o => num o % T) o) 12 < 1000 - sumN (fun i => num i / T) 12)) 12 := by
    rw [← sumN_if, ← sumN_add]
    exact sumN_c (fun k _ => by simp only [shF, decide_eq_true_eq])
  rw [e1, rk_cnt (fun o => num o % T) 12 _ m2]
  omega
theorem shF_z {num : Nat → Nat} {T i : Nat} (h0 : 0 < T) (hs : sumN num 12 = 1000 * T) (hz : num i = 0) : shF num T i = 0 := by
  obtain ⟨m1, m2⟩ := miss_le h0 hs
  have h9 := rk_ge (f := fun o => num o % T) (n := 12) (j := i) (by show num i % T = 0; rw [hz, Nat.zero_mod])
  unfold shF
  rw [hz, Nat.zero_div, if_neg (Nat.not_lt.mpr (Nat.le_trans m2 h9))]
/-- the class's shares -/
theorem mixH_is {h : HP} {pk : Nat → Nat} {P lot T : Nat} {num : Nat → Nat} (h0 : 0 < T) (hT : T < 100000) (hn : ∀ i, i < 12 → smI h pk P lot i = nI (num i) ∧ num i < 2147483648) (hp : ∀ k, k < P → pk k ≠ lot) (hs : sumN num 12 = 1000 * T) :
    (∀ j, (∀ i, i < 12 → j ≠ lot * 12 + i) → mixH h pk P lot (nI T) 10 j = h 10 j) ∧ (∀ i, i < 12 → mixH h pk P lot (nI T) 10 (lot * 12 + i) = nI (shF num T i)) ∧ ∀ q, q ≠ 10 → q ≠ 250 → mixH h pk P lot (nI T) q = h q := by
  obtain ⟨a1, a2, a3, a4⟩ := hM_is h0 (by omega) hn hp 12 (Nat.le_refl _)
  obtain ⟨m1, m2⟩ := miss_le h0 hs
  have em : msM h pk P lot (nI T) 12 = nI (1000 - sumN (fun i => num i / T) 12) := by
    rw [a4, show (1000 : Int32) = nI 1000 from rfl, pk_sub m1]
  have hf : ∀ o, o < 12 → hM h pk P lot (nI T) 12 250 (0 * 12 + o) = nI ((fun o => num o % T) o) ∧ (fun o => num o % T) o < 100000 := fun o ho => ⟨a3 o ho, Nat.lt_trans (Nat.mod_lt _ h0) hT⟩
  have key := hN_is (h := hM h pk P lot (nI T) 12) (lot := lot) (M := 1000 - sumN (fun i => num i / T) 12) (f := fun o => num o % T) (by omega) hf 12 (Nat.le_refl _)
  unfold mixH
  rw [em]
  refine ⟨fun j hj => ?_, fun i hi => ?_, fun q h1 h2 => ?_⟩
  · rw [key, if_neg (fun ⟨o, o1, o2, _⟩ => hj o o1 o2)]; exact a1 j hj
  · rw [key, a2 i hi]
    unfold shF
    by_cases c : cntB (aN (fun o => num o % T) i) 12 < 1000 - sumN (fun i => num i / T) 12
    · rw [if_pos ⟨i, hi, rfl, c⟩, if_pos c, show (1 : Int32) = nI 1 from rfl, nI_add]
    · rw [if_neg (fun ⟨o, o1, o2, o3⟩ => c (by
        have : o = i := by omega
        rw [this] at o3; exact o3)), if_neg c, Nat.add_zero]
  · rw [hN_o _ _ _ h1 12]
    funext j
    exact hM_o _ _ _ _ _ 12 q j h1 h2
/-- the model's shares -/
theorem fsg_is {h : HP} {pk : Nat → Nat} {P lot T nH : Nat} {num : Nat → Nat} (h0 : 0 < T) (hT : T < 100000) (hP : P ≤ 4) (hn : ∀ i, i < 12 → fsS h pk lot P i = nI (num i) ∧ num i < 2147483648) (hp : ∀ k, k < P → pk k ≠ lot) (hH : nH ≤ 12) (hz : ∀ i, nH ≤ i → i < 12 → num i = 0) (hs : sumN num 12 = 1000 * T) :
    ∃ M, M < 1000000 ∧ fsM h pk lot P (nI T) nH = nI M ∧ (∀ j, (∀ i, i < nH → j ≠ 8 + 25 * lot + (13 + i)) → fgH (fsH h pk lot P (nI T) nH) lot nH M 254 j = h 254 j) ∧
      (∀ i, i < nH → fgH (fsH h pk lot P (nI T) nH) lot nH M 254 (8 + 25 * lot + (13 + i)) = nI (shF num T i)) ∧ ∀ q, q ≠ 254 → q ≠ 260 → fgH (fsH h pk lot P (nI T) nH) lot nH M q = h q := by
  obtain ⟨a1, a2, a3, a4, a5⟩ := fsH_is h0 (by omega) hP hn hp nH hH
  obtain ⟨m1, m2⟩ := miss_le h0 hs
  have ez : sumN (fun i => num i / T) 12 = sumN (fun i => num i / T) nH := sumN_ext hH (fun k h1 h2 => by show num k / T = 0; rw [hz k h1 h2, Nat.zero_div])
  have ec : cntB (fun o => decide (0 < num o % T)) 12 = cntB (fun o => decide (0 < num o % T)) nH := cntB_ext hH (fun k h1 h2 => by show decide (0 < num k % T) = false; rw [hz k h1 h2, Nat.zero_mod]; rfl)
  have er : ∀ i, i < nH → cntB (aN (fun o => num o % T) i) 12 = cntB (aN (fun o => num o % T) i) nH := fun i hi => cntB_ext hH (fun k h1 h2 => aN_no (by
    show ¬ (num i % T < num k % T ∨ (num k % T = num i % T ∧ k < i))
    rw [hz k h1 h2, Nat.zero_mod]; omega))
  obtain ⟨g1, g2, g3⟩ := fg_is (g := fsH h pk lot P (nI T) nH) (lot := lot) (nH := nH) (f := fun o => num o % T) (fun o ho => ⟨a3 o ho, Nat.lt_trans (Nat.mod_lt _ h0) hT⟩) (1000 - sumN (fun i => num i / T) 12) (by rw [← ec]; exact m2)
  refine ⟨1000 - sumN (fun i => num i / T) 12, by omega, ?_, fun j hj => ?_, fun i hi => ?_, fun q h1 h2 => ?_⟩
  · rw [a4, ← ez, show (1000 : Int32) = nI 1000 from rfl, pk_sub m1]
  · rw [g2, if_neg (fun ⟨o, o1, o2, _⟩ => hj o o1 o2)]; exact a1 j hj
  · rw [g2, a2 i hi]
    unfold shF
    by_cases c : cntB (aN (fun o => num o % T) i) 12 < 1000 - sumN (fun i => num i / T) 12
    · rw [if_pos ⟨i, hi, rfl, by rw [← er i hi]; exact c⟩, if_pos c, show (1 : Int32) = nI 1 from rfl, nI_add]
    · rw [if_neg (fun ⟨o, o1, o2, o3⟩ => c (by
        have : o = i := by omega
        subst this
        rw [er _ o1]; exact o3)), if_neg c, Nat.add_zero]
  · rw [g3 q h1 h2]; exact a5 q h1 h2
theorem maxF_is {g : Nat → Int32} {f : Nat → Nat} : ∀ {n : Nat}, (∀ k, k < n → g k = nI (f k) ∧ f k ≤ 4) → ∃ m, m ≤ 4 ∧ maxF g n = nI m ∧ ∀ k, k < n → f k ≤ m
  | 0, _ => ⟨0, by decide, rfl, fun _ h => absurd h (Nat.not_lt_zero _)⟩
  | n + 1, h => by
      obtain ⟨m, m1, m2, m3⟩ := maxF_is (g := g) (f := f) (n := n) (fun k hk => h k (by omega))
      obtain ⟨e1, e2⟩ := h n (by omega)
      by_cases c : m < f n
      · refine ⟨f n, e2, ?_, fun k hk => ?_⟩
        · rw [maxF, m2, e1, if_pos (nI_lt c (by omega))]
        · by_cases q : k = n
          · have e9 : f k = f n := by rw [q]
            omega
          · have := m3 k (by omega)
            omega
      · refine ⟨m, m1, ?_, fun k hk => ?_⟩
        · rw [maxF, m2, e1, if_neg (nI_nlt (by omega) (by omega))]
        · by_cases q : k = n
          · have e9 : f k = f n := by rw [q]
            omega
          · exact m3 k (by omega)
theorem nSh_sum {s : Nat → Int32} {k : Nat} : ∀ n, nSh s k n = sumN (fun j => nv (s (8 + 25 * k + (13 + j)))) n
  | 0 => rfl
  | n + 1 => by rw [nSh, sumN, nSh_sum n]
/-- the parts are taken, by the class -/
theorem hQ_is {h : HP} {tn : Nat → Nat} {tl tq : Nat → Int32} {lot P : Nat} (hd : ∀ i j, i < P → j < i → tn j ≠ tn i) : ∀ n, n ≤ P →
    (∀ k, k < n → hQ h tn tl tq lot n 6 (lot * 4 + k) = tl k) ∧ (∀ j, (∀ k, k < n → j ≠ lot * 4 + k) → hQ h tn tl tq lot n 6 j = h 6 j) ∧
    (∀ k, k < n → hQ h tn tl tq lot n 8 (lot * 4 + k) = tq k) ∧ (∀ j, (∀ k, k < n → j ≠ lot * 4 + k) → hQ h tn tl tq lot n 8 j = h 8 j) ∧
    (∀ k, k < n → hQ h tn tl tq lot n 4 (tn k * 5 + 1) = h 4 (tn k * 5 + 1) - tq k) ∧ (∀ j, (∀ k, k < n → j ≠ tn k * 5 + 1) → hQ h tn tl tq lot n 4 j = h 4 j) ∧ ∀ q, q ≠ 4 → q ≠ 6 → q ≠ 8 → hQ h tn tl tq lot n q = h q := by
  intro n
  induction n with
  | zero => exact fun _ => ⟨fun _ h => absurd h (Nat.not_lt_zero _), fun _ _ => rfl, fun _ h => absurd h (Nat.not_lt_zero _), fun _ _ => rfl, fun _ h => absurd h (Nat.not_lt_zero _), fun _ _ => rfl, fun _ _ _ _ => rfl⟩
  | succ n ih =>
    intro h1
    obtain ⟨a1, a2, a3, a4, a5, a6, a7⟩ := ih (by omega)
    have e4 : hQ h tn tl tq lot n 4 (tn n * 5 + 1) = h 4 (tn n * 5 + 1) := a6 _ (fun k hk => by
      have := hd n k (by omega) hk
      omega)
    have e : hQ h tn tl tq lot (n + 1) = hput (hput (hput (hQ h tn tl tq lot n) 6 (lot * 4 + n) (tl n)) 8 (lot * 4 + n) (tq n)) 4 (tn n * 5 + 1) (h 4 (tn n * 5 + 1) - tq n) := by
      rw [hQ, e4, Int32.sub_eq_add_neg]
    rw [e]
    refine ⟨fun k hk => ?_, fun j hj => ?_, fun k hk => ?_, fun j hj => ?_, fun k hk => ?_, fun j hj => ?_, fun q q1 q2 q3 => ?_⟩
    · rw [hput_ne _ _ _ (by decide), hput_ne _ _ _ (by decide)]
      by_cases r : k = n
      · rw [r, hput_at]
      · rw [hput_k _ _ _ (by omega)]; exact a1 k (by omega)
    · rw [hput_ne _ _ _ (by decide), hput_ne _ _ _ (by decide), hput_k _ _ _ (hj n (by omega))]; exact a2 j (fun k hk => hj k (by omega))
    · rw [hput_ne _ _ _ (by decide)]
      by_cases r : k = n
      · rw [r, hput_at]
      · rw [hput_k _ _ _ (by omega), hput_ne _ _ _ (by decide)]; exact a3 k (by omega)
    · rw [hput_ne _ _ _ (by decide), hput_k _ _ _ (hj n (by omega)), hput_ne _ _ _ (by decide)]; exact a4 j (fun k hk => hj k (by omega))
    · by_cases r : k = n
      · rw [r, hput_at]
      · have := hd n k (by omega) (by omega)
        rw [hput_k _ _ _ (by omega), hput_ne _ _ _ (by decide), hput_ne _ _ _ (by decide)]; exact a5 k (by omega)
    · rw [hput_k _ _ _ (hj n (by omega)), hput_ne _ _ _ (by decide), hput_ne _ _ _ (by decide)]; exact a6 j (fun k hk => hj k (by omega))
    · rw [hput_ne _ _ _ q1, hput_ne _ _ _ q3, hput_ne _ _ _ q2]; exact a7 q q1 q2 q3
theorem entH_is (h : HP) (n : Nat) (q p g v : Int32) : entH h n q p g v 4 (n * 5 + 0) = q ∧ entH h n q p g v 4 (n * 5 + 1) = q ∧ entH h n q p g v 4 (n * 5 + 2) = p ∧ entH h n q p g v 4 (n * 5 + 3) = g ∧ entH h n q p g v 4 (n * 5 + 4) = v ∧
    (∀ j, (j < n * 5 ∨ n * 5 + 5 ≤ j) → entH h n q p g v 4 j = h 4 j) ∧ entH h n q p g v 2 5 = nI (n + 1) ∧ (∀ j, j ≠ 5 → entH h n q p g v 2 j = h 2 j) ∧ ∀ a, a ≠ 2 → a ≠ 4 → entH h n q p g v a = h a := by
  unfold entH
  refine ⟨?_, ?_, ?_, ?_, ?_, fun j hj => ?_, ?_, fun j hj => ?_, fun a h2 h4 => ?_⟩
  · rw [hput_ne _ _ _ (by decide), hput_k _ _ _ (by omega), hput_k _ _ _ (by omega), hput_k _ _ _ (by omega), hput_k _ _ _ (by omega), hput_at]
  · rw [hput_ne _ _ _ (by decide), hput_k _ _ _ (by omega), hput_k _ _ _ (by omega), hput_k _ _ _ (by omega), hput_at]
  · rw [hput_ne _ _ _ (by decide), hput_k _ _ _ (by omega), hput_k _ _ _ (by omega), hput_at]
  · rw [hput_ne _ _ _ (by decide), hput_k _ _ _ (by omega), hput_at]
  · rw [hput_ne _ _ _ (by decide), hput_at]
  · rw [hput_ne _ _ _ (by decide), hput_k _ _ _ (by omega), hput_k _ _ _ (by omega), hput_k _ _ _ (by omega), hput_k _ _ _ (by omega), hput_k _ _ _ (by omega)]
  · rw [hput_at]
  · rw [hput_k _ _ _ hj, hput_ne _ _ _ (by decide), hput_ne _ _ _ (by decide), hput_ne _ _ _ (by decide), hput_ne _ _ _ (by decide), hput_ne _ _ _ (by decide)]
  · rw [hput_ne _ _ _ h2, hput_ne _ _ _ h4, hput_ne _ _ _ h4, hput_ne _ _ _ h4, hput_ne _ _ _ h4, hput_ne _ _ _ h4]
