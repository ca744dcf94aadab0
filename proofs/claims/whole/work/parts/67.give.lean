/-! BLEND: the thousandths that are missing -/
theorem grI_lee (r : Nat → Int32) : ∀ n, grI r n ≤ n
  | 0 => Nat.le_refl _
  | n + 1 => by
      have := grI_lee r n
      rw [grI]
      split <;> omega
theorem grI_is {r : Nat → Int32} {j : Nat} : ∀ n, j ≤ n → (∀ o, o < j → r o < r j) → (∀ o, o ≤ n → j < o → ¬ r j < r o) → grI r n = j
  | 0, hj, _, _ => by rw [grI]; omega
  | n + 1, hj, h1, h2 => by
      rw [grI]
      by_cases e : j = n + 1
      · have := grI_lee r n
        rw [if_pos (by rw [← e]; exact h1 _ (by omega)), e]
      · rw [grI_is n (by omega) h1 (fun o ho h => h2 o (by omega) h), if_neg (h2 (n + 1) (Nat.le_refl _) (by omega))]
theorem rk_lt2 {f : Nat → Nat} {n i j : Nat} (hi : i < n) (h : aN f j i = true) : cntB (aN f i) n < cntB (aN f j) n := by
  have h9 := aN_iff.mp h
  exact cntB_slt (i := i) hi (fun o ho h => by
    have := aN_iff.mp h
    exact aN_iff.mpr (by omega)) (aN_no (by omega)) h
theorem aN_tot {f : Nat → Nat} {i j : Nat} (h : i ≠ j) : aN f i j = true ∨ aN f j i = true := by
  rw [aN_iff, aN_iff]
  omega
theorem rk_inj {f : Nat → Nat} {n i j : Nat} (hi : i < n) (hj : j < n) (h : cntB (aN f i) n = cntB (aN f j) n) : i = j := by
  by_cases e : i = j
  · exact e
  · rcases aN_tot (f := f) e with q | q
    · have := rk_lt2 hj q; omega
    · have := rk_lt2 hi q; omega
/-- after k rounds the model has given to those of rank below k -/
theorem fg_is {g : HP} {lot nH : Nat} {f : Nat → Nat} (hf : ∀ o, o < nH → g 260 o = nI (f o) ∧ f o < 100000) : ∀ k, k ≤ cntB (fun o => decide (0 < f o)) nH →
    (∀ o, o < nH → fgH g lot nH k 260 o = if cntB (aN f o) nH < k then -1 else nI (f o)) ∧
    (∀ i, fgH g lot nH k 254 i = if ∃ o, o < nH ∧ i = 8 + 25 * lot + (13 + o) ∧ cntB (aN f o) nH < k then g 254 i + 1 else g 254 i) ∧ (∀ q, q ≠ 254 → q ≠ 260 → fgH g lot nH k q = g q) := by
  intro k
  induction k with
  | zero =>
    intro _
    refine ⟨fun o ho => ?_, fun i => ?_, fun _ _ _ => rfl⟩
    · rw [if_neg (Nat.not_lt_zero _)]; exact (hf o ho).1
    · rw [if_neg (fun ⟨_, _, _, h⟩ => absurd h (Nat.not_lt_zero _))]; rfl
  | succ k ih =>
    intro hk
    obtain ⟨a1, a2, a3⟩ := ih (by omega)
    obtain ⟨j, j1, j2, j3⟩ := rk_onto f nH k (by omega)
    have hj := hf j j1
    have hpos : ∀ x, x < 100000 → (-1 : Int32) < nI x := fun x hx => Int32.lt_of_lt_of_le (show (-1 : Int32) < 0 from by decide) (nI_pos' (by omega))
    have hr : grI (fgH g lot nH k 260) (nH - 1) = j := by
      have ej : fgH g lot nH k 260 j = nI (f j) := by rw [a1 j j1, if_neg (by omega)]
      refine grI_is _ (by omega) (fun o ho => ?_) (fun o ho hjo => ?_)
      · rw [ej, a1 o (by omega)]
        split
        · exact hpos _ hj.2
        · rename_i hn
          have hfo := hf o (by omega)
          refine (lt_nI hfo.2 hj.2).mpr ?_
          rcases Nat.lt_or_ge (f o) (f j) with r | r
          · exact r
          · have : aN f j o = true := aN_iff.mpr (by omega)
            have := rk_lt2 (n := nH) (by omega) this
            omega
      · rw [ej, a1 o (by omega)]
        split
        · exact fun r => absurd (Int32.lt_trans r (hpos _ hj.2)) (Int32.lt_irrefl)
        · rename_i hn
          have hfo := hf o (by omega)
          intro r
          have r2 := (lt_nI hj.2 hfo.2).mp r
          have : aN f j o = true := aN_iff.mpr (by omega)
          have := rk_lt2 (n := nH) (by omega) this
          omega
    have hs : fgH g lot nH (k + 1) = hput (sL (fgH g lot nH k) lot (13 + j) (mL (fgH g lot nH k) lot (13 + j) + 1)) 260 j (-1) := by rw [fgH, hr]
    rw [hs]
    refine ⟨fun o ho => ?_, fun i => ?_, fun q h1 h2 => ?_⟩
    · by_cases e : o = j
      · rw [e, hput_at, if_pos (by omega)]
      · rw [hput_k _ _ _ e, sL, hput_ne _ _ _ (by decide), a1 o ho]
        by_cases r : cntB (aN f o) nH < k
        · rw [if_pos r, if_pos (by omega)]
        · rw [if_neg r, if_neg (fun r2 => e (rk_inj (f := f) (n := nH) ho j1 (by omega)))]
    · rw [hput_ne _ _ _ (by decide), sL, hput_u]
      by_cases e : i = 8 + 25 * lot + (13 + j)
      · rw [e, upR_at]
        unfold mL
        rw [a2, if_neg (fun ⟨o, o1, o2, o3⟩ => by
          have : o = j := by omega
          rw [this] at o3; omega), if_pos ⟨j, j1, rfl, by omega⟩]
      · rw [upR_ne _ _ e, a2]
        by_cases r : ∃ o, o < nH ∧ i = 8 + 25 * lot + (13 + o) ∧ cntB (aN f o) nH < k
        · obtain ⟨o, o1, o2, o3⟩ := r
          rw [if_pos ⟨o, o1, o2, o3⟩, if_pos ⟨o, o1, o2, by omega⟩]
        · rw [if_neg r, if_neg (fun ⟨o, o1, o2, o3⟩ => r ⟨o, o1, o2, by
            by_cases r3 : cntB (aN f o) nH = k
            · have : o = j := rk_inj (f := f) (n := nH) o1 j1 (by omega)
              rw [this] at o2; exact absurd o2 e
            · omega⟩)]
    · rw [hput_ne _ _ _ h2, sL, hput_ne _ _ _ h1]; exact a3 q h1 h2
theorem rkB_eq2 {f : Nat → Int32} {sn : Nat → Nat} {n k o : Nat} (hf : ∀ o, o < n → f o = nI (sn o) ∧ sn o < 100000) (hk : k < n) (ho : o < n) : rkB f k o = aN sn k o := by
  obtain ⟨k1, k2⟩ := hf k hk
  obtain ⟨o1, o2⟩ := hf o ho
  refine b_eq ?_
  unfold rkB
  rw [aN_iff, k1, o1, Bool.or_eq_true, Bool.and_eq_true, decide_eq_true_iff, decide_eq_true_iff, decide_eq_true_iff, lt_nI (by omega) (by omega), nI_eq (by omega) (by omega)]
theorem hN_o (h : HP) (lot : Nat) (ms : Int32) {q : Nat} (hq : q ≠ 10) : ∀ i, hN h lot ms i q = h q
  | 0 => rfl
  | i + 1 => by
      rw [hN]
      split
      · rw [hput_ne _ _ _ hq, hN_o h lot ms hq i]
      · exact hN_o h lot ms hq i
/-- the class gives to those of rank below M -/
theorem hN_is {h : HP} {lot M : Nat} {f : Nat → Nat} (hM : M < 100000) (hf : ∀ o, o < 12 → h 250 (0 * 12 + o) = nI (f o) ∧ f o < 100000) : ∀ i, i ≤ 12 → ∀ j,
    hN h lot (nI M) i 10 j = if ∃ o, o < i ∧ j = lot * 12 + o ∧ cntB (aN f o) 12 < M then h 10 j + 1 else h 10 j := by
  intro i
  induction i with
  | zero => intro _ j; rw [if_neg (fun ⟨_, h, _⟩ => absurd h (Nat.not_lt_zero _))]; rfl
  | succ i ih =>
    intro hi j
    have hr : rk (fun o => hN h lot (nI M) i 250 (0 * 12 + o)) 12 i = cntB (aN f i) 12 := cntB_c (fun o ho => rkB_eq2 (n := 12) (fun o ho => by rw [hN_o _ _ _ (by decide)]; exact hf o ho) (by omega) ho)
    have hle := cntB_le (aN f i) 12
    rw [hN, hr]
    by_cases c : cntB (aN f i) 12 < M
    · rw [if_pos ((lt_nI (by omega) hM).mpr c)]
      by_cases e : j = lot * 12 + i
      · rw [e, hput_at, ih (by omega), if_neg (fun ⟨o, o1, o2, o3⟩ => by omega), if_pos ⟨i, by omega, rfl, c⟩]
      · rw [hput_k _ _ _ e, ih (by omega)]
        by_cases r : ∃ o, o < i ∧ j = lot * 12 + o ∧ cntB (aN f o) 12 < M
        · obtain ⟨o, o1, o2, o3⟩ := r
          rw [if_pos ⟨o, o1, o2, o3⟩, if_pos ⟨o, by omega, o2, o3⟩]
        · rw [if_neg r, if_neg (fun ⟨o, o1, o2, o3⟩ => r ⟨o, by
            by_cases r2 : o = i
            · rw [r2] at o2; exact absurd o2 e
            · omega, o2, o3⟩)]
    · rw [if_neg (fun q => c ((lt_nI (by omega) hM).mp q)), ih (by omega)]
      by_cases r : ∃ o, o < i ∧ j = lot * 12 + o ∧ cntB (aN f o) 12 < M
      · obtain ⟨o, o1, o2, o3⟩ := r
        rw [if_pos ⟨o, o1, o2, o3⟩, if_pos ⟨o, by omega, o2, o3⟩]
      · rw [if_neg r, if_neg (fun ⟨o, o1, o2, o3⟩ => r ⟨o, by
          by_cases r2 : o = i
          · rw [r2] at o3; exact absurd o3 c
          · omega, o2, o3⟩)]
