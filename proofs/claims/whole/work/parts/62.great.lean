/-! BOTH SIDES TOGETHER: the greatest shares -/
theorem cntB_imp {p q : Nat → Bool} : ∀ {n : Nat}, (∀ o, o < n → p o = true → q o = true) → cntB p n ≤ cntB q n
  | 0, _ => Nat.le_refl _
  | n + 1, h => by
      have ih := cntB_imp (p := p) (q := q) (n := n) (fun o ho => h o (by omega))
      rw [cntB, cntB]
      cases e : p n with
      | false => rw [if_neg (by decide)]; omega
      | true => rw [h n (by omega) e]; omega
theorem cntB_slt {p q : Nat → Bool} {i : Nat} : ∀ {n : Nat}, i < n → (∀ o, o < n → p o = true → q o = true) → p i = false → q i = true → cntB p n < cntB q n
  | 0, hi, _, _, _ => absurd hi (Nat.not_lt_zero _)
  | n + 1, hi, h, h1, h2 => by
      rw [cntB, cntB]
      by_cases e : i = n
      · subst e
        have := cntB_imp (p := p) (q := q) (n := i) (fun o ho => h o (by omega))
        rw [h1, h2, if_neg (by decide), if_pos rfl]; omega
      · have ih := cntB_slt (n := n) (by omega) (fun o ho => h o (by omega)) h1 h2
        cases e2 : p n with
        | false => rw [if_neg (by decide)]; omega
        | true => rw [h n (by omega) e2]; omega
def aN (f : Nat → Nat) (k o : Nat) : Bool := decide (f k < f o) || (decide (f o = f k) && decide (o < k))
theorem aN_iff {f : Nat → Nat} {k o : Nat} : aN f k o = true ↔ (f k < f o ∨ (f o = f k ∧ o < k)) := by
  unfold aN
  simp [Bool.or_eq_true, Bool.and_eq_true]
theorem aN_no {f : Nat → Nat} {k o : Nat} (h : ¬ (f k < f o ∨ (f o = f k ∧ o < k))) : aN f k o = false := by
  cases e : aN f k o with
  | false => rfl
  | true => exact absurd (aN_iff.mp e) h
theorem rk_onto (f : Nat → Nat) : ∀ n t, t < cntB (fun o => decide (0 < f o)) n → ∃ j, j < n ∧ 0 < f j ∧ cntB (aN f j) n = t := by
  intro n
  induction n with
  | zero => intro t h; exact absurd h (Nat.not_lt_zero _)
  | succ n ih =>
    intro t ht
    rw [cntB] at ht
    rcases Nat.eq_zero_or_pos (f n) with z | z
    · rw [z, if_neg (by decide)] at ht
      obtain ⟨j, j1, j2, j3⟩ := ih t (by omega)
      refine ⟨j, by omega, j2, ?_⟩
      rw [cntB, j3, aN_no (by omega), if_neg (by decide)]; rfl
    · rw [decide_eq_true z, if_pos rfl] at ht
      have hr : cntB (aN f n) (n + 1) = cntB (fun o => decide (f n ≤ f o)) n := by
        rw [cntB, aN_no (by omega), if_neg (by decide), Nat.add_zero]
        exact cntB_c (fun o ho => b_eq (by rw [aN_iff, decide_eq_true_iff]; omega))
      have hrc : cntB (fun o => decide (f n ≤ f o)) n ≤ cntB (fun o => decide (0 < f o)) n := cntB_imp (fun o ho h => decide_eq_true (by have := of_decide_eq_true h; omega))
      rcases Nat.lt_trichotomy t (cntB (fun o => decide (f n ≤ f o)) n) with q | q | q
      · obtain ⟨j, j1, j2, j3⟩ := ih t (by omega)
        refine ⟨j, by omega, j2, ?_⟩
        have hnot : ¬ f j < f n := fun hlt => by
          have : cntB (fun o => decide (f n ≤ f o)) n ≤ cntB (aN f j) n := cntB_imp (fun o ho h => aN_iff.mpr (Or.inl (by have := of_decide_eq_true h; omega)))
          omega
        rw [cntB, j3, aN_no (by omega), if_neg (by decide)]; rfl
      · exact ⟨n, by omega, z, by rw [hr, q]⟩
      · obtain ⟨j, j1, j2, j3⟩ := ih (t - 1) (by omega)
        refine ⟨j, by omega, j2, ?_⟩
        have hlt : f j < f n := by
          rcases Nat.lt_or_ge (f j) (f n) with r | r
          · exact r
          · have : cntB (aN f j) n < cntB (fun o => decide (f n ≤ f o)) n := cntB_slt (i := j) j1 (fun o ho h => decide_eq_true (by have := aN_iff.mp h; omega)) (aN_no (by omega)) (decide_eq_true r)
            omega
        rw [cntB, j3, aN_iff.mpr (Or.inl hlt), if_pos rfl]; omega
theorem rk_lt {f : Nat → Nat} {n j : Nat} (hj : j < n) (hf : 0 < f j) : cntB (aN f j) n < cntB (fun o => decide (0 < f o)) n :=
  cntB_slt hj (fun o ho h => decide_eq_true (by have := aN_iff.mp h; omega)) (aN_no (by omega)) (decide_eq_true hf)
theorem rk_ge {f : Nat → Nat} {n j : Nat} (hf : f j = 0) : cntB (fun o => decide (0 < f o)) n ≤ cntB (aN f j) n :=
  cntB_imp (fun o ho h => aN_iff.mpr (Or.inl (by have := of_decide_eq_true h; omega)))
theorem first_of {q : Nat → Bool} : ∀ n, q n = true → ∃ J, J ≤ n ∧ q J = true ∧ ∀ k, k < J → q k = false := by
  intro n
  induction n using Nat.strongRecOn with
  | ind n ih =>
    intro h
    by_cases e : ∃ k, k < n ∧ q k = true
    · obtain ⟨k, k1, k2⟩ := e
      obtain ⟨J, J1, J2⟩ := ih k k1 k2
      exact ⟨J, by omega, J2⟩
    · refine ⟨n, Nat.le_refl _, h, fun k hk => ?_⟩
      cases r : q k with
      | false => rfl
      | true => exact absurd ⟨k, hk, r⟩ e
theorem cntB_ext {p : Nat → Bool} {n m : Nat} (hnm : n ≤ m) (h : ∀ k, n ≤ k → k < m → p k = false) : cntB p m = cntB p n := by
  have : ∀ d, n + d ≤ m → cntB p (n + d) = cntB p n := fun d => by
    induction d with
    | zero => exact fun _ => rfl
    | succ d ih => exact fun hd => by rw [← Nat.add_assoc, cntB, ih (by omega), h (n + d) (by omega) (by omega)]; rfl
  have h2 := this (m - n) (by omega)
  rw [show n + (m - n) = m by omega] at h2
  exact h2
theorem lt_nI {a b : Nat} (ha : a < 100000) (hb : b < 100000) : nI a < nI b ↔ a < b := by
  constructor
  · intro q
    rcases Nat.lt_or_ge a b with r | r
    · exact r
    · exact absurd q (nI_nlt r (by omega))
  · exact fun q => nI_lt q (by omega)
theorem rkB_eq {f : Nat → Int32} {sn : Nat → Nat} {n k o : Nat} (hf : ∀ o, o < n → f o = nI (sn o) ∧ sn o ≤ 1000) (hk : k < n) (ho : o < n) : rkB f k o = aN sn k o := by
  obtain ⟨k1, k2⟩ := hf k hk
  obtain ⟨o1, o2⟩ := hf o ho
  refine b_eq ?_
  unfold rkB
  rw [aN_iff, k1, o1, Bool.or_eq_true, Bool.and_eq_true, decide_eq_true_iff, decide_eq_true_iff, decide_eq_true_iff, lt_nI (by omega) (by omega), nI_eq (by omega) (by omega)]
theorem gaB_eq {h : HP} {lot : Nat} {sn : Nat → Nat} {n k o : Nat} (hf : ∀ o, o < n → mL h lot (13 + o) = nI (sn o) ∧ sn o ≤ 1000) (hn : n ≤ 1000) (hk : k < n) (ho : o < n) : gaB h lot k o = aN sn k o := by
  obtain ⟨k1, k2⟩ := hf k hk
  obtain ⟨o1, o2⟩ := hf o ho
  have t := pk_sub_toInt (a := sn o) (b := sn k) (by omega) (by omega)
  have z : (0 : Int32).toInt = 0 := by decide
  refine b_eq ?_
  unfold gaB
  rw [aN_iff, k1, o1, Bool.or_eq_true, Bool.and_eq_true, decide_eq_true_iff, decide_eq_true_iff, decide_eq_true_iff, lt_nI (by omega) (by omega), Int32.lt_iff_toInt_lt, t, z, ← Int32.toInt_inj, t, z]
  omega
section JJ
variable {l : Launch} {G : GC} {ad : Nat → Nat}
theorem jp_greatest (hfl : l.stackTraces = false) : J_greatest l G ad INV := by
  intro h x0 x1 hI
  have hR := hI.1.1
  have hi := hI.1.2
  have hw := hi.WF hR
  have h24 : nLF (h 254) ≤ 24 := hi.1.1.2
  have h12 : nHF (h 254) ≤ 12 := hi.1.2.1.2
  have hm : ∀ g : HP, g 254 = h 254 → MW g _ _ _ _ _ _ _ := fun g e => MW_o hi.MW e
  cases e0 : wiB x0 0 (h 2 5 - 1) with
  | false => exact ⟨1, 0, h, _, sp_L_greatest_x1 (sp_X7_greatest_no1 hfl e0), sp_X8_greatest_no1 (by rw [← hR.c0]; exact e0), rfl, fun q => absurd q (by decide), hI.fa.fa⟩
  | true =>
  obtain ⟨lot, hlot, rfl⟩ := wi_of hw.1.1 (by omega) e0
  have hlo := hi.2.2.1 lot hlot
  obtain ⟨sn, hsn⟩ : ∃ f : Nat → Nat, f = fun o => nv (h 254 (8 + 25 * lot + (13 + o))) := ⟨_, rfl⟩
  have hs : ∀ o, o < 12 → mL h lot (13 + o) = nI (sn o) ∧ sn o ≤ 1000 := fun o ho => by
    rw [hsn]; exact hlo.2.2.2.2.2.2.2.2.1 o ho
  have hz : ∀ o, nHF (h 254) ≤ o → o < 12 → sn o = 0 := fun o h1 h2 => by
    rw [hsn]
    show nv (h 254 (8 + 25 * lot + (13 + o))) = 0
    rw [hlo.2.2.2.2.2.2.2.2.2.2 o h1 h2]; rfl
  have hc : ∀ o, o < 12 → h 10 (lot * 12 + o) = mL h lot (13 + o) := fun o ho => hR.sh (by omega) ho
  have hcnt : cntB (fun k => decide (0 < h 10 (lot * 12 + k))) (nHF (h 254)) = cntB (fun o => decide (0 < sn o)) (nHF (h 254)) := cntB_c (fun o ho => by
    obtain ⟨u1, u2⟩ := hs o (by omega)
    rw [hc o (by omega), u1, pos_nI (by omega)])
  have hcl := cntB_le (fun o => decide (0 < sn o)) (nHF (h 254))
  have hga : ∀ k, k < nHF (h 254) → gaC h lot (nHF (h 254)) k = cntB (aN sn k) (nHF (h 254)) := fun k hk => cntB_c (fun o ho => gaB_eq (n := nHF (h 254)) (fun o ho => hs o (by omega)) (by omega) hk ho)
  have hrk : ∀ k, k < nHF (h 254) → rk (fun o => h 10 (lot * 12 + o)) 12 k = cntB (aN sn k) (nHF (h 254)) := fun k hk => by
    unfold rk
    rw [cntB_c (q := aN sn k) (fun o ho => rkB_eq (n := 12) (fun o ho => by rw [hc o ho]; exact hs o ho) (by omega) ho)]
    exact cntB_ext h12 (fun o h1 h2 => aN_no (by rw [hz o h1 h2]; omega))
  cases e1 : wiB x1 0 (nI (cntB (fun k => decide (0 < h 10 (lot * 12 + k))) (nHF (h 254))) - 1) with
  | false =>
    refine ⟨2, 0, h, _, sp_L_greatest_x2 (sp_X7_greatest_no2 hfl hw hlot e1), sp_X8_greatest_no2 hi.MW hlot (fun k hk => ?_), rfl, fun q => absurd q (by decide), hI.fa.fa⟩
    refine gt_f (fun ⟨p1, p2⟩ => ?_)
    obtain ⟨u1, u2⟩ := hs k (by omega)
    rw [u1] at p1
    have p3 : 0 < sn k := of_decide_eq_true ((pos_nI (by omega)).symm.trans (decide_eq_true p1))
    have p4 := rk_lt hk p3
    rw [hcnt, ← p2, hga k hk, wi_ok rfl p4 (by omega)] at e1; cases e1
  | true =>
    have e2 := e1
    rw [hcnt] at e2
    obtain ⟨t, ht, rfl⟩ := wi_of rfl (by omega) e2
    obtain ⟨j, j1, j2, j3⟩ := rk_onto sn _ t ht
    have hgt : ∀ k, k < nHF (h 254) → (gtB h lot (nHF (h 254)) (nI t) k = true ↔ (0 < sn k ∧ cntB (aN sn k) (nHF (h 254)) = t)) := fun k hk => by
      obtain ⟨u1, u2⟩ := hs k (by omega)
      have := cntB_le (aN sn k) (nHF (h 254))
      unfold gtB
      rw [Bool.and_eq_true, hga k hk, u1, pos_nI (by omega), decide_eq_true_iff, decide_eq_true_iff, nI_eq (by omega) (by omega)]
    obtain ⟨J, J1, J2, J3⟩ := first_of (q := gtB h lot (nHF (h 254)) (nI t)) j ((hgt j j1).mpr ⟨j2, j3⟩)
    obtain ⟨J4, J5⟩ := (hgt J (by omega)).mp J2
    have gc : ∀ g : HP, g 254 = h 254 → gtB g lot (nHF (h 254)) (nI t) = gtB h lot (nHF (h 254)) (nI t) := fun g e => by
      unfold gtB gaC gaB mL
      rw [e]
    refine ⟨0, _, _, _, sp_L_greatest_ok (sp_X7_greatest_ok hfl hw hlot e1), sp_X8_greatest_ok (hm _ (by rw [hput_ne _ _ _ (by decide)])) hlot (t := J) (by omega) (by rw [gc _ (by rw [hput_ne _ _ _ (by decide)])]; exact J2) (fun k hk => by rw [gc _ (by rw [hput_ne _ _ _ (by decide)])]; exact J3 k hk), rfl, fun _ => ?_, hI.o3.fa⟩
    rw [faH, hput_ne _ _ _ (by decide), hput_at]
    refine firstF_is (decide_eq_true (by rw [hrk J (by omega), J5])) (fun k hk => decide_eq_false (fun q => ?_)) _ _ (Nat.zero_le _) (by omega)
    rw [hrk k (by omega)] at q
    have hle := cntB_le (aN sn k) (nHF (h 254))
    have q2 := (nI_eq (by omega) (by omega)).mp q
    rcases Nat.eq_zero_or_pos (sn k) with r | r
    · have := rk_ge (n := nHF (h 254)) r
      omega
    · have := (hgt k (by omega)).mpr ⟨r, q2⟩
      rw [J3 k hk] at this; cases this
end JJ
