/-! BLEND: the good one, both sides -/
theorem rf_0 {w g : Bool} {gen : Int32} {nL : Nat} (hL : nL ≤ 24) (e : refI w g gen (nI nL) = 0) : w = false ∧ g = false ∧ ¬ 4 < gen ∧ nL < 24 := by
  unfold refI at e
  cases w with
  | true => rw [if_pos rfl] at e; exact absurd e (by decide)
  | false =>
    cases g with
    | true => rw [if_neg (by decide), if_pos rfl] at e; exact absurd e (by decide)
    | false =>
      rw [if_neg (by decide), if_neg (by decide)] at e
      by_cases c : 4 < gen
      · rw [if_pos c] at e; exact absurd e (by decide)
      · refine ⟨rfl, rfl, c, ?_⟩
        rw [if_neg c] at e
        rcases Nat.lt_or_ge nL 24 with q | q
        · exact q
        · have : nL = 24 := by omega
          subst this
          exact absurd e (by decide)
/-- what it says that a blend isn't refused -/
theorem wr_0 {h hm : HP} {len P : Nat} (hI : INV h) (p3 : RdC (rbH h len) hm P) (e3 : wrB h len P = 0) : nLF (h 254) < 24 ∧ (∀ k, k < P → rbH h len 246 (k * 2 + 0) = nI (tnB h len k) ∧ tnB h len k < nLF (h 254)) ∧
    (∀ i j, i < P → j < i → tnB h len j ≠ tnB h len i) ∧ (∀ k, k < P → ¬ h 254 (8 + 25 * tnB h len k + 1) < rbH h len 246 (k * 2 + 1)) ∧ ¬ 4 < maxF (fun k => h 254 (8 + 25 * tnB h len k + 3)) P + 1 := by
  have hR := hI.1.1
  have h24 : nLF (h 254) ≤ 24 := hI.1.2.1.1.2
  have r4 : ∀ j, rbH h len 4 j = h 4 j := fun j => congrFun ((rbH_o h len).1 4 (by decide) (by decide)) j
  unfold wrB at e3
  obtain ⟨w1, w2, w3, w4⟩ := rf_0 h24 e3
  have ht := tn_ok h24 p3 w1
  have hlt : ∀ k, k < P → tnB h len k < 24 := fun k hk => Nat.lt_of_lt_of_le (ht k hk).2 h24
  refine ⟨w4, ht, fun i j hi hj q => ?_, fun k hk q => ?_, fun q => w3 ?_⟩
  · have a1 := anyB_f w1 i hi
    unfold wpB at a1
    rw [Bool.or_eq_false_iff] at a1
    have a2 := anyB_f a1.2 j hj
    have a3 := of_decide_eq_false a2
    exact a3 ((ht j (by omega)).1.trans ((congrArg nI q).trans (ht i hi).1.symm))
  · have a1 := of_decide_eq_false (anyB_f w2 k hk)
    rw [r4, hR.lot (hlt k hk) (show 1 < 5 by decide)] at a1
    exact a1 q
  · have e2 : maxF (fun k => h 254 (8 + 25 * tnB h len k + 3)) P = maxF (fun k => rbH h len 4 (tnB h len k * 5 + 3)) P := maxF_c (fun k hk => by
      rw [r4, hR.lot (hlt k hk) (show 3 < 5 by decide)]; rfl)
    rw [← e2]; exact q
theorem Inv.blend {s s' : Nat → Int32} (i : Inv s) {nL P T G : Nat} {tn y sh : Nat → Nat} (hL : nv (s 0) = nL) (hn : nL < 24) (hP : P ≤ 4) (hd : ∀ a b, a < P → b < a → tn b ≠ tn a) (ht : ∀ k, k < P → tn k < nL) (hy : ∀ k, k < P → y k ≤ nv (s (8 + 25 * tn k + 1)))
    (hT1 : 1 ≤ T) (hT2 : T ≤ 39996) (hG : G ≤ 4) (hG2 : ∀ k, k < P → nv (s (8 + 25 * tn k + 3)) < G)
    (h0 : s' 0 = nI (nL + 1)) (l0 : s' (8 + 25 * nL + 0) = nI T) (l1 : s' (8 + 25 * nL + 1) = nI T) (l2 : s' (8 + 25 * nL + 2) = nI P) (l3 : s' (8 + 25 * nL + 3) = nI G) (l4 : s' (8 + 25 * nL + 4) = -1)
    (l5 : ∀ j, j < P → s' (8 + 25 * nL + (5 + j)) = nI (tn j)) (l5z : ∀ j, P ≤ j → j < 4 → s' (8 + 25 * nL + (5 + j)) = 0)
    (l13 : ∀ j, j < 12 → s' (8 + 25 * nL + (13 + j)) = nI (sh j)) (hs : sumN sh 12 = 1000) (hz : ∀ j, nv (s 1) ≤ j → j < 12 → sh j = 0)
    (lq : ∀ k, k < P → s' (8 + 25 * tn k + 1) = s (8 + 25 * tn k + 1) - nI (y k))
    (e : ∀ j, j < 1032 → j ≠ 0 → (j < 8 + 25 * nL ∨ 8 + 25 * nL + 25 ≤ j) → (∀ k, k < P → j ≠ 8 + 25 * tn k + 1) → s' j = s j) : Inv s' := by
  obtain ⟨s1, hs1⟩ : ∃ f : Nat → Int32, f = fun j => if j = 0 ∨ (8 + 25 * nL ≤ j ∧ j < 8 + 25 * nL + 25) then s j else s' j := ⟨_, rfl⟩
  have m1 : ∀ j, (j = 0 ∨ (8 + 25 * nL ≤ j ∧ j < 8 + 25 * nL + 25)) → s1 j = s j := fun j hj => by rw [hs1]; exact if_pos hj
  have m2 : ∀ j, ¬ (j = 0 ∨ (8 + 25 * nL ≤ j ∧ j < 8 + 25 * nL + 25)) → s1 j = s' j := fun j hj => by rw [hs1]; exact if_neg hj
  have bq : ∀ k, k < P → bd (s' (8 + 25 * tn k + 1)) 39996 := fun k hk => by
    have hb := (i.2.2.1 (tn k) (by rw [hL]; exact ht k hk)).2.1
    have h9 := hb.2
    rw [lq k hk, hb.1, pk_sub (hy k hk)]
    exact bd_nI (by omega) (by decide)
  have I1 : Inv s1 := by
    refine i.qty (fun j hj h4 hk => ?_) (fun k hk => ?_)
    · by_cases c : j = 0 ∨ (8 + 25 * nL ≤ j ∧ j < 8 + 25 * nL + 25)
      · exact m1 j c
      · rw [m2 j c]
        exact e j hj (by omega) (by omega) (fun k h => hk _ (by have := ht k h; omega))
    · by_cases c : k = nL
      · have e0 : s1 (8 + 25 * k + 1) = 0 := by
          rw [m1 _ (by omega)]
          exact i.2.2.2.1 k 1 (by omega) hk (by decide)
        rw [e0]; exact ⟨bd_0 _, fun _ => rfl⟩
      · rw [m2 _ (by omega)]
        by_cases c2 : ∃ j, j < P ∧ tn j = k
        · obtain ⟨j, j1, rfl⟩ := c2
          exact ⟨bq j j1, fun q => by have := ht j j1; omega⟩
        · rw [e _ (by omega) (by omega) (by omega) (fun j h1 h2 => c2 ⟨j, h1, by omega⟩)]
          rcases Nat.lt_or_ge k (nv (s 0)) with q | q
          · exact ⟨(i.2.2.1 k q).2.1, fun q2 => by omega⟩
          · have := i.2.2.2.1 k 1 q hk (by decide)
            rw [this]; exact ⟨bd_0 _, fun _ => rfl⟩
  have e1 : s' 1 = s 1 := e 1 (by omega) (by omega) (by omega) (fun k _ => by omega)
  have n1 : s1 0 = s 0 := m1 0 (Or.inl rfl)
  have n2 : s1 1 = s' 1 := m2 1 (by omega)
  have hcn : cntB (hvB s') nL = cntB (hvB s1) nL := cntB_c (fun k hk => by unfold hvB; rw [m2 (8 + 25 * k + 4) (by omega)])
  have hvL : hvB s' nL = false := by unfold hvB; rw [l4, decide_eq_true (rfl : (-1 : Int32) = -1)]; rfl
  have hc1 : cntB (hvB s1) nL = nv (s1 1) := by
    have := I1.2.2.2.2.1
    rw [n1, hL] at this; exact this
  have hs9 : ∀ j, j < 12 → sh j ≤ 1000 := fun j hj => by
    have := sumN_one (f := sh) hj
    omega
  refine I1.addLot (nL := nL) (by rw [n1]; exact hL) hn h0 (by rw [e1]; exact i.1.2.1) (by rw [cntB, hcn, hvL, hc1, n2]; rfl) (by rw [n2]; exact Nat.le_refl _) (fun j h1 h2 h3 h4 _ => (m2 j (by omega)).symm) ?_
  refine ⟨⟨by rw [l0]; exact bd_nI hT2 (by decide), by rw [l0, nv_nI (by omega)]; exact hT1⟩, by rw [l1]; exact bd_nI hT2 (by decide), by rw [l2]; exact bd_nI hP (by decide), by rw [l3]; exact bd_nI hG (by decide), Or.inl l4, fun j hj => ?_, fun j hj => ?_, fun a b ha hb => ?_, fun j hj => ?_, ?_, fun j h1 h2 => ?_⟩
  · by_cases c : j < P
    · rw [l5 j c]
      have := ht j c
      exact bd_nI (by omega) (by decide)
    · rw [l5z j (by omega) hj]; exact bd_0 _
  · rw [l2, nv_nI (by omega)] at hj
    have h9 := ht j hj
    have h8 := hG2 j hj
    rw [l5 j hj, nv_nI (by omega), l3, nv_nI (by omega), e _ (by omega) (by omega) (by omega) (fun k _ => by omega)]
    exact ⟨h9, h8⟩
  · rw [l2, nv_nI (by omega)] at ha
    have h1 := ht a ha
    have h2 := ht b (by omega)
    rw [l5 b (by omega), l5 a ha, nv_nI (by omega), nv_nI (by omega)]
    exact hd a b ha hb
  · rw [l13 j hj]; exact bd_nI (hs9 j hj) (by decide)
  · rw [nSh_sum]
    refine (sumN_c (fun j hj => ?_)).trans hs
    rw [l13 j hj]
    have := hs9 j hj
    exact nv_nI (by omega)
  · rw [l13 j h2, hz j (by rw [← e1]; exact h1) h2]; rfl
/-- the class's lots behind a blend -/
theorem Rep.blend {h : HP} {s s' : Nat → Int32} (r : Rep h 1 s) {nL P T : Nat} {gen : Int32} {tn y : Nat → Nat} {tl tq : Nat → Int32} {num : Nat → Nat} {sv : Nat → Nat → Nat} (hn : nL < 24) (hP : P ≤ 4) (hd : ∀ a b, a < P → b < a → tn b ≠ tn a) (ht : ∀ k, k < P → tn k < nL)
    (hq : ∀ k, k < P → tq k = nI (y k)) (sz : ∀ j, j < 25 → s (8 + 25 * nL + j) = 0) (h0T : 0 < T) (hT : T < 100000)
    (hsh : ∀ k i, k < P → i < 12 → s (8 + 25 * tn k + (13 + i)) = nI (sv k i)) (hnum : ∀ i, i < 12 → num i = sumN (fun k => y k * sv k i) P ∧ num i < 2147483648) (hsum : sumN num 12 = 1000 * T)
    (h0 : s' 0 = nI (nL + 1)) (l0 : s' (8 + 25 * nL + 0) = nI T) (l1 : s' (8 + 25 * nL + 1) = nI T) (l2 : s' (8 + 25 * nL + 2) = nI P) (l3 : s' (8 + 25 * nL + 3) = gen) (l4 : s' (8 + 25 * nL + 4) = -1)
    (l5 : ∀ j, j < P → s' (8 + 25 * nL + (5 + j)) = tl j) (l5z : ∀ j, P ≤ j → j < 4 → s' (8 + 25 * nL + (5 + j)) = 0) (l9 : ∀ j, j < P → s' (8 + 25 * nL + (9 + j)) = tq j) (l9z : ∀ j, P ≤ j → j < 4 → s' (8 + 25 * nL + (9 + j)) = 0)
    (l13 : ∀ j, j < 12 → s' (8 + 25 * nL + (13 + j)) = nI (shF num T j))
    (lq : ∀ k, k < P → s' (8 + 25 * tn k + 1) = s (8 + 25 * tn k + 1) - tq k)
    (e : ∀ j, j < 1032 → j ≠ 0 → (j < 8 + 25 * nL ∨ 8 + 25 * nL + 25 ≤ j) → (∀ k, k < P → j ≠ 8 + 25 * tn k + 1) → s' j = s j) :
    Rep (mixH (hQ (entH h nL (nI T) (nI P) gen (-1)) tn tl tq nL P) tn P nL (nI T)) 1 s' := by
  obtain ⟨⟨a1, a2, a3, a4, a5⟩, b1, b2, b3, b4, b5, b6, b7, b8, b9, b10⟩ := r
  obtain ⟨n0, n1, n2, n3, n4, n5, n6, n7, n8⟩ := entH_is h nL (nI T) (nI P) gen (-1)
  obtain ⟨q1, q2, q3, q4, q5, q6, q7⟩ := hQ_is (h := entH h nL (nI T) (nI P) gen (-1)) (tl := tl) (tq := tq) (lot := nL) hd P (Nat.le_refl _)
  have hsm : ∀ i, i < 12 → smI (hQ (entH h nL (nI T) (nI P) gen (-1)) tn tl tq nL P) tn P nL i = nI (num i) ∧ num i < 2147483648 := fun i hi => by
    refine ⟨?_, (hnum i hi).2⟩
    rw [(hnum i hi).1]
    unfold smI
    refine sumC_nI (fun k hk => ?_)
    have h9 := ht k hk
    have h8 : h 10 (tn k * 12 + i) = s (8 + 25 * tn k + (13 + i)) := b4 (tn k) i (by omega) hi
    rw [q3 k hk, q7 10 (by decide) (by decide) (by decide), n8 10 (by decide) (by decide), h8, hq k hk, hsh k i hk hi, pk_mul]
  obtain ⟨x1, x2, x3⟩ := mixH_is h0T hT hsm (fun k hk => by have := ht k hk; omega) hsum
  have o : ∀ q, q ≠ 2 → q ≠ 4 → q ≠ 6 → q ≠ 8 → q ≠ 10 → q ≠ 250 → mixH (hQ (entH h nL (nI T) (nI P) gen (-1)) tn tl tq nL P) tn P nL (nI T) q = h q := fun q z1 z2 z3 z4 z5 z6 => by
    rw [x3 q z5 z6, q7 q z2 z3 z4, n8 q z1 z2]
  have o2 : ∀ j, j ≠ 5 → mixH (hQ (entH h nL (nI T) (nI P) gen (-1)) tn tl tq nL P) tn P nL (nI T) 2 j = h 2 j := fun j hj => by
    rw [x3 2 (by decide) (by decide), q7 2 (by decide) (by decide) (by decide), n7 j hj]
  refine ⟨⟨?_, ?_, ?_, ?_, ?_⟩, fun k j hk hj => ?_, fun k j hk hj => ?_, fun k j hk hj => ?_, fun k j hk hj => ?_, fun k j hk hj => ?_, fun k j hk hj => ?_, fun c hc => ?_, fun c b hc hb => ?_, fun c b hc hb => ?_, fun j hj => ?_⟩
  · show mixH _ _ _ _ _ 2 5 = _
    rw [x3 2 (by decide) (by decide), q7 2 (by decide) (by decide) (by decide), n6, h0]
  · show mixH _ _ _ _ _ 2 6 = _
    rw [o2 6 (by decide), e 1 (by omega) (by omega) (by omega) (fun k _ => by omega)]; exact a2
  · show mixH _ _ _ _ _ 13 1 = _
    rw [o 13 (by decide) (by decide) (by decide) (by decide) (by decide) (by decide), e 2 (by omega) (by omega) (by omega) (fun k _ => by omega)]; exact a3
  · show mixH _ _ _ _ _ 16 3 = _
    rw [o 16 (by decide) (by decide) (by decide) (by decide) (by decide) (by decide), e 3 (by omega) (by omega) (by omega) (fun k _ => by omega)]; exact a4
  · show mixH _ _ _ _ _ 2 7 = _
    rw [o2 7 (by decide), e 4 (by omega) (by omega) (by omega) (fun k _ => by omega)]; exact a5
  · show mixH _ _ _ _ _ 4 _ = _
    rw [x3 4 (by decide) (by decide)]
    by_cases c : k = nL
    · subst c
      rw [q6 _ (fun m hm => by have := ht m hm; omega)]
      rcases (show j = 0 ∨ j = 1 ∨ j = 2 ∨ j = 3 ∨ j = 4 by omega) with rfl | rfl | rfl | rfl | rfl
      · exact n0.trans l0.symm
      · exact n1.trans l1.symm
      · exact n2.trans l2.symm
      · exact n3.trans l3.symm
      · exact n4.trans l4.symm
    · by_cases c2 : ∃ m, m < P ∧ k * 5 + j = tn m * 5 + 1
      · obtain ⟨m, m1, m2⟩ := c2
        have ek : tn m = k := by omega
        have ej : j = 1 := by omega
        have h9 := ht m m1
        have h8 : h 4 (tn m * 5 + 1) = s (8 + 25 * tn m + 1) := b1 (tn m) 1 (by omega) (by decide)
        rw [m2, q5 m m1, n5 _ (by omega), ej, ← ek, lq m m1, h8]
      · rw [q6 _ (fun m hm q => c2 ⟨m, hm, q⟩), n5 _ (by omega), e _ (by omega) (by omega) (by omega) (fun m hm q => c2 ⟨m, hm, by omega⟩)]
        exact b1 k j hk hj
  · show mixH _ _ _ _ _ 6 _ = _
    rw [x3 6 (by decide) (by decide)]
    by_cases c : k = nL
    · subst c
      by_cases c2 : j < P
      · rw [q1 j c2, l5 j c2]
      · rw [q2 _ (fun m hm => by omega), n8 6 (by decide) (by decide), l5z j (by omega) hj]
        exact (b2 k j hk hj).trans (sz (5 + j) (by omega))
    · rw [q2 _ (fun m hm => by omega), n8 6 (by decide) (by decide), e _ (by omega) (by omega) (by omega) (fun m hm => by omega)]
      exact b2 k j hk hj
  · show mixH _ _ _ _ _ 8 _ = _
    rw [x3 8 (by decide) (by decide)]
    by_cases c : k = nL
    · subst c
      by_cases c2 : j < P
      · rw [q3 j c2, l9 j c2]
      · rw [q4 _ (fun m hm => by omega), n8 8 (by decide) (by decide), l9z j (by omega) hj]
        exact (b3 k j hk hj).trans (sz (9 + j) (by omega))
    · rw [q4 _ (fun m hm => by omega), n8 8 (by decide) (by decide), e _ (by omega) (by omega) (by omega) (fun m hm => by omega)]
      exact b3 k j hk hj
  · show mixH _ _ _ _ _ 10 _ = _
    by_cases c : k = nL
    · subst c
      rw [x2 j hj, l13 j hj]
    · rw [x1 _ (fun m hm => by omega), q7 10 (by decide) (by decide) (by decide), n8 10 (by decide) (by decide), e _ (by omega) (by omega) (by omega) (fun m hm => by omega)]
      exact b4 k j hk hj
  · show mixH _ _ _ _ _ 12 _ = _
    rw [o 12 (by decide) (by decide) (by decide) (by decide) (by decide) (by decide), e _ (by omega) (by omega) (by omega) (fun m hm => by have := ht m hm; omega)]; exact b5 k j hk hj
  · show mixH _ _ _ _ _ 15 _ = _
    rw [o 15 (by decide) (by decide) (by decide) (by decide) (by decide) (by decide), e _ (by omega) (by omega) (by omega) (fun m hm => by have := ht m hm; omega)]; exact b6 k j hk hj
  · show mixH _ _ _ _ _ 18 _ = _
    rw [o 18 (by decide) (by decide) (by decide) (by decide) (by decide) (by decide), e _ (by omega) (by omega) (by omega) (fun m hm => by have := ht m hm; omega)]; exact b7 c hc
  · show mixH _ _ _ _ _ 20 _ = _
    rw [o 20 (by decide) (by decide) (by decide) (by decide) (by decide) (by decide), e _ (by omega) (by omega) (by omega) (fun m hm => by have := ht m hm; omega)]; exact b8 c b hc hb
  · show mixH _ _ _ _ _ 22 _ = _
    rw [o 22 (by decide) (by decide) (by decide) (by decide) (by decide) (by decide), e _ (by omega) (by omega) (by omega) (fun m hm => by have := ht m hm; omega)]; exact b9 c b hc hb
  · show mixH _ _ _ _ _ 24 _ = _
    rw [o 24 (by decide) (by decide) (by decide) (by decide) (by decide) (by decide), e _ (by omega) (by omega) (by omega) (fun m hm => by omega)]; exact b10 j hj
/-- the model's lots behind a blend, ahead of the shares -/
theorem bm2_is {g : HP} {nL P : Nat} {tn : Nat → Nat} (hP : P ≤ 4) (hd : ∀ a b, a < P → b < a → tn b ≠ tn a) (ht : ∀ k, k < P → tn k < nL) :
    bm2 g tn P nL 254 0 = nI (nL + 1) ∧ bm2 g tn P nL 254 (8 + 25 * nL + 0) = bmT g P ∧ bm2 g tn P nL 254 (8 + 25 * nL + 1) = bmT g P ∧ bm2 g tn P nL 254 (8 + 25 * nL + 2) = nI P ∧ bm2 g tn P nL 254 (8 + 25 * nL + 3) = maxF (fun k => mL g (tn k) 3) P + 1 ∧ bm2 g tn P nL 254 (8 + 25 * nL + 4) = -1 ∧
    (∀ j, j < P → bm2 g tn P nL 254 (8 + 25 * nL + (5 + j)) = g 258 j) ∧ (∀ j, P ≤ j → j < 4 → bm2 g tn P nL 254 (8 + 25 * nL + (5 + j)) = 0) ∧ (∀ j, j < P → bm2 g tn P nL 254 (8 + 25 * nL + (9 + j)) = g 259 j) ∧ (∀ j, P ≤ j → j < 4 → bm2 g tn P nL 254 (8 + 25 * nL + (9 + j)) = 0) ∧ (∀ j, j < 12 → bm2 g tn P nL 254 (8 + 25 * nL + (13 + j)) = 0) ∧
    (∀ k, k < P → bm2 g tn P nL 254 (8 + 25 * tn k + 1) = g 254 (8 + 25 * tn k + 1) - g 259 k) ∧ (∀ i, i ≠ 0 → (i < 8 + 25 * nL ∨ 8 + 25 * nL + 25 ≤ i) → (∀ k, k < P → i ≠ 8 + 25 * tn k + 1) → bm2 g tn P nL 254 i = g 254 i) ∧ ∀ q, q ≠ 254 → bm2 g tn P nL q = g q := by
  obtain ⟨u1, u2⟩ := qmH_row (g := g) hd P (Nat.le_refl _)
  have eG : maxF (fun k => mL (qmH g tn P) (tn k) 3) P = maxF (fun k => mL g (tn k) 3) P := maxF_c (fun k hk => u2 (8 + 25 * tn k + 3) (fun j hj => by omega))
  have row : ∀ i, (sL (bm1 g tn P nL) nL 2 (nI P)) 254 i = if i = 8 + 25 * nL + 2 then nI P else if i = 0 then nI (nL + 1) else if i = 8 + 25 * nL + 4 then -1 else if i = 8 + 25 * nL + 3 then maxF (fun k => mL g (tn k) 3) P + 1 else if i = 8 + 25 * nL + 1 then bmT g P else if i = 8 + 25 * nL + 0 then bmT g P else
      if 8 + 25 * nL ≤ i ∧ i < 8 + 25 * nL + 25 then 0 else qmH g tn P 254 i := fun i => by
    unfold sL bm1
    rw [hput_u, eG]
    unfold upR
    rw [coH_row]
  have o : ∀ q, q ≠ 254 → (sL (bm1 g tn P nL) nL 2 (nI P)) q = g q := fun q hq => by
    unfold sL bm1
    rw [hput_ne _ _ _ hq, coH_o _ _ _ _ _ hq, qmH_o g tn hq]
  obtain ⟨p1, p2, p3⟩ := pmH_row (g := sL (bm1 g tn P nL) nL 2 (nI P)) (lot := nL) P hP
  unfold bm2
  refine ⟨?_, ?_, ?_, ?_, ?_, ?_, fun j hj => ?_, fun j h1 h2 => ?_, fun j hj => ?_, fun j h1 h2 => ?_, fun j hj => ?_, fun k hk => ?_, fun i h1 h2 h3 => ?_, fun q hq => ?_⟩
  · rw [p3 _ (fun j hj => by omega), row, if_neg (by omega), if_pos rfl]
  · rw [p3 _ (fun j hj => by omega), row, if_neg (by omega), if_neg (by omega), if_neg (by omega), if_neg (by omega), if_neg (by omega), if_pos rfl]
  · rw [p3 _ (fun j hj => by omega), row, if_neg (by omega), if_neg (by omega), if_neg (by omega), if_neg (by omega), if_pos rfl]
  · rw [p3 _ (fun j hj => by omega), row, if_pos rfl]
  · rw [p3 _ (fun j hj => by omega), row, if_neg (by omega), if_neg (by omega), if_neg (by omega), if_pos rfl]
  · rw [p3 _ (fun j hj => by omega), row, if_neg (by omega), if_neg (by omega), if_pos rfl]
  · rw [p1 j hj, o 258 (by decide)]
  · rw [p3 _ (fun j hj => by omega), row, if_neg (by omega), if_neg (by omega), if_neg (by omega), if_neg (by omega), if_neg (by omega), if_neg (by omega), if_pos (by omega)]
  · rw [p2 j hj, o 259 (by decide)]
  · rw [p3 _ (fun j hj => by omega), row, if_neg (by omega), if_neg (by omega), if_neg (by omega), if_neg (by omega), if_neg (by omega), if_neg (by omega), if_pos (by omega)]
  · rw [p3 _ (fun j hj => by omega), row, if_neg (by omega), if_neg (by omega), if_neg (by omega), if_neg (by omega), if_neg (by omega), if_neg (by omega), if_pos (by omega)]
  · have h9 := ht k hk
    rw [p3 _ (fun j hj => by omega), row, if_neg (by omega), if_neg (by omega), if_neg (by omega), if_neg (by omega), if_neg (by omega), if_neg (by omega), if_neg (by omega)]
    exact u1 k hk
  · rw [p3 _ (fun j hj => by omega), row, if_neg (by omega), if_neg h1, if_neg (by omega), if_neg (by omega), if_neg (by omega), if_neg (by omega), if_neg (by omega)]
    exact u2 i h3
  · rw [pmH_o _ _ hq]; exact o q hq
theorem HisOk.c {h h' : HP} {k c : Nat} (i : HisOk h k c) (e1 : ∀ q, 49 ≤ q → q ≤ 242 → h' q = h q) (e3 : h' 255 = h 255) : HisOk h' k c := fun j hj => by
  rw [e3]
  have hm : (k + 8 - c + j) % 8 < 8 := Nat.mod_lt _ (by decide)
  exact ⟨(i j hj).1.congr (fun o h1 h2 => e1 _ (by omega) (by omega)) (fun _ _ => rfl), (i j hj).2⟩
/-- all that is kept, behind a blend -/
theorem INV_bl {h h2 : HP} {k c : Nat} (hk8 : k < 8) (hc8 : c ≤ 8) (hn : Rep h 1 (h 254) ∧ Inv (h 254)) (hS : InvS h) (hh : HisOk h k c) (hRe : InvR h) (h9 : h 0 9 = h 253 7) (n : Rep h2 1 (h2 254) ∧ Inv (h2 254)) (e1 : ∀ q, 25 ≤ q → q ≤ 48 → h2 q = h q) (e2 : ∀ q, 49 ≤ q → q ≤ 242 → h2 q = remH h 1 k c q)
    (e3 : h2 0 = h 0) (e4 : h2 253 4 = h 253 4) (e5 : h2 253 6 = h 253 6) (e6 : h2 253 7 = h 253 7) (e7 : h2 256 = h 256) (e8 : h2 253 2 = nI (min (c + 1) 8)) (e9 : ∀ i j, i < min (c + 1) 8 → j < 1032 → h2 255 (1032 * i + j) = if i + 1 = min (c + 1) 8 then h 254 j else h 255 (1032 * (if c < 8 then i else i + 1) + j))
    (e10 : h2 243 2 = 0) (e11 : h2 253 9 = 0) : INV h2 :=
  ⟨n, InvS_c hS e1 (by rw [e3]) e4 e7, InvH_rem hk8 hc8 hh hn e2 e8 e9, ⟨0, by decide, e10, e11, fun i hi => absurd hi (Nat.not_lt_zero _)⟩, InvR_c hRe (by rw [e3]) e5, by rw [e3, e6]; exact h9⟩
theorem mixH_o {h : HP} {pk : Nat → Nat} {P lot : Nat} {T : Int32} {q : Nat} (h1 : q ≠ 10) (h2 : q ≠ 250) : mixH h pk P lot T q = h q := by
  unfold mixH
  rw [hN_o _ _ _ h1 12]
  funext j
  exact hM_o _ _ _ _ _ 12 q j h1 h2
