/-! BOTH SIDES TOGETHER: labels and bottling -/
theorem al_eq {h : HP} (hR : Rep h 1 (h 254)) {lot w nH : Nat} (hlot : lot < 24) (hw : w < 3) (hH : nH ≤ 12) (z : Int32) : alB h lot w nH z = !decide (¬ z = -1 ∧ shM h lot w nH z < h 254 (5 + w)) := by
  unfold alB
  rw [shS_eq hR hlot hw hH, hR.la hw]
  by_cases a : z = -1
  · rw [decide_eq_true a, decide_eq_false (show ¬ (¬ z = -1 ∧ shM h lot w nH z < h 254 (5 + w)) from fun q => q.1 a)]; rfl
  · by_cases b : shM h lot w nH z < h 254 (5 + w)
    · rw [decide_eq_false a, decide_eq_false (Int32.not_le.mpr b), decide_eq_true ⟨a, b⟩]; rfl
    · rw [decide_eq_false a, decide_eq_true (Int32.not_lt.mp b), decide_eq_false (fun q => b q.2)]; rfl
theorem lrG_eq {h : HP} (hR : Rep h 1 (h 254)) (hi : Inv (h 254)) {lot nH : Nat} (hlot : lot < 24) (hH : nH ≤ 12) {g s : Int32} (e5 : s = -1 ∨ ¬ g = -1) : lrG h lot nH g s = agM h lot nH g s := by
  unfold lrG agM agX gsF
  by_cases a : s = -1
  · rw [if_pos a, al_eq hR hlot (by decide) hH, if_pos a, decide_eq_true a, Bool.true_or, Bool.and_true, Int32.add_zero]
    by_cases b : g = -1
    · have l1 := hi.2.1 1 (by decide)
      rw [if_pos b, decide_eq_false (fun q => q.1 b)]
      have : h 254 6 ≤ 1000 := by
        rw [show h 254 6 = nI (nv (h 254 6)) from l1.1]
        exact nI_le l1.2 (by decide)
      rw [decide_eq_true this]; rfl
    · rw [if_neg b]
      by_cases c : shM h lot 1 nH g < h 254 6
      · rw [decide_eq_true ⟨b, c⟩, decide_eq_false (Int32.not_le.mpr c)]; rfl
      · rw [decide_eq_false (fun q => c q.2), decide_eq_true (Int32.not_lt.mp c)]; rfl
  · have b : ¬ g = -1 := by
      rcases e5 with q | q
      · exact absurd q a
      · exact q
    rw [if_neg a, if_neg b, if_neg a, decide_eq_false a, Bool.false_or]
    unfold agB
    rw [shS_eq hR hlot (by decide) hH, shS_eq hR hlot (by decide) hH, hR.la (show 1 < 3 by decide)]
    by_cases d : shM h lot 1 nH s = 0
    · rw [decide_eq_true d, decide_eq_false (show ¬ ¬ (shM h lot 1 nH s = 0) from fun q => q d)]
      simp
    · rw [decide_eq_false d, decide_eq_true d]
      simp [Bool.and_comm]
theorem lr_eq {h : HP} (hR : Rep h 1 (h 254)) (hi : Inv (h 254)) {lot nH : Nat} (hlot : lot < 24) (hH : nH ≤ 12) {v g s r : Int32} (e5 : s = -1 ∨ ¬ g = -1) : lrI h lot nH v g s r = fbM h lot nH v g s r := by
  unfold lrI fbM
  rw [lrG_eq hR hi hlot hH e5, al_eq hR hlot (by decide) hH, al_eq hR hlot (by decide) hH]
  by_cases a : ¬ v = -1 ∧ shM h lot 0 nH v < h 254 (5 + 0)
  · rw [decide_eq_true a, if_pos a]; rfl
  · rw [decide_eq_false a, if_neg a]
    cases agM h lot nH g s with
    | false => rfl
    | true =>
      by_cases b : ¬ r = -1 ∧ shM h lot 2 nH r < h 254 (5 + 2)
      · rw [decide_eq_true b, if_neg (show ¬ (true = false) by decide), if_pos b]; rfl
      · rw [decide_eq_false b, if_neg (show ¬ (true = false) by decide), if_neg b]; rfl
theorem fb_is {h : HP} {lot nH : Nat} {v g s r : Int32} : fbM h lot nH v g s r = 0 ∨ (¬ fbM h lot nH v g s r = 0 ∧ ¬ fbM h lot nH v g s r = -1) := by
  unfold fbM
  split
  · exact Or.inr ⟨by decide, by decide⟩
  · split
    · exact Or.inr ⟨by decide, by decide⟩
    · split
      · exact Or.inr ⟨by decide, by decide⟩
      · exact Or.inl rfl
theorem lb_ok {v g s r : Int32} (e1 : wiB v (-1) 99 = true) (e2 : wiB g (-1) 4 = true) (e3 : wiB s (-1) 4 = true) (e4 : wiB r (-1) 3 = true) (e5 : s = -1 ∨ (¬ g = -1 ∧ ¬ g = s)) : lbB v g s r = true := by
  unfold lbB
  rw [e1, e2, e3, e4]
  rcases e5 with q | ⟨q1, q2⟩
  · rw [decide_eq_true q]; rfl
  · rw [decide_eq_false q1, decide_eq_false q2]; simp
theorem lb_no {v g s r : Int32} (e5 : ¬ (s = -1 ∨ (¬ g = -1 ∧ ¬ g = s))) : lbB v g s r = false := by
  unfold lbB
  have a : ¬ s = -1 := fun q => e5 (Or.inl q)
  rw [decide_eq_false a]
  by_cases b : g = -1
  · rw [decide_eq_true b]; simp
  · rw [decide_eq_true (Classical.not_not.mp (fun q => e5 (Or.inr ⟨b, q⟩)))]; simp
/-- a refusal, told on both sides -/
theorem INV_ref {h : HP} {w : Int32} (hI : INV h) (w1 : ¬ w = -1) (w0 : ¬ w = 0) : INV (faH (hput (hput (hput h 0 8 w) 253 5 0) 253 6 w) 3) := by
  obtain ⟨hn, hS, hH, hIn, hRe, h9⟩ := hI
  have e : ∀ q, q ≠ 0 → q ≠ 253 → faH (hput (hput (hput h 0 8 w) 253 5 0) 253 6 w) 3 q = h q := fun q h1 h2 => by
    rw [faH, hput_ne _ _ _ h2, hput_ne _ _ _ h2, hput_ne _ _ _ h2, hput_ne _ _ _ h1]
  have e0 : ∀ j, j ≠ 8 → faH (hput (hput (hput h 0 8 w) 253 5 0) 253 6 w) 3 0 j = h 0 j := fun j hj => by
    rw [faH, hput_ne _ _ _ (by decide), hput_ne _ _ _ (by decide), hput_ne _ _ _ (by decide), hput_k _ _ _ hj]
  have em : ∀ j, j ≠ 5 → j ≠ 6 → faH (hput (hput (hput h 0 8 w) 253 5 0) 253 6 w) 3 253 j = h 253 j := fun j h1 h2 => by
    rw [faH, hput_k _ _ _ h1, hput_k _ _ _ h2, hput_k _ _ _ h1, hput_ne _ _ _ (by decide)]
  refine ⟨now_c hn (fun q h1 h2 => e q (by omega) (by omega)) (e 254 (by omega) (by omega)), InvS_c hS (fun q h1 h2 => e q (by omega) (by omega)) (e0 7 (by decide)) (em 4 (by decide) (by decide)) (e 256 (by omega) (by omega)),
    InvH_c hH (fun q h1 h2 => e q (by omega) (by omega)) (em 2 (by decide) (by decide)) (e 255 (by omega) (by omega)), InvI_c hIn (by rw [e 243 (by omega) (by omega)]) (em 9 (by decide) (by decide)) (e 244 (by omega) (by omega)) (e 257 (by omega) (by omega)),
    Or.inr ⟨?_, ?_, ?_⟩, by rw [e0 9 (by decide), em 7 (by decide) (by decide)]; exact h9⟩
  · rw [faH, hput_ne _ _ _ (by decide), hput_ne _ _ _ (by decide), hput_ne _ _ _ (by decide), hput_at, hput_k _ _ _ (by decide), hput_at]
  · rw [faH, hput_ne _ _ _ (by decide), hput_ne _ _ _ (by decide), hput_ne _ _ _ (by decide), hput_at]; exact w1
  · rw [faH, hput_k _ _ _ (by decide), hput_at]; exact w0
theorem nHd_0 {s : Nat → Int32} {b : Nat} (m : Nat) (h : ∀ c, c < m → s (776 + 16 * c + b) = 0) : nHd s b m = 0 := by
  induction m with
  | zero => rfl
  | succ m ih => rw [nHd, ih (fun c hc => h c (by omega)), h m (by omega)]; rfl
theorem Inv.addBot {s s' : Nat → Int32} (i : Inv s) {nB lot q : Nat} (hB : nv (s 2) = nB) (hn : nB < 16) (hlot : lot < nv (s 0)) (hq : q ≤ 3333) (b2 : s' 2 = nI (nB + 1)) (c0 : s' (656 + 7 * nB + 0) = nI lot) (c1 : s' (656 + 7 * nB + 1) = nI q) (c2 : s' (656 + 7 * nB + 2) = nI q)
    (c5 : ¬ s' (656 + 7 * nB + 5) = -1 → ¬ s' (656 + 7 * nB + 4) = -1) (e : ∀ j, j < 1032 → j ≠ 2 → (j < 656 + 7 * nB ∨ 656 + 7 * nB + 7 ≤ j) → s' j = s j) : Inv s' := by
  subst hB
  have lo : ∀ j, j < 656 → j ≠ 2 → s' j = s j := fun j h1 h2 => e j (by omega) h2 (by omega)
  have up : ∀ j, 768 ≤ j → j < 1032 → s' j = s j := fun j h1 h2 => e j h2 (by omega) (by omega)
  have hhv : ∀ k, k < 24 → hvB s' k = hvB s k := fun k hk => by unfold hvB; rw [lo _ (by omega) (by omega)]
  have hcn : ∀ k, k ≤ 24 → cntB (hvB s') k = cntB (hvB s) k := fun k hk => cntB_c (fun j hj => hhv j (by omega))
  obtain ⟨⟨a1, a2, a3, a4⟩, d1, d2, d3, d4, d5, d6, d7, d8, d9, d10⟩ := i
  have f0 := lo 0 (by omega) (by omega)
  have f1 := lo 1 (by omega) (by omega)
  have f3 := lo 3 (by omega) (by omega)
  have h24 := a1.2
  have n2 : nv (s' 2) = nv (s 2) + 1 := by rw [b2]; exact nv_nI (by omega)
  refine ⟨⟨by rw [f0]; exact a1, by rw [f1]; exact a2, by rw [b2]; exact bd_nI (by omega) (by decide), by rw [f3]; exact a4⟩, fun j hj => by rw [lo _ (by omega) (by omega)]; exact d1 j hj, fun k hk => ?_, fun k j hk h2 hj => ?_, by rw [f0, f1, hcn _ h24]; exact d4, fun b hb => ?_, fun b j hb h2 hj => ?_,
    fun c hc => by rw [up _ (by omega) (by omega)]; exact d7 c hc, fun c b hc hb => by rw [up _ (by omega) (by omega), up _ (by omega) (by omega)]; exact d8 c b hc hb,
    fun c b hc hb hq => by rw [n2, f3] at hq; rw [up _ (by omega) (by omega), up _ (by omega) (by omega)]; exact d9 c b hc hb (by omega), fun c hq hc => by rw [f3] at hq; rw [up _ (by omega) (by omega)]; exact d10 c hq hc⟩
  · rw [f0] at hk
    have h12 := a2.2
    have := cntB_le (hvB s) k
    refine (d2 k hk).congr (fun i j hi hj _ => lo _ (by omega) (by omega)) (by rw [lo _ (by omega) (by omega)]; exact (d2 k hk).2.1) (by rw [f1]; exact Nat.le_refl _) (by omega) (fun hq => lo _ ?_ (by omega))
    have h3 : cntB (hvB s) (k + 1) ≤ cntB (hvB s) (nv (s 0)) := cnt_mono hk
    rw [cntB, hq] at h3
    have h5 : (if true = true then 1 else 0) = 1 := rfl
    omega
  · rw [f0] at hk
    rw [lo _ (by omega) (by omega)]; exact d3 k j hk h2 hj
  · rw [n2] at hb
    rcases Nat.lt_succ_iff_lt_or_eq.mp hb with r | r
    · obtain ⟨⟨k1, k2⟩, k3, k4, k5, k6⟩ := d5 b r
      have eb : ∀ j, j < 7 → s' (656 + 7 * b + j) = s (656 + 7 * b + j) := fun j hj => e _ (by omega) (by omega) (by omega)
      refine ⟨⟨by rw [eb 0 (by omega)]; exact k1, by rw [eb 0 (by omega), f0]; exact k2⟩, by rw [eb 1 (by omega)]; exact k3, by rw [eb 2 (by omega)]; exact k4, by rw [eb 5 (by omega), eb 4 (by omega)]; exact k5, ?_⟩
      rw [nHd_c (fun c hc => up _ (by omega) (by omega)), eb 1 (by omega), eb 2 (by omega)]; exact k6
    · subst r
      refine ⟨⟨by rw [c0]; exact bd_nI (by omega) (by decide), by rw [c0, nv_nI (by omega), f0]; exact hlot⟩, by rw [c1]; exact bd_nI hq (by decide), by rw [c2]; exact bd_nI hq (by decide), c5, ?_⟩
      rw [nHd_0 8 (fun c hc => by rw [up _ (by omega) (by omega)]; exact (d9 c _ hc hn (Or.inr (Nat.le_refl _))).1), c1, c2, Nat.zero_add]
  · rw [n2] at hb
    rw [e _ (by omega) (by omega) (by omega)]; exact d6 b j (by omega) h2 hj
section JG
variable {l : Launch} {G : GC} {ad : Nat → Nat}
theorem jp_forbids (hfl : l.stackTraces = false) : J_forbids l G ad INV := by
  intro h x0 x1 x2 x3 x4 hI
  have hR := hI.1.1
  have hi := hI.1.2
  have hw := hi.WF hR
  have h24 : nLF (h 254) ≤ 24 := hi.1.1.2
  have h12 : nHF (h 254) ≤ 12 := hi.1.2.1.2
  have hm : ∀ z, MW (hput h 263 0 z) _ _ _ _ _ _ _ := fun z => MW_o hi.MW (hput_ne h 0 z (by decide))
  cases e0 : wiB x0 0 (h 2 5 - 1) with
  | false => exact ⟨1, 0, h, _, sp_L_forbids_x1 (sp_X7_forbids_no1 hfl e0), sp_X8_forbids_no1 (by rw [← hR.c0]; exact e0), rfl, fun q => absurd q (by decide), hI.fa.fa⟩
  | true =>
  obtain ⟨lot, hlot, rfl⟩ := wi_of hw.1.1 (by omega) e0
  cases e1 : wiB x1 (-1) 99 with
  | false => exact ⟨2, 0, h, _, sp_L_forbids_x2 (sp_X7_forbids_no21 hfl hw hlot e1), sp_X8_forbids_no2 hi.MW hlot (by unfold lbB; rw [e1]; rfl), rfl, fun q => absurd q (by decide), hI.fa.fa⟩
  | true =>
  cases e2 : wiB x2 (-1) 4 with
  | false => exact ⟨2, 0, h, _, sp_L_forbids_x2 (sp_X7_forbids_no22 hfl hw hlot e1 e2), sp_X8_forbids_no2 hi.MW hlot (by unfold lbB; rw [e1, e2]; rfl), rfl, fun q => absurd q (by decide), hI.fa.fa⟩
  | true =>
  cases e3 : wiB x3 (-1) 4 with
  | false => exact ⟨2, 0, h, _, sp_L_forbids_x2 (sp_X7_forbids_no23 hfl hw hlot e1 e2 e3), sp_X8_forbids_no2 hi.MW hlot (by unfold lbB; rw [e1, e2, e3]; rfl), rfl, fun q => absurd q (by decide), hI.fa.fa⟩
  | true =>
  cases e4 : wiB x4 (-1) 3 with
  | false => exact ⟨2, 0, h, _, sp_L_forbids_x2 (sp_X7_forbids_no24 hfl hw hlot e1 e2 e3 e4), sp_X8_forbids_no2 hi.MW hlot (by unfold lbB; rw [e1, e2, e3, e4]; rfl), rfl, fun q => absurd q (by decide), hI.fa.fa⟩
  | true =>
  by_cases e5 : x3 = -1 ∨ (¬ x2 = -1 ∧ ¬ x2 = x3)
  · exact ⟨0, _, _, _, sp_L_forbids_ok (sp_X7_forbids_ok hfl hw hlot e1 e2 e3 e4 e5), sp_X8_forbids_ok (hm _) hlot (lb_ok e1 e2 e3 e4 e5), rfl, fun _ => lr_eq hR hi (by omega) h12 (e5.imp id And.left), hI.o3.fa⟩
  · exact ⟨2, 0, h, _, sp_L_forbids_x2 (sp_X7_forbids_no25 hfl hw hlot e1 e2 e3 e4 e5), sp_X8_forbids_no2 hi.MW hlot (lb_no e5), rfl, fun q => absurd q (by decide), hI.fa.fa⟩
theorem jp_bottle (hfl : l.stackTraces = false) : J_bottle l G ad INV := by
  intro h x0 x1 x2 x3 x4 x5 hI
  obtain ⟨k, c, ⟨hk, hk8⟩, ⟨hc, hc8⟩, t3, hh⟩ := hI.2.2.1
  have hR := hI.1.1
  have hi := hI.1.2
  have hw := hi.WF hR
  have h24 : nLF (h 254) ≤ 24 := hi.1.1.2
  have h12 : nHF (h 254) ≤ 12 := hi.1.2.1.2
  have h16 : nBF (h 254) ≤ 16 := hi.1.2.2.1.2
  have ro : ∀ q, q < 49 ∨ 242 < q → remH h 1 k c q = h q := fun q hq => remH_o h 1 k c hk8 hq
  have hm : ∀ z, MW (hput h 263 0 z) _ _ _ _ _ _ _ := fun z => MW_o hi.MW (hput_ne h 0 z (by decide))
  cases e0 : wiB x0 0 (h 2 5 - 1) with
  | false => exact ⟨1, 0, h, _, sp_L_bottle_x1 (sp_X7_bottle_no1 hfl e0), sp_X8_bottle_no1 (by rw [← hR.c0]; exact e0), rfl, fun q => absurd q (by decide), hI.fa.fa⟩
  | true =>
  obtain ⟨lot, hlot, rfl⟩ := wi_of hw.1.1 (by omega) e0
  have hlot24 : lot < 24 := Nat.lt_of_lt_of_le hlot h24
  have hlot9 : lot < nv (h 254 0) := hlot
  cases e : wiB x1 1 3333 with
  | false => exact ⟨2, 0, h, _, sp_L_bottle_x2 (sp_X7_bottle_no2 hfl hw hlot e), sp_X8_bottle_no2 hi.MW hlot e, rfl, fun q => absurd q (by decide), hI.fa.fa⟩
  | true =>
  cases e1 : wiB x2 (-1) 99 with
  | false => exact ⟨2, 0, h, _, sp_L_bottle_x2 (sp_X7_bottle_no31 hfl hw hlot e e1), sp_X8_bottle_no3 hi.MW hlot e (by unfold lbB; rw [e1]; rfl), rfl, fun q => absurd q (by decide), hI.fa.fa⟩
  | true =>
  cases e2 : wiB x3 (-1) 4 with
  | false => exact ⟨2, 0, h, _, sp_L_bottle_x2 (sp_X7_bottle_no32 hfl hw hlot e e1 e2), sp_X8_bottle_no3 hi.MW hlot e (by unfold lbB; rw [e1, e2]; rfl), rfl, fun q => absurd q (by decide), hI.fa.fa⟩
  | true =>
  cases e3 : wiB x4 (-1) 4 with
  | false => exact ⟨2, 0, h, _, sp_L_bottle_x2 (sp_X7_bottle_no33 hfl hw hlot e e1 e2 e3), sp_X8_bottle_no3 hi.MW hlot e (by unfold lbB; rw [e1, e2, e3]; rfl), rfl, fun q => absurd q (by decide), hI.fa.fa⟩
  | true =>
  cases e4 : wiB x5 (-1) 3 with
  | false => exact ⟨2, 0, h, _, sp_L_bottle_x2 (sp_X7_bottle_no34 hfl hw hlot e e1 e2 e3 e4), sp_X8_bottle_no3 hi.MW hlot e (by unfold lbB; rw [e1, e2, e3, e4]; rfl), rfl, fun q => absurd q (by decide), hI.fa.fa⟩
  | true =>
  by_cases e5 : x4 = -1 ∨ (¬ x3 = -1 ∧ ¬ x3 = x4)
  case neg => exact ⟨2, 0, h, _, sp_L_bottle_x2 (sp_X7_bottle_no35 hfl hw hlot e e1 e2 e3 e4 e5), sp_X8_bottle_no3 hi.MW hlot e (lb_no e5), rfl, fun q => absurd q (by decide), hI.fa.fa⟩
  have el := lb_ok e1 e2 e3 e4 e5
  have hlr := lr_eq (v := x2) (r := x5) hR hi hlot24 h12 (e5.imp id And.left)
  have eq1 : h 4 (lot * 5 + 1) = mL h lot 1 := hR.lot hlot24 (by decide)
  have mw : ∀ w, MW (hput h 0 8 w) _ _ _ _ _ _ _ := fun w => MW_o hi.MW (hput_ne h 8 w (by decide))
  by_cases q3 : 3 * x1 ≤ mL h lot 1
  case neg =>
    have hb : brI h lot (nHF (h 254)) (nBF (h 254)) x1 x2 x3 x4 x5 = 5 := by unfold brI; rw [if_pos (by rw [eq1, Int32.mul_comm]; exact Int32.not_le.mp q3)]
    exact ⟨3, 0, _, _, sp_L_bottle_x3 (sp_X7_bottle_ref hfl hw hlot e e1 e2 e3 e4 e5 (by rw [hb]; decide)), sp_X8_bottle_ref5 (mw _) hlot e el q3, rfl, fun q => absurd q (by decide), by rw [hb]; exact INV_ref hI (by decide) (by decide)⟩
  have nlt : ¬ h 4 (lot * 5 + 1) < x1 * 3 := by rw [eq1, Int32.mul_comm]; exact Int32.not_lt.mpr q3
  rcases fb_is (h := h) (lot := lot) (nH := nHF (h 254)) (v := x2) (g := x3) (s := x4) (r := x5) with f0 | ⟨f0, f1⟩
  case inr =>
    have hb : brI h lot (nHF (h 254)) (nBF (h 254)) x1 x2 x3 x4 x5 = fbM h lot (nHF (h 254)) x2 x3 x4 x5 := by unfold brI; rw [if_neg nlt, hlr, if_neg f0]
    exact ⟨3, 0, _, _, sp_L_bottle_x3 (sp_X7_bottle_ref hfl hw hlot e e1 e2 e3 e4 e5 (by rw [hb]; exact f0)), sp_X8_bottle_refL (mw _) hlot e el q3 f0, rfl, fun q => absurd q (by decide), by rw [hb]; exact INV_ref hI f1 f0⟩
  rcases (show nBF (h 254) = 16 ∨ nBF (h 254) < 16 by omega) with b16 | b16
  · have hb : brI h lot (nHF (h 254)) (nBF (h 254)) x1 x2 x3 x4 x5 = 9 := by unfold brI; rw [if_neg nlt, hlr, if_pos f0, b16, if_neg (by decide)]
    exact ⟨3, 0, _, _, sp_L_bottle_x3 (sp_X7_bottle_ref hfl hw hlot e e1 e2 e3 e4 e5 (by rw [hb]; decide)), sp_X8_bottle_ref9 (mw _) hlot e el q3 f0 (by rw [hput_ne _ _ _ (by decide), hi.1.2.2.1.1]; exact congrArg nI b16), rfl, fun q => absurd q (by decide), by rw [hb]; exact INV_ref hI (by decide) (by decide)⟩
  have hb : brI h lot (nHF (h 254)) (nBF (h 254)) x1 x2 x3 x4 x5 = 0 := by unfold brI; rw [if_neg nlt, hlr, if_pos f0, if_pos (show nI (nBF (h 254)) < 16 from nI_lt (b := 16) b16 (by decide))]
  have f5 : ¬ h 254 2 = 16 := fun q => by
    have e8 : nI (nBF (h 254)) = nI 16 := hi.1.2.2.1.1.symm.trans q
    have := (nI_eq (by omega) (by decide)).mp e8
    omega
  obtain ⟨q, rfl, hq1, hq2⟩ := wi_bd (a := 1) (N := 3333) (by decide) (by decide) e
  obtain ⟨nB, hnB⟩ : ∃ n, n = nBF (h 254) := ⟨_, rfl⟩
  rw [← hnB] at hw b16 hb
  have a : ∀ p, p = 0 ∨ 24 < p → botH (remH h 1 k c) lot nB (nI q) x2 x3 x4 x5 p = remH h 1 k c p := fun p hp => by
    unfold botH labH filH
    rw [hput_ne _ _ _ (by omega), hput_ne _ _ _ (by omega), hput_ne _ _ _ (by omega), hput_ne _ _ _ (by omega), hput_ne _ _ _ (by omega), hput_ne _ _ _ (by omega), hput_ne _ _ _ (by omega), hput_ne _ _ _ (by omega), hput_ne _ _ _ (by omega)]
  have a254 : botH (remH h 1 k c) lot nB (nI q) x2 x3 x4 x5 254 = h 254 := by rw [a 254 (by omega), ro 254 (by omega)]
  have a253 : botH (remH h 1 k c) lot nB (nI q) x2 x3 x4 x5 253 = h 253 := by rw [a 253 (by omega), ro 253 (by omega)]
  have e9 : ∀ z, remM (hput (hput (botH (remH h 1 k c) lot nB (nI q) x2 x3 x4 x5) 263 0 z) 253 5 0) c 254 = h 254 := fun z => ch_n a254
  have l9 := (hi.2.2.1 lot hlot9).2.1
  have l92 := l9.2
  have hq3 : 3 * q ≤ nv (h 254 (8 + 25 * lot + 1)) := by
    rcases Nat.lt_or_ge (nv (h 254 (8 + 25 * lot + 1))) (3 * q) with r | r
    · have e4 : nI (3 * q) ≤ nI (nv (h 254 (8 + 25 * lot + 1))) := by rw [← l9.1, ← pk_mul]; exact q3
      exact absurd e4 (nI_ge r (by omega))
    · exact r
  have ev : h 254 (8 + 25 * lot + 1) - 3 * nI q = nI (nv (h 254 (8 + 25 * lot + 1)) - 3 * q) := by
    rw [l9.1, show (3 : Int32) * nI q = nI (3 * q) from pk_mul 3 q]; rw [nv_nI (by omega)]; exact pk_sub hq3
  have mwB : ∀ z, MW (hput (botH (remH h 1 k c) lot nB (nI q) x2 x3 x4 x5) 263 0 z) _ _ _ _ _ _ _ := fun z => MW_o hi.MW (by rw [hput_ne _ _ _ (by decide), a254])
  have row : ∀ z, ∀ i, btM (remM (hput (hput (botH (remH h 1 k c) lot nB (nI q) x2 x3 x4 x5) 263 0 z) 253 5 0) c) lot nB (nI q) x2 x3 x4 x5 254 i =
      if i = 8 + 25 * lot + 1 then nI (nv (h 254 (8 + 25 * lot + 1)) - 3 * q) else if i = 656 + 7 * nB + 6 then x5 else if i = 656 + 7 * nB + 5 then x4 else if i = 656 + 7 * nB + 4 then x3 else if i = 656 + 7 * nB + 3 then x2 else if i = 656 + 7 * nB + 2 then nI q else if i = 656 + 7 * nB + 1 then nI q else
      if i = 656 + 7 * nB + 0 then nI lot else if i = 2 then nI (nB + 1) else h 254 i := fun z i => by
    have m1 : mL (bt1 (remM (hput (hput (botH (remH h 1 k c) lot nB (nI q) x2 x3 x4 x5) 263 0 z) 253 5 0) c) lot nB (nI q) x2 x3 x4 x5) lot 1 = h 254 (8 + 25 * lot + 1) := by
      unfold mL bt1 sB bt0
      rw [hput_k _ _ _ (by omega), hput_k _ _ _ (by omega), hput_k _ _ _ (by omega), hput_k _ _ _ (by omega), hput_k _ _ _ (by omega), hput_k _ _ _ (by omega), hput_k _ _ _ (by omega), hput_k _ _ _ (by omega), e9]
    unfold btM
    rw [m1, ev]
    unfold sL bt1 sB bt0
    rw [hput_u, hput_u, hput_u, hput_u, hput_u, hput_u, hput_u, hput_u, hput_u, e9]
    rfl
  have fbc : ∀ z, fbM (hput (botH (remH h 1 k c) lot nB (nI q) x2 x3 x4 x5) 263 0 z) lot (nHF (h 254)) x2 x3 x4 x5 = 0 := fun z => by
    have e254 : hput (botH (remH h 1 k c) lot nB (nI q) x2 x3 x4 x5) 263 0 z 254 = h 254 := by rw [hput_ne _ _ _ (by decide), a254]
    unfold fbM agM gsF shM mHv mL at f0 ⊢
    rw [e254]; exact f0
  refine ⟨0, _, _, _, sp_L_bottle_ok (sp_X7_bottle_ok hfl hw hlot hk hk8 hc hc8 e e1 e2 e3 e4 e5 hb b16), sp_X8_bottle_ok (nB3 := nB) (mwB _) hlot e el (by unfold mL; rw [hput_ne _ _ _ (by decide), a254]; exact q3) (fbc _) (by rw [hput_ne _ _ _ (by decide), a254]; exact f5) (sp_X8_rem (ch_2 (h := h) a253 t3) hc8) (by rw [e9, hi.1.2.2.1.1, hnB]) b16,
    ch_end (h1 := botH (remH h 1 k c) lot nB (nI q) x2 x3 x4 x5) (z := nI nB) hI hk8 hc8 hh ?_ ?_ ?_ rfl⟩
  · intro p hp; exact a p (by omega)
  · intro p hp
    unfold btM sL bt1 sB bt0
    rw [hput_ne _ _ _ hp, hput_ne _ _ _ hp, hput_ne _ _ _ hp, hput_ne _ _ _ hp, hput_ne _ _ _ hp, hput_ne _ _ _ hp, hput_ne _ _ _ hp, hput_ne _ _ _ hp, hput_ne _ _ _ hp]
  · have i1 : Inv (upR (h 254) (8 + 25 * lot + 1) (nI (nv (h 254 (8 + 25 * lot + 1)) - 3 * q))) := hi.qty (fun j hj h4 hk => upR_ne _ _ (hk lot hlot24)) (fun a ha => by
      by_cases r : a = lot
      · subst r
        rw [upR_at]
        exact ⟨bd_nI (by omega) (by decide), fun r => absurd hlot9 (by omega)⟩
      · rw [upR_ne _ _ (by omega)]
        rcases Nat.lt_or_ge a (nv (h 254 0)) with t | t
        · exact ⟨(hi.2.2.1 a t).2.1, fun r => absurd t (by omega)⟩
        · have z0 := hi.2.2.2.1 a 1 t ha (by decide)
          rw [z0]; exact ⟨bd_0 _, fun _ => rfl⟩)
    refine ⟨?_, i1.addBot (nB := nB) (lot := lot) (q := q) (by rw [upR_ne _ _ (by omega)]; exact hnB.symm) b16 (by rw [upR_ne _ _ (by omega)]; exact hlot9) hq2 ?_ ?_ ?_ ?_ ?_ (fun j h1 h2 h3 => ?_)⟩
    · have r := (((((((((hR.rem (c := c) hk8).ub1 hlot24 (show 1 < 5 by decide) (nI (nv (h 254 (8 + 25 * lot + 1)) - 3 * q))).ub6 b16 (show 0 < 7 by decide) (nI lot)).ub6 b16 (show 1 < 7 by decide) (nI q)).ub6 b16 (show 2 < 7 by decide) (nI q)).ua3 (nI (nB + 1))).ub6 b16 (show 3 < 7 by decide) x2).ub6 b16 (show 4 < 7 by decide) x3).ub6 b16 (show 5 < 7 by decide) x4).ub6 b16 (show 6 < 7 by decide) x5
      have eh : remH h 1 k c 4 (lot * 5 + 1) + (-(nI q * 3)) = nI (nv (h 254 (8 + 25 * lot + 1)) - 3 * q) := by
        rw [ro 4 (by omega), eq1, ← Int32.sub_eq_add_neg, Int32.mul_comm]; exact ev
      unfold botH
      rw [eh]
      refine r.congr (fun _ _ _ => rfl) (fun i hi2 => ?_)
      have row2 := row (nI nB) i
      unfold botH at row2
      rw [eh] at row2
      rw [row2]
      rcases (show i = 8 + 25 * lot + 1 ∨ i = 656 + 7 * nB + 6 ∨ i = 656 + 7 * nB + 5 ∨ i = 656 + 7 * nB + 4 ∨ i = 656 + 7 * nB + 3 ∨ i = 656 + 7 * nB + 2 ∨ i = 656 + 7 * nB + 1 ∨ i = 656 + 7 * nB + 0 ∨ i = 2 ∨ (i ≠ 8 + 25 * lot + 1 ∧ i ≠ 656 + 7 * nB + 6 ∧ i ≠ 656 + 7 * nB + 5 ∧ i ≠ 656 + 7 * nB + 4 ∧ i ≠ 656 + 7 * nB + 3 ∧ i ≠ 656 + 7 * nB + 2 ∧ i ≠ 656 + 7 * nB + 1 ∧ i ≠ 656 + 7 * nB + 0 ∧ i ≠ 2) by omega) with rfl | rfl | rfl | rfl | rfl | rfl | rfl | rfl | rfl | ⟨d1, d2, d3, d4, d5, d6, d7, d8, d9⟩
      all_goals simp (disch := omega) only [upR_ne, upR_at, if_neg, if_pos, if_true]
    · rw [row]; simp (disch := omega) only [if_neg, if_pos, if_true]
    · rw [row]; simp (disch := omega) only [if_neg, if_pos, if_true]
    · rw [row]; simp (disch := omega) only [if_neg, if_pos, if_true]
    · rw [row]; simp (disch := omega) only [if_neg, if_pos, if_true]
    · rw [row, row]
      simp (disch := omega) only [if_neg, if_pos, if_true]
      rcases e5 with r | r
      · exact fun n => absurd r n
      · exact fun _ => r.1
    · rw [row]
      by_cases r : j = 8 + 25 * lot + 1
      · rw [if_pos r, r, upR_at]
      · rw [upR_ne _ _ r]
        simp (disch := omega) only [if_neg]
end JG
