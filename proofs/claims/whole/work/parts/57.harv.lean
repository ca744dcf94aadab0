/-! BOTH SIDES TOGETHER: harvest -/
theorem Rep.uz {h : HP} {s : Nat → Int32} (r : Rep h 1 s) (k : Nat) (hk : k < 12) (v : Int32) : Rep h 1 (upR s (608 + 4 * k + 3) v) := by
  obtain ⟨⟨a1, a2, a3, a4, a5⟩, b1, b2, b3, b4, b5, b6, b7, b8, b9, b10⟩ := r
  exact ⟨⟨by rw [upR_ne _ _ (by omega)]; exact a1, by rw [upR_ne _ _ (by omega)]; exact a2, by rw [upR_ne _ _ (by omega)]; exact a3, by rw [upR_ne _ _ (by omega)]; exact a4, by rw [upR_ne _ _ (by omega)]; exact a5⟩,
    fun a b h1 h2 => by rw [upR_ne _ _ (by omega)]; exact b1 a b h1 h2, fun a b h1 h2 => by rw [upR_ne _ _ (by omega)]; exact b2 a b h1 h2, fun a b h1 h2 => by rw [upR_ne _ _ (by omega)]; exact b3 a b h1 h2,
    fun a b h1 h2 => by rw [upR_ne _ _ (by omega)]; exact b4 a b h1 h2, fun a b h1 h2 => by rw [upR_ne _ _ (by omega)]; exact b5 a b h1 h2, fun a b h1 h2 => by rw [upR_ne _ _ (by omega)]; exact b6 a b h1 h2,
    fun a h1 => by rw [upR_ne _ _ (by omega)]; exact b7 a h1, fun a b h1 h2 => by rw [upR_ne _ _ (by omega)]; exact b8 a b h1 h2, fun a b h1 h2 => by rw [upR_ne _ _ (by omega)]; exact b9 a b h1 h2, fun a h1 => by rw [upR_ne _ _ (by omega)]; exact b10 a h1⟩
theorem coK_row (h : HP) (lot n : Nat) (i : Nat) : coK h lot n 254 i = if 8 + 25 * lot ≤ i ∧ i < 8 + 25 * lot + n then 0 else h 254 i := by
  induction n with
  | zero => rw [coK, if_neg (by omega)]
  | succ n ih =>
    rw [coK, sL, hput_u]
    by_cases q : i = 8 + 25 * lot + n
    · rw [q, upR_at, if_pos (by omega)]
    · rw [upR_ne _ _ q, ih]
      by_cases r : 8 + 25 * lot ≤ i ∧ i < 8 + 25 * lot + n
      · rw [if_pos r, if_pos (by omega)]
      · rw [if_neg r, if_neg (by omega)]
/-- a new lot's row, as the model lays it -/
theorem coH_row (h : HP) (lot : Nat) (q g o : Int32) (i : Nat) : coH h lot q g o 254 i = if i = 0 then nI (lot + 1) else if i = 8 + 25 * lot + 4 then o else if i = 8 + 25 * lot + 3 then g else if i = 8 + 25 * lot + 1 then q else if i = 8 + 25 * lot + 0 then q else
    if 8 + 25 * lot ≤ i ∧ i < 8 + 25 * lot + 25 then 0 else h 254 i := by
  unfold coH sL
  rw [hput_u, hput_u, hput_u, hput_u, hput_u]
  unfold upR
  rw [coK_row]
theorem nSh_one {s : Nat → Int32} {k nH : Nat} (h1 : s (8 + 25 * k + (13 + nH)) = 1000) (h0 : ∀ j, j < 12 → j ≠ nH → s (8 + 25 * k + (13 + j)) = 0) (m : Nat) (hm : m ≤ 12) : nSh s k m = if nH < m then 1000 else 0 := by
  induction m with
  | zero => rfl
  | succ m ih =>
    rw [nSh, ih (by omega)]
    by_cases q : m = nH
    · subst q
      rw [if_neg (by omega), if_pos (by omega), h1]; rfl
    · rw [h0 m (by omega) q, nv_0]
      by_cases r : nH < m
      · rw [if_pos r, if_pos (by omega)]
      · rw [if_neg r, if_neg (by omega)]
theorem Inv.harvest {s s' : Nat → Int32} (i : Inv s) {nL nH q : Nat} (hL : nv (s 0) = nL) (hH : nv (s 1) = nH) (hn : nL < 24) (hm : nH < 12) (hq1 : 1 ≤ q) (hq2 : q ≤ 9999) (a0 : s' 0 = nI (nL + 1)) (a1 : s' 1 = nI (nH + 1))
    (l0 : s' (8 + 25 * nL + 0) = nI q) (l1 : s' (8 + 25 * nL + 1) = nI q) (l4 : s' (8 + 25 * nL + 4) = nI nH) (l13 : s' (8 + 25 * nL + (13 + nH)) = 1000) (lz : ∀ j, j < 25 → j ≠ 0 → j ≠ 1 → j ≠ 4 → j ≠ 13 + nH → s' (8 + 25 * nL + j) = 0)
    (v3 : s' (608 + 4 * nH + 3) = nI q) (e : ∀ j, j < 1032 → j ≠ 0 → j ≠ 1 → (j < 8 + 25 * nL ∨ 8 + 25 * nL + 25 ≤ j) → (j < 608 + 4 * nH ∨ 656 ≤ j) → s' j = s j) : Inv s' := by
  have e1 : nv (s' 1) = nH + 1 := by rw [a1]; exact nv_nI (by omega)
  have hhv : ∀ k, k < nL → hvB s' k = hvB s k := fun k hk => by unfold hvB; rw [e _ (by omega) (by omega) (by omega) (by omega) (by omega)]
  have hcn : cntB (hvB s') nL = nH := by rw [cntB_c hhv, ← hL, i.2.2.2.2.1, hH]
  have hvL : hvB s' nL = true := by unfold hvB; rw [l4, decide_eq_false (nI_m1 (by omega))]; rfl
  refine i.addLot hL hn a0 (by rw [a1]; exact bd_nI (by omega) (by decide)) (by rw [cntB, hcn, hvL, e1]; rfl) (by rw [e1, hH]; omega) (fun j h1 h2 h3 h4 h5 => e j h1 h2 h3 h4 (by rw [hH] at h5; exact h5)) ?_
  have hz2 : s' (8 + 25 * nL + 2) = 0 := lz 2 (by omega) (by omega) (by omega) (by omega) (by omega)
  have hz3 : s' (8 + 25 * nL + 3) = 0 := lz 3 (by omega) (by omega) (by omega) (by omega) (by omega)
  have hsh : ∀ j, j < 12 → j ≠ nH → s' (8 + 25 * nL + (13 + j)) = 0 := fun j h1 h2 => lz (13 + j) (by omega) (by omega) (by omega) (by omega) (by omega)
  refine ⟨⟨by rw [l0]; exact bd_nI (by omega) (by decide), by rw [l0, nv_nI (by omega)]; exact hq1⟩, by rw [l1]; exact bd_nI (by omega) (by decide), by rw [hz2]; exact bd_0 _, by rw [hz3]; exact bd_0 _, Or.inr ⟨by rw [hcn]; exact l4, by rw [hcn, v3, l0], hz3, hz2⟩,
    fun j hj => by rw [lz (5 + j) (by omega) (by omega) (by omega) (by omega) (by omega)]; exact bd_0 _, fun j hj => absurd hj (by rw [hz2, nv_0]; omega), fun i j hi _ => absurd hi (by rw [hz2, nv_0]; omega), fun j hj => ?_, ?_, fun j h1 h2 => hsh j h2 (by omega)⟩
  · by_cases q : j = nH
    · rw [q, l13]; exact ⟨by decide, by decide⟩
    · rw [hsh j hj q]; exact bd_0 _
  · rw [nSh_one l13 hsh 12 (by omega), if_pos hm]
section JF
variable {l : Launch} {G : GC} {ad : Nat → Nat}
theorem jp_harvest (hfl : l.stackTraces = false) : J_harvest l G ad INV := by
  intro h x0 x1 x2 x3 hI
  obtain ⟨k, c, ⟨hk, hk8⟩, ⟨hc, hc8⟩, t3, hh⟩ := hI.2.2.1
  have hR := hI.1.1
  have hi := hI.1.2
  have hw := hi.WF hR
  have h24 : nLF (h 254) ≤ 24 := hi.1.1.2
  have h12 : nHF (h 254) ≤ 12 := hi.1.2.1.2
  have ro : ∀ q, q < 49 ∨ 242 < q → remH h 1 k c q = h q := fun q hq => remH_o h 1 k c hk8 hq
  cases e1 : wiB x0 0 99 with
  | false => exact ⟨1, 0, h, _, sp_L_harvest_x1 (sp_X7_harvest_no1 hfl hw e1), sp_X8_harvest_no1 e1, rfl, fun q => absurd q (by decide), hI.fa.fa⟩
  | true =>
  cases e2 : wiB x1 0 4 with
  | false => exact ⟨1, 0, h, _, sp_L_harvest_x1 (sp_X7_harvest_no2 hfl hw e1 e2), sp_X8_harvest_no2 e1 e2, rfl, fun q => absurd q (by decide), hI.fa.fa⟩
  | true =>
  cases e3 : wiB x2 0 3 with
  | false => exact ⟨1, 0, h, _, sp_L_harvest_x1 (sp_X7_harvest_no3 hfl hw e1 e2 e3), sp_X8_harvest_no3 e1 e2 e3, rfl, fun q => absurd q (by decide), hI.fa.fa⟩
  | true =>
  cases e4 : wiB x3 1 9999 with
  | false => exact ⟨1, 0, h, _, sp_L_harvest_x1 (sp_X7_harvest_no4 hfl hw e1 e2 e3 e4), sp_X8_harvest_no4 e1 e2 e3 e4, rfl, fun q => absurd q (by decide), hI.fa.fa⟩
  | true =>
  rcases (show nLF (h 254) = 24 ∨ nLF (h 254) < 24 by omega) with e5 | e5
  · exact ⟨2, 0, h, _, sp_L_harvest_x2 (sp_X7_harvest_fl1 hfl hw e1 e2 e3 e4 e5), sp_X8_harvest_fl1 e1 e2 e3 e4 (by rw [hi.1.1.1]; exact congrArg nI e5), rfl, fun q => absurd q (by decide), hI.fa.fa⟩
  have f5 : ¬ h 254 0 = 24 := fun q => by
    have e8 : nI (nLF (h 254)) = nI 24 := hi.1.1.1.symm.trans q
    have := (nI_eq (by omega) (by decide)).mp e8
    omega
  rcases (show nHF (h 254) = 12 ∨ nHF (h 254) < 12 by omega) with e6 | e6
  · exact ⟨2, 0, h, _, sp_L_harvest_x2 (sp_X7_harvest_fl2 hfl hw e1 e2 e3 e4 e5 e6), sp_X8_harvest_fl2 e1 e2 e3 e4 f5 (by rw [hi.1.2.1.1]; exact congrArg nI e6), rfl, fun q => absurd q (by decide), hI.fa.fa⟩
  have f6 : ¬ h 254 1 = 12 := fun q => by
    have e8 : nI (nHF (h 254)) = nI 12 := hi.1.2.1.1.symm.trans q
    have := (nI_eq (by omega) (by decide)).mp e8
    omega
  obtain ⟨q, rfl, hq1, hq2⟩ := wi_bd (a := 1) (N := 9999) (by decide) (by decide) e4
  obtain ⟨nL, hnL⟩ : ∃ n, n = nLF (h 254) := ⟨_, rfl⟩
  obtain ⟨nH, hnH⟩ : ∃ n, n = nHF (h 254) := ⟨_, rfl⟩
  rw [← hnL, ← hnH] at hw
  rw [← hnL] at e5
  rw [← hnH] at e6
  have a : ∀ p, p = 0 ∨ 24 < p → binH (remH h 1 k c) nL nH x0 x1 x2 (nI q) p = remH h 1 k c p := fun p hp => by
    unfold binH entH
    rw [hput_ne _ _ _ (by omega), hput_ne _ _ _ (by omega), hput_ne _ _ _ (by omega), hput_ne _ _ _ (by omega), hput_ne _ _ _ (by omega), hput_ne _ _ _ (by omega), hput_ne _ _ _ (by omega), hput_ne _ _ _ (by omega), hput_ne _ _ _ (by omega), hput_ne _ _ _ (by omega), hput_ne _ _ _ (by omega)]
  have a254 : binH (remH h 1 k c) nL nH x0 x1 x2 (nI q) 254 = h 254 := by rw [a 254 (by omega), ro 254 (by omega)]
  have a253 : binH (remH h 1 k c) nL nH x0 x1 x2 (nI q) 253 = h 253 := by rw [a 253 (by omega), ro 253 (by omega)]
  have e9 : ∀ z, remM (hput (hput (binH (remH h 1 k c) nL nH x0 x1 x2 (nI q)) 263 0 z) 253 5 0) c 254 = h 254 := fun z => ch_n a254
  have row : ∀ z, ∀ i, harM (remM (hput (hput (binH (remH h 1 k c) nL nH x0 x1 x2 (nI q)) 263 0 z) 253 5 0) c) nL nH x0 x1 x2 (nI q) 254 i =
      if i = 8 + 25 * nL + (13 + nH) then 1000 else if i = 0 then nI (nL + 1) else if i = 8 + 25 * nL + 4 then nI nH else if i = 8 + 25 * nL + 3 then 0 else if i = 8 + 25 * nL + 1 then nI q else if i = 8 + 25 * nL + 0 then nI q else
      if 8 + 25 * nL ≤ i ∧ i < 8 + 25 * nL + 25 then 0 else if i = 1 then nI (nH + 1) else if i = 608 + 4 * nH + 3 then nI q else if i = 608 + 4 * nH + 2 then x2 else if i = 608 + 4 * nH + 1 then x1 else if i = 608 + 4 * nH then x0 else h 254 i := fun z i => by
    unfold harM sL
    rw [hput_u]
    unfold upR
    rw [coH_row]
    unfold haH
    rw [hput_u, hput_u, hput_u, hput_u, hput_u, e9]
    rfl
  have oth : ∀ z, ∀ i, i ≠ 0 → i ≠ 1 → (i < 8 + 25 * nL ∨ 8 + 25 * nL + 25 ≤ i) → (i < 608 + 4 * nH ∨ 608 + 4 * nH + 4 ≤ i) → harM (remM (hput (hput (binH (remH h 1 k c) nL nH x0 x1 x2 (nI q)) 263 0 z) 253 5 0) c) nL nH x0 x1 x2 (nI q) 254 i = h 254 i := fun z i h1 h2 h3 h4 => by
    rw [row, if_neg (by omega), if_neg (by omega), if_neg (by omega), if_neg (by omega), if_neg (by omega), if_neg (by omega), if_neg (by omega), if_neg (by omega), if_neg (by omega), if_neg (by omega), if_neg (by omega), if_neg (by omega)]
  have w0 := hw
  refine ⟨0, _, _, _, sp_L_harvest_ok (sp_X7_harvest_ok hfl hw hk hk8 hc hc8 e1 e2 e3 e4 e5 e6), sp_X8_harvest_ok (nL := nL) (nH := nH) e1 e2 e3 e4 (by rw [hput_ne _ _ _ (by decide), a254]; exact f5) (by rw [hput_ne _ _ _ (by decide), a254]; exact f6) (sp_X8_rem (ch_2 (h := h) a253 t3) hc8) (by rw [e9, hi.1.1.1, hnL]) e5 (by rw [e9, hi.1.2.1.1, hnH]) e6,
    ch_end (h1 := binH (remH h 1 k c) nL nH x0 x1 x2 (nI q)) (z := nI nL) hI hk8 hc8 hh ?_ ?_ ?_ rfl⟩
  · intro p hp; exact a p (by omega)
  · intro p hp
    unfold harM sL coH sL haH
    rw [hput_ne _ _ _ hp, hput_ne _ _ _ hp, hput_ne _ _ _ hp, hput_ne _ _ _ hp, hput_ne _ _ _ hp, hput_ne _ _ _ hp, coK_o _ _ hp, hput_ne _ _ _ hp, hput_ne _ _ _ hp, hput_ne _ _ _ hp, hput_ne _ _ _ hp, hput_ne _ _ _ hp]
  · refine ⟨?_, hi.harvest hnL.symm hnH.symm e5 e6 hq1 hq2 ?_ ?_ ?_ ?_ ?_ ?_ (fun j h1 h2 h3 h4 h5 => ?_) ?_ (fun j h1 h2 h3 h4 h5 => ?_)⟩
    · have r := ((((((((((((hR.rem (c := c) hk8).ub5 e6 (show 0 < 3 by decide) x0).ub5 e6 (show 1 < 3 by decide) x1).ub5 e6 (show 2 < 3 by decide) x2).ua2 (nI (nH + 1))).ub1 e5 (show 0 < 5 by decide) (nI q)).ub1 e5 (show 1 < 5 by decide) (nI q)).ub1 e5 (show 2 < 5 by decide) 0).ub1 e5 (show 3 < 5 by decide) 0).ub1 e5 (show 4 < 5 by decide) (nI nH)).ua1 (nI (nL + 1))).ub4 e5 e6 1000).uz nH e6 (nI q)
      have hz : ∀ j, j < 25 → h 254 (8 + 25 * nL + j) = 0 := fun j hj => hi.2.2.2.1 nL j (by rw [hnL]; exact Nat.le_refl _) e5 hj
      refine r.congr (fun _ _ _ => rfl) (fun i hi2 => ?_)
      rw [row]
      by_cases c0 : 8 + 25 * nL ≤ i ∧ i < 8 + 25 * nL + 25
      · obtain ⟨j, rfl⟩ : ∃ j, i = 8 + 25 * nL + j := ⟨i - (8 + 25 * nL), by omega⟩
        have hj : j < 25 := by omega
        have := hz j hj
        by_cases d1 : j = 13 + nH
        · subst d1
          simp (disch := omega) only [upR_ne, upR_at, if_true]
        · rcases (show j = 0 ∨ j = 1 ∨ j = 2 ∨ j = 3 ∨ j = 4 ∨ 5 ≤ j by omega) with rfl | rfl | rfl | rfl | rfl | d2
          · simp (disch := omega) only [upR_ne, upR_at, if_neg, if_pos, if_true]
          · simp (disch := omega) only [upR_ne, upR_at, if_neg, if_pos, if_true]
          · simp (disch := omega) only [upR_ne, upR_at, if_neg, if_pos, if_true]
          · simp (disch := omega) only [upR_ne, upR_at, if_neg, if_pos, if_true]
          · simp (disch := omega) only [upR_ne, upR_at, if_neg, if_pos, if_true]
          · simp (disch := omega) only [upR_ne, upR_at, if_neg, if_pos, if_true]
            exact this.symm
      · rcases (show i = 0 ∨ i = 1 ∨ i = 608 + 4 * nH + 3 ∨ i = 608 + 4 * nH + 2 ∨ i = 608 + 4 * nH + 1 ∨ i = 608 + 4 * nH + 0 ∨ (i ≠ 0 ∧ i ≠ 1 ∧ i ≠ 608 + 4 * nH + 3 ∧ i ≠ 608 + 4 * nH + 2 ∧ i ≠ 608 + 4 * nH + 1 ∧ i ≠ 608 + 4 * nH) by omega) with rfl | rfl | rfl | rfl | rfl | rfl | ⟨d1, d2, d3, d4, d5, d6⟩
        all_goals simp (disch := omega) only [upR_ne, upR_at, if_neg, if_pos, if_true]
    · rw [row, if_neg (by omega), if_pos rfl]
    · rw [row, if_neg (by omega), if_neg (by omega), if_neg (by omega), if_neg (by omega), if_neg (by omega), if_neg (by omega), if_neg (by omega), if_pos rfl]
    · rw [row, if_neg (by omega), if_neg (by omega), if_neg (by omega), if_neg (by omega), if_neg (by omega), if_pos rfl]
    · rw [row, if_neg (by omega), if_neg (by omega), if_neg (by omega), if_neg (by omega), if_pos rfl]
    · rw [row, if_neg (by omega), if_neg (by omega), if_pos rfl]
    · rw [row, if_pos rfl]
    · rw [row, if_neg (by omega), if_neg (by omega), if_neg (by omega)]
      by_cases d : j = 3
      · rw [if_pos (by omega)]
      · rw [if_neg (by omega), if_neg (by omega), if_neg (by omega), if_pos (by omega)]
    · rw [row, if_neg (by omega), if_neg (by omega), if_neg (by omega), if_neg (by omega), if_neg (by omega), if_neg (by omega), if_neg (by omega), if_neg (by omega), if_pos rfl]
    · exact oth _ j h2 h3 h4 (by omega)
end JF
