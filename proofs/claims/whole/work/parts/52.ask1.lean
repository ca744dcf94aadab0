/-! BOTH SIDES TOGETHER: the plain questions -/
theorem INV.put {h : HP} {p j : Nat} {w : Int32} (i : INV h) (hn : ¬ rel p j) : INV (hput h p j w) := i.congr (fun q k hq => by
  unfold hput
  by_cases h1 : q = p
  · subst h1
    rw [if_pos rfl]
    by_cases h2 : k = j
    · subst h2; exact absurd hq hn
    · rw [if_neg h2]
  · rw [if_neg h1])
theorem INV.fa {h : HP} {w : Int32} (i : INV h) : INV (faH h w) := i.put (by unfold rel; omega)
theorem INV.o3 {h : HP} {w : Int32} (i : INV h) : INV (hput h 263 0 w) := i.put (by unfold rel; omega)
theorem INV.o4 {h : HP} {w : Int32} (i : INV h) : INV (hput h 264 0 w) := i.put (by unfold rel; omega)
theorem INV.o {h h' : HP} (i : INV h) {p : Nat} (hp : 245 ≤ p ∧ p ≤ 252 ∨ 258 ≤ p) (e : ∀ q, q ≠ p → h' q = h q) : INV h' := i.congr (fun q k hq => by rw [e q (by unfold rel at hq; omega)])
theorem wi_no {m : Int32} {N n : Nat} (hN : N < 1000000) (hn : n < 1000000) (e : wiB m 0 (nI N) = false) (hm : m = nI n) : N < n := by
  rcases Nat.lt_or_ge N n with q | q
  · exact q
  · subst hm
    rw [wiB, decide_eq_true (nI_pos' (by omega)), decide_eq_true (nI_le q (by omega))] at e
    cases e
theorem wi_in {m : Int32} {N : Nat} (hN : N < 999999) (e : wiB m 0 (nI N) = true) : ∃ n, n ≤ N ∧ m = nI n := by
  obtain ⟨t, ht, hm⟩ := wi_of (x := nI (N + 1)) (N := N + 1) rfl (by omega) (by rw [nI_pred]; exact e)
  exact ⟨t, by omega, hm⟩
theorem wi_nin {m : Int32} {N : Nat} (hN : N < 999999) (h : ∀ n, n ≤ N → m ≠ nI n) : wiB m 0 (nI N) = false := by
  cases e : wiB m 0 (nI N) with
  | false => rfl
  | true => obtain ⟨n, hn, hm⟩ := wi_in hN e; exact absurd hm (h n hn)
section JA
variable {l : Launch} {G : GC} {ad : Nat → Nat}
theorem jp_part (hfl : l.stackTraces = false) : J_part l G ad INV := by
  intro h x0 x1 x2 hI
  have hR := hI.1.1
  have hi := hI.1.2
  have hw := hi.WF hR
  have hm : ∀ z, MW (hput h 263 0 z) _ _ _ _ _ _ _ := fun z => MW_o hi.MW (hput_ne h 0 z (by decide))
  cases e0 : wiB x0 0 (h 2 5 - 1) with
  | false => exact ⟨1, 0, h, _, sp_L_part_x1 (sp_X7_part_no1 hfl e0), sp_X8_part_no1 (by rw [← hR.c0]; exact e0), rfl, fun q => absurd q (by decide), hI.fa.fa⟩
  | true =>
    obtain ⟨lot, hlot, rfl⟩ := wi_of hw.1.1 (by have := hw.1.2; omega) e0
    have h24 := hw.1.2
    have e9 : h 4 (lot * 5 + 2) = mL h lot 2 := hR.lot (by omega) (by decide)
    cases e1 : wiB x1 0 (h 4 (lot * 5 + 2) - 1) with
    | false => exact ⟨2, 0, h, _, sp_L_part_x2 (sp_X7_part_no2 hfl hw hlot e1), sp_X8_part_no2 hi.MW hlot (by rw [← e9]; exact e1), rfl, fun q => absurd q (by decide), hI.fa.fa⟩
    | true =>
      have hp := hw.2.2.2.2.1 lot (by omega)
      have hp4 := hp.2
      obtain ⟨t, ht, rfl⟩ := wi_of hp.1 (by omega) e1
      cases e2 : wiB x2 0 1 with
      | false =>
        have hno : ∀ n, n ≤ 1 → x2 ≠ nI n := fun n hn q => by
          have := wi_no (N := 1) (by decide) (n := n) (by omega) e2 q; omega
        exact ⟨3, 0, h, _, sp_L_part_x3 (sp_X7_part_no3 hfl hw hlot e1 e2), sp_X8_part_no3 hi.MW hlot (by rw [← e9]; exact e1) (hno 0 (by decide)) (hno 1 (by decide)), rfl, fun q => absurd q (by decide), hI.fa.fa⟩
      | true =>
        obtain ⟨j, hj, rfl⟩ := wi_in (N := 1) (by decide) e2
        rcases (show j = 0 ∨ j = 1 by omega) with rfl | rfl
        · exact ⟨0, _, _, _, sp_L_part_ok (sp_X7_part_k0 hfl hw hlot ht), sp_X8_part_k0 (hm _) hlot ht, rfl, fun _ => hR.pL (by omega) (by omega), hI.o3.fa⟩
        · exact ⟨0, _, _, _, sp_L_part_ok (sp_X7_part_k1 hfl hw hlot ht), sp_X8_part_k1 (hm _) hlot ht, rfl, fun _ => hR.pQ (by omega) (by omega), hI.o3.fa⟩
theorem shS_eq {h : HP} (hR : Rep h 1 (h 254)) {lot w nH : Nat} (hlot : lot < 24) (hw : w < 3) (hH : nH ≤ 12) (z : Int32) : shS h lot w nH z = shM h lot w nH z :=
  sumC_c (fun k hk => by rw [hR.og (by omega) hw, hR.sh hlot (by omega)])
theorem jp_share (hfl : l.stackTraces = false) : J_share l G ad INV := by
  intro h x0 x1 x2 hI
  have hR := hI.1.1
  have hi := hI.1.2
  have hw := hi.WF hR
  have hm : ∀ z, MW (hput h 263 0 z) _ _ _ _ _ _ _ := fun z => MW_o hi.MW (hput_ne h 0 z (by decide))
  cases e0 : wiB x0 0 (h 2 5 - 1) with
  | false => exact ⟨1, 0, h, _, sp_L_share_x1 (sp_X7_share_no1 hfl e0), sp_X8_share_no1 (by rw [← hR.c0]; exact e0), rfl, fun q => absurd q (by decide), hI.fa.fa⟩
  | true =>
    obtain ⟨lot, hlot, rfl⟩ := wi_of hw.1.1 (by have := hw.1.2; omega) e0
    have h24 := hw.1.2
    have h12 := hw.2.1.2
    cases e1 : wiB x1 0 3 with
    | false => exact ⟨2, 0, h, _, sp_L_share_x2 (sp_X7_share_no2 hfl hw hlot e1), sp_X8_share_no2 hi.MW hlot e1, rfl, fun q => absurd q (by decide), hI.fa.fa⟩
    | true =>
      obtain ⟨j, hj, rfl⟩ := wi_in (N := 3) (by decide) e1
      rcases (show j = 0 ∨ j = 1 ∨ j = 2 ∨ j = 3 by omega) with rfl | rfl | rfl | rfl
      · cases e2 : wiB x2 0 (h 2 6 - 1) with
        | false => exact ⟨2, 0, h, _, sp_L_share_x2 (sp_X7_share_no30 hfl hw hlot e2), sp_X8_share_no30 hi.MW hlot (by rw [← hR.c1]; exact e2), rfl, fun q => absurd q (by decide), hI.fa.fa⟩
        | true =>
          obtain ⟨t, ht, rfl⟩ := wi_of hw.2.1.1 (by omega) e2
          exact ⟨0, _, _, _, sp_L_share_ok (sp_X7_share_k0 hfl hw hlot ht), sp_X8_share_k0 (hm _) hlot ht, rfl, fun _ => hR.sh (by omega) (by omega), hI.o3.fa⟩
      · cases e2 : wiB x2 0 (100 - 1) with
        | false => exact ⟨2, 0, h, _, sp_L_share_x2 (sp_X7_share_no31 hfl hw hlot e2), sp_X8_share_no31 hi.MW hlot e2, rfl, fun q => absurd q (by decide), hI.fa.fa⟩
        | true => exact ⟨0, _, _, _, sp_L_share_ok (sp_X7_share_k1 hfl hw hlot e2), sp_X8_share_k1 (hm _) hlot e2, rfl, fun _ => shS_eq hR (by omega) (by decide) (by omega) _, hI.o3.fa⟩
      · cases e2 : wiB x2 0 (5 - 1) with
        | false => exact ⟨2, 0, h, _, sp_L_share_x2 (sp_X7_share_no32 hfl hw hlot e2), sp_X8_share_no32 hi.MW hlot e2, rfl, fun q => absurd q (by decide), hI.fa.fa⟩
        | true => exact ⟨0, _, _, _, sp_L_share_ok (sp_X7_share_k2 hfl hw hlot e2), sp_X8_share_k2 (hm _) hlot e2, rfl, fun _ => shS_eq hR (by omega) (by decide) (by omega) _, hI.o3.fa⟩
      · cases e2 : wiB x2 0 (4 - 1) with
        | false => exact ⟨2, 0, h, _, sp_L_share_x2 (sp_X7_share_no33 hfl hw hlot e2), sp_X8_share_no33 hi.MW hlot e2, rfl, fun q => absurd q (by decide), hI.fa.fa⟩
        | true => exact ⟨0, _, _, _, sp_L_share_ok (sp_X7_share_k3 hfl hw hlot e2), sp_X8_share_k3 (hm _) hlot e2, rfl, fun _ => shS_eq hR (by omega) (by decide) (by omega) _, hI.o3.fa⟩
theorem jp_reason (hfl : l.stackTraces = false) : J_reason l G ad INV := by
  intro h hI
  rcases hI.2.2.2.2.1 with ⟨a, b⟩ | ⟨a, b, c⟩
  · exact ⟨1, _, h, _, sp_L_reason_x1 (sp_X7_reason_no hfl a), sp_X8_reason_no b, rfl, fun q => absurd q (by decide), hI.fa⟩
  · exact ⟨0, _, _, _, sp_L_reason_ok (sp_X7_reason_ok hfl b), sp_X8_reason_ok (h := hput h 263 0 (h 0 8)) c, rfl, fun _ => a, hI.o3.fa⟩
theorem jp_errorPosition (hfl : l.stackTraces = false) : J_errorPosition l G ad INV := by
  intro h hI
  have a := hI.2.2.2.2.2
  by_cases e : h 0 9 = -1
  · exact ⟨1, _, h, _, sp_L_errorPosition_x1 (sp_X7_errorPosition_no hfl e), sp_X8_errorPosition_no (a.symm.trans e), rfl, fun q => absurd q (by decide), hI.fa⟩
  · exact ⟨0, _, _, _, sp_L_errorPosition_ok (sp_X7_errorPosition_ok hfl e), sp_X8_errorPosition_ok (h := hput h 263 0 (h 0 9)) (fun q => e (a.trans q)), rfl, fun _ => a, hI.o3.fa⟩
theorem jp_meanVintage (hfl : l.stackTraces = false) : J_meanVintage l G ad INV := by
  intro h x0 hI
  have hR := hI.1.1
  have hi := hI.1.2
  have hw := hi.WF hR
  have hm : ∀ z, MW (hput h 264 0 z) _ _ _ _ _ _ _ := fun z => MW_o hi.MW (hput_ne h 0 z (by decide))
  cases e0 : wiB x0 0 (h 2 5 - 1) with
  | false => exact ⟨1, 0, h, _, sp_L_meanVintage_x1 (sp_X7_meanVintage_no1 hfl e0), sp_X8_meanVintage_no1 hi.MW (by rw [← hR.c0]; exact e0), rfl, fun q => absurd q (by decide), hI.fa⟩
  | true =>
    obtain ⟨lot, hlot, rfl⟩ := wi_of hw.1.1 (by have := hw.1.2; omega) e0
    have h24 := hw.1.2
    have h12 := hw.2.1.2
    exact ⟨0, _, _, _, sp_L_meanVintage_ok (sp_X7_meanVintage_ok hfl hw hlot), sp_X8_meanVintage_ok (hm _) hlot, rfl, fun _ => sumC_c (fun k hk => by rw [hR.sh (by omega) (by omega), hR.og (by omega) (by decide)]; rfl), hI.o4.fa⟩
end JA
