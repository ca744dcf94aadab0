/-! BOTH SIDES TOGETHER: the plain changes -/
theorem wi_bd {q : Int32} {a N : Nat} (ha : a < 999999) (hN : N < 999999) (e : wiB q (nI a) (nI N) = true) : ∃ n, q = nI n ∧ a ≤ n ∧ n ≤ N := by
  unfold wiB at e
  have e1 := of_decide_eq_true (Bool.and_eq_true_iff.mp e).1
  have e2 := of_decide_eq_true (Bool.and_eq_true_iff.mp e).2
  obtain ⟨n, hn, rfl⟩ := wi_in (m := q) hN (by unfold wiB; rw [decide_eq_true e2, decide_eq_true (Int32.le_trans (nI_pos' (n := a) (by omega)) e1)]; rfl)
  refine ⟨n, rfl, ?_, hn⟩
  rcases Nat.lt_or_ge n a with q | q
  · exact absurd e1 (nI_ge q (by omega))
  · exact q
theorem wi_mn (q A x : Int32) : wiB q 1 (mnI A x) = (wiB q 1 A && decide (q ≤ x)) := by
  unfold mnI
  split
  · rename_i hx
    unfold wiB
    by_cases h : q ≤ x
    · rw [decide_eq_true h, decide_eq_true (Int32.le_trans h (Int32.le_of_lt hx)), Bool.and_true, Bool.and_true]
    · rw [decide_eq_false h, Bool.and_false, Bool.and_false]
  · rename_i hx
    unfold wiB
    by_cases h : q ≤ A
    · rw [decide_eq_true h, decide_eq_true (Int32.le_trans h (Int32.not_lt.mp hx)), Bool.and_true, Bool.and_true]
    · rw [decide_eq_false h, Bool.and_false, Bool.false_and]
theorem upR_comm (s : Nat → Int32) {i j : Nat} (v w : Int32) (h : i ≠ j) : upR (upR s i v) j w = upR (upR s j w) i v := by
  funext a
  unfold upR
  by_cases h1 : a = i
  · rw [if_pos h1, if_neg (by omega), if_pos h1]
  · rw [if_neg h1, if_neg h1]
theorem nHd_put (s : Nat → Int32) (c b : Nat) (v : Int32) (m : Nat) : nHd (upR s (776 + 16 * c + b) v) b m + (if c < m then nv (s (776 + 16 * c + b)) else 0) = nHd s b m + (if c < m then nv v else 0) := by
  induction m with
  | zero => rw [if_neg (Nat.not_lt_zero _), if_neg (Nat.not_lt_zero _)]; rfl
  | succ m ih =>
    rw [nHd, nHd]
    rcases (show m = c ∨ c < m ∨ m < c by omega) with q | q | q
    · subst q
      rw [if_neg (by omega), if_neg (by omega)] at ih
      rw [if_pos (by omega), if_pos (by omega), upR_at]; omega
    · rw [if_pos q, if_pos q] at ih
      rw [if_pos (by omega), if_pos (by omega), upR_ne _ _ (by omega)]; omega
    · rw [if_neg (by omega), if_neg (by omega)] at ih
      rw [if_neg (by omega), if_neg (by omega), upR_ne _ _ (by omega)]; omega
theorem nHd_8 {s : Nat → Int32} {c b : Nat} (v : Int32) (hc : c < 8) : nHd (upR s (776 + 16 * c + b) v) b 8 + nv (s (776 + 16 * c + b)) = nHd s b 8 + nv v := by
  have := nHd_put s c b v 8
  rw [if_pos hc, if_pos hc] at this; exact this
theorem nHd_le {s : Nat → Int32} {c b : Nat} (hc : c < 8) : nv (s (776 + 16 * c + b)) ≤ nHd s b 8 := by
  have := nHd_8 (s := s) (b := b) 0 hc
  rw [nv_0] at this; omega
theorem ch_2 {h h1 : HP} {c : Nat} {z : Int32} (a : h1 253 = h 253) (t : h 253 2 = nI c) : hput (hput h1 263 0 z) 253 5 0 253 2 = nI c := by
  rw [hput_k _ _ _ (by decide), hput_ne _ _ _ (by decide), a]; exact t
theorem ch_n {h h1 : HP} {c : Nat} {z : Int32} (a : h1 254 = h 254) : remM (hput (hput h1 263 0 z) 253 5 0) c 254 = h 254 := by
  rw [remM_o _ _ (by decide) (by decide), hput_ne _ _ _ (by decide), hput_ne _ _ _ (by decide), a]
theorem ch_end {h h1 h2 : HP} {k c : Nat} {z v : Int32} (hI : INV h) (hk8 : k < 8) (hc8 : c ≤ 8) (hh : HisOk h k c)
    (a : ∀ q, 24 < q ∨ q = 0 → h1 q = remH h 1 k c q) (b : ∀ q, q ≠ 254 → h2 q = remM (hput (hput h1 263 0 z) 253 5 0) c q)
    (n : Rep h1 1 (h2 254) ∧ Inv (h2 254)) (ev : z = v) : h2 253 5 = 0 ∧ ((0 : Int32) = 0 → h2 263 0 = v) ∧ INV h2 :=
  ⟨by rw [b 253 (by decide), remM_k _ _ (by decide), hput_at], fun _ => by rw [b 263 (by decide), remM_o _ _ (by decide) (by decide), hput_ne _ _ _ (by decide), hput_at]; exact ev, INV_ch hI hk8 hc8 hh a b n⟩
theorem Rep.rem {h : HP} {s : Nat → Int32} (r : Rep h 1 s) {k c : Nat} (hk8 : k < 8) : Rep (remH h 1 k c) 1 s := r.congr (fun o h1 h2 => remH_o h 1 k c hk8 (by omega)) (fun _ _ => rfl)
theorem Inv.law {s : Nat → Int32} (i : Inv s) {j : Nat} (hj : j < 3) {v : Int32} (hv : bd v 1000) : Inv (upR s (5 + j) v) := by
  refine i.cust (fun j _ => upR_ne _ _ (by omega)) (fun j _ _ => upR_ne _ _ (by omega)) (fun b j _ _ _ => upR_ne _ _ (by omega)) (by rw [upR_ne _ _ (by omega)]; exact i.1.2.2.2) (fun a ha => ?_)
    (fun b hb => ?_) (fun b h1 h2 => by rw [upR_ne _ _ (by omega)]; exact i.2.2.2.2.2.2.1 b 2 h1 h2 (by decide)) (fun c hc => by rw [upR_ne _ _ (by omega)]; exact i.2.2.2.2.2.2.2.1 c hc)
    (fun c b hc hb => by rw [upR_ne _ _ (by omega), upR_ne _ _ (by omega)]; exact i.2.2.2.2.2.2.2.2.1 c b hc hb) (fun c b hc hb hq => by rw [upR_ne _ _ (by omega)] at hq; rw [upR_ne _ _ (by omega), upR_ne _ _ (by omega)]; exact i.2.2.2.2.2.2.2.2.2.1 c b hc hb hq)
    (fun c hq hc => by rw [upR_ne _ _ (by omega)] at hq; rw [upR_ne _ _ (by omega)]; exact i.2.2.2.2.2.2.2.2.2.2 c hq hc)
  · by_cases q : a = j
    · rw [q, upR_at]; exact hv
    · rw [upR_ne _ _ (by omega)]; exact i.2.1 a ha
  · obtain ⟨c1, c2, c3, c4, c5⟩ := i.2.2.2.2.2.1 b hb
    rw [upR_ne _ _ (by omega), nHd_c (s := s) (fun c hc => upR_ne _ _ (by omega))]
    exact ⟨c3, c5⟩
theorem Inv.addC {s : Nat → Int32} (i : Inv s) {nC : Nat} (hC : nv (s 3) = nC) (hn : nC < 8) {v : Int32} (hv : bd v 2) : Inv (upR (upR s (768 + nC) v) 3 (nI (nC + 1))) := by
  have e : ∀ j, j ≠ 3 → j ≠ 768 + nC → upR (upR s (768 + nC) v) 3 (nI (nC + 1)) j = s j := fun j h1 h2 => by rw [upR_ne _ _ h1, upR_ne _ _ h2]
  have e3 : nv (upR (upR s (768 + nC) v) 3 (nI (nC + 1)) 3) = nC + 1 := by rw [upR_at]; exact nv_nI (by omega)
  refine i.cust (fun j _ => e _ (by omega) (by omega)) (fun j _ _ => e _ (by omega) (by omega)) (fun b j _ _ _ => e _ (by omega) (by omega)) (by rw [upR_at]; exact bd_nI (by omega) (by decide)) (fun j hj => by rw [e _ (by omega) (by omega)]; exact i.2.1 j hj)
    (fun b hb => ?_) (fun b h1 h2 => by rw [e _ (by omega) (by omega)]; exact i.2.2.2.2.2.2.1 b 2 h1 h2 (by decide)) (fun c hc => ?_)
    (fun c b hc hb => by rw [e _ (by omega) (by omega), e _ (by omega) (by omega)]; exact i.2.2.2.2.2.2.2.2.1 c b hc hb) (fun c b hc hb hq => by rw [e3] at hq; rw [e _ (by omega) (by omega), e _ (by omega) (by omega)]; exact i.2.2.2.2.2.2.2.2.2.1 c b hc hb (by omega))
    (fun c hq hc => by rw [e3] at hq; rw [e _ (by omega) (by omega)]; exact i.2.2.2.2.2.2.2.2.2.2 c (by omega) hc)
  · have h16 := i.1.2.2.1.2
    obtain ⟨c1, c2, c3, c4, c5⟩ := i.2.2.2.2.2.1 b hb
    rw [e _ (by omega) (by omega), nHd_c (s := s) (fun c hc => e _ (by omega) (by omega))]
    exact ⟨c3, c5⟩
  · by_cases q : c = nC
    · rw [q, upR_ne _ _ (by omega), upR_at]; exact hv
    · rw [e _ (by omega) (by omega)]; exact i.2.2.2.2.2.2.2.1 c hc
/-- a holding and a wish of one customer, and the stock with it -/
theorem Inv.hold {s : Nat → Int32} (i : Inv s) {c b : Nat} (hc : c < nv (s 3)) (hb : b < nv (s 2)) {v w x : Int32} (hv : bd v 3333) (hw : bd w 3333) (hx : nv v + nv x = nv (s (776 + 16 * c + b)) + nv (s (656 + 7 * b + 2))) (hx0 : x = nI (nv x)) :
    Inv (upR (upR (upR s (656 + 7 * b + 2) x) (776 + 16 * c + b) v) (904 + 16 * c + b) w) := by
  have h16 := i.1.2.2.1.2
  have h8 := i.1.2.2.2.2
  have e : ∀ j, j ≠ 656 + 7 * b + 2 → j ≠ 776 + 16 * c + b → j ≠ 904 + 16 * c + b → upR (upR (upR s (656 + 7 * b + 2) x) (776 + 16 * c + b) v) (904 + 16 * c + b) w j = s j := fun j h1 h2 h3 => by rw [upR_ne _ _ h3, upR_ne _ _ h2, upR_ne _ _ h1]
  have e3 := e 3 (by omega) (by omega) (by omega)
  refine i.cust (fun j _ => e _ (by omega) (by omega) (by omega)) (fun j _ _ => e _ (by omega) (by omega) (by omega)) (fun b j _ _ _ => e _ (by omega) (by omega) (by omega)) (by rw [e3]; exact i.1.2.2.2) (fun j hj => by rw [e _ (by omega) (by omega) (by omega)]; exact i.2.1 j hj)
    (fun a ha => ?_) (fun a h1 h2 => by rw [e _ (by omega) (by omega) (by omega)]; exact i.2.2.2.2.2.2.1 a 2 h1 h2 (by decide)) (fun d hd => by rw [e _ (by omega) (by omega) (by omega)]; exact i.2.2.2.2.2.2.2.1 d hd)
    (fun d a hd ha => ?_) (fun d a hd ha hq => by rw [e3] at hq; rw [e _ (by omega) (by omega) (by omega), e _ (by omega) (by omega) (by omega)]; exact i.2.2.2.2.2.2.2.2.2.1 d a hd ha hq)
    (fun d hq hd => by rw [e3] at hq; rw [e _ (by omega) (by omega) (by omega)]; exact i.2.2.2.2.2.2.2.2.2.2 d hq hd)
  · obtain ⟨c1, c2, c3, c4, c5⟩ := i.2.2.2.2.2.1 a ha
    have hs : nHd (upR (upR (upR s (656 + 7 * b + 2) x) (776 + 16 * c + b) v) (904 + 16 * c + b) w) a 8 = nHd (upR s (776 + 16 * c + b) v) a 8 := nHd_c (fun d hd => by
      rw [upR_ne _ _ (by omega)]
      unfold upR
      by_cases q : 776 + 16 * d + a = 776 + 16 * c + b
      · rw [if_pos q, if_pos q]
      · rw [if_neg q, if_neg q, if_neg (by omega)])
    rw [hs]
    by_cases q : a = b
    · subst q
      rw [upR_ne _ _ (by omega), upR_ne _ _ (by omega), upR_at]
      have h1 := nHd_8 (s := s) (b := a) v (show c < 8 by omega)
      have h2 := nHd_le (s := s) (b := a) (show c < 8 by omega)
      have hb9 := c2.2
      exact ⟨⟨hx0, by omega⟩, by omega⟩
    · rw [e _ (by omega) (by omega) (by omega), nHd_c (s := s) (fun d hd => upR_ne _ _ (by omega))]
      exact ⟨c3, c5⟩
  · obtain ⟨b1, b2⟩ := i.2.2.2.2.2.2.2.2.1 d a hd ha
    by_cases q : d = c ∧ a = b
    · obtain ⟨rfl, rfl⟩ := q
      rw [upR_ne _ _ (show 776 + 16 * d + a ≠ 904 + 16 * d + a by omega), upR_at, upR_at]
      exact ⟨hv, hw⟩
    · rw [e _ (by omega) (by omega) (by omega), e _ (by omega) (by omega) (by omega)]
      exact ⟨b1, b2⟩
theorem upR_id (s : Nat → Int32) (i : Nat) : upR s i (s i) = s := by
  funext j
  unfold upR
  split
  · rename_i q; rw [q]
  · rfl
section JD
variable {l : Launch} {G : GC} {ad : Nat → Nat}
theorem jp_setLaw (hfl : l.stackTraces = false) : J_setLaw l G ad INV := by
  intro h x0 x1 hI
  obtain ⟨k, c, ⟨hk, hk8⟩, ⟨hc, hc8⟩, t3, hh⟩ := hI.2.2.1
  have hR := hI.1.1
  have hi := hI.1.2
  have ro : ∀ q, q < 49 ∨ 242 < q → remH h 1 k c q = h q := fun q hq => remH_o h 1 k c hk8 hq
  cases e0 : wiB x0 0 2 with
  | false => exact ⟨1, 0, h, _, sp_L_setLaw_x1 (sp_X7_setLaw_no1 hfl e0), sp_X8_setLaw_no1 e0, rfl, fun q => absurd q (by decide), hI.fa.fa⟩
  | true =>
    obtain ⟨j, hj, rfl⟩ := wi_in (N := 2) (by decide) e0
    cases e1 : wiB x1 500 1000 with
    | false => exact ⟨2, 0, h, _, sp_L_setLaw_x2 (sp_X7_setLaw_no2 hfl e0 e1), sp_X8_setLaw_no2 e0 e1, rfl, fun q => absurd q (by decide), hI.fa.fa⟩
    | true =>
      obtain ⟨n, rfl, h1, h2⟩ := wi_bd (a := 500) (N := 1000) (by decide) (by decide) e1
      refine ⟨0, _, _, _, sp_L_setLaw_ok (sp_X7_setLaw_ok hfl (show j < 3 by omega) hk hk8 hc hc8 e1), sp_X8_setLaw_ok (show j < 3 by omega) e1 (sp_X8_rem (ch_2 (h := h) (by rw [hput_ne _ _ _ (by decide), ro 253 (by omega)]) t3) hc8),
        ch_end hI hk8 hc8 hh (fun q hq => hput_ne _ _ _ (by omega)) (fun q hq => hput_ne _ _ _ hq) ?_ ?_⟩
      · rw [hput_u, ch_n (h := h) (by rw [hput_ne _ _ _ (by decide), ro 254 (by omega)])]
        exact ⟨(hR.rem hk8).ub10 (by omega) _, hi.law (by omega) (bd_nI h2 (by decide))⟩
      · rw [hput_ne _ _ _ (by decide), hput_ne _ _ _ (by decide), ro 254 (by omega)]
        exact hR.la (by omega)
theorem jp_addCustomer (hfl : l.stackTraces = false) : J_addCustomer l G ad INV := by
  intro h x0 hI
  obtain ⟨k, c, ⟨hk, hk8⟩, ⟨hc, hc8⟩, t3, hh⟩ := hI.2.2.1
  have hR := hI.1.1
  have hi := hI.1.2
  have hw := hi.WF hR
  have h8 : nCF (h 254) ≤ 8 := hi.1.2.2.2.2
  have ro : ∀ q, q < 49 ∨ 242 < q → remH h 1 k c q = h q := fun q hq => remH_o h 1 k c hk8 hq
  cases e0 : wiB x0 0 2 with
  | false => exact ⟨1, 0, h, _, sp_L_addCustomer_x1 (sp_X7_addCustomer_no1 hfl hw e0), sp_X8_addCustomer_no1 e0, rfl, fun q => absurd q (by decide), hI.fa⟩
  | true =>
    obtain ⟨n, hn, rfl⟩ := wi_in (N := 2) (by decide) e0
    rcases (show nCF (h 254) = 8 ∨ nCF (h 254) < 8 by omega) with e1 | e1
    · exact ⟨2, 0, h, _, sp_L_addCustomer_x2 (sp_X7_addCustomer_no2 hfl hw e0 e1), sp_X8_addCustomer_no2 e0 (by rw [hi.1.2.2.2.1]; exact congrArg nI e1), rfl, fun q => absurd q (by decide), hI.fa⟩
    · have hne : ¬ h 254 3 = 8 := fun q => by
        have e8 : nI (nCF (h 254)) = nI 8 := hi.1.2.2.2.1.symm.trans q
        have := (nI_eq (by omega) (by decide)).mp e8
        omega
      refine ⟨0, _, _, _, sp_L_addCustomer_ok (sp_X7_addCustomer_ok hfl hw hk hk8 hc hc8 e0 e1), sp_X8_addCustomer_ok (nC := nCF (h 254)) e0 (by rw [hput_ne _ _ _ (by decide), hput_ne _ _ _ (by decide), hput_ne _ _ _ (by decide), ro 254 (by omega)]; exact hne) (sp_X8_rem (ch_2 (h := h) (by rw [hput_ne _ _ _ (by decide), hput_ne _ _ _ (by decide), ro 253 (by omega)]) t3) hc8) (by rw [ch_n (h := h) (by rw [hput_ne _ _ _ (by decide), hput_ne _ _ _ (by decide), ro 254 (by omega)])]; exact hi.1.2.2.2.1) e1,
        ch_end (h1 := hput (hput (remH h 1 k c) 18 (nCF (h 254) * 1 + 0) (nI n)) 16 3 (nI (nCF (h 254) + 1))) (z := nI (nCF (h 254))) hI hk8 hc8 hh ?_ ?_ ?_ rfl⟩
      · intro q hq; rw [hput_ne _ _ _ (by omega), hput_ne _ _ _ (by omega)]
      · intro q hq; rw [hput_ne _ _ _ hq, hput_ne _ _ _ hq]
      rw [hput_u, hput_u, ch_n (h := h) (by rw [hput_ne _ _ _ (by decide), hput_ne _ _ _ (by decide), ro 254 (by omega)])]
      exact ⟨((hR.rem hk8).ub7 e1 _).ua4 _, hi.addC rfl e1 (bd_nI hn (by decide))⟩
theorem jp_wish (hfl : l.stackTraces = false) : J_wish l G ad INV := by
  intro h x0 x1 x2 hI
  obtain ⟨k, c, ⟨hk, hk8⟩, ⟨hc, hc8⟩, t3, hh⟩ := hI.2.2.1
  have hR := hI.1.1
  have hi := hI.1.2
  have hw := hi.WF hR
  have h16 : nBF (h 254) ≤ 16 := hi.1.2.2.1.2
  have h8 : nCF (h 254) ≤ 8 := hi.1.2.2.2.2
  have ro : ∀ q, q < 49 ∨ 242 < q → remH h 1 k c q = h q := fun q hq => remH_o h 1 k c hk8 hq
  cases e0 : wiB x0 0 (h 16 3 - 1) with
  | false => exact ⟨1, 0, h, _, sp_L_wish_x1 (sp_X7_wish_no1 hfl e0), sp_X8_wish_no1 (by rw [← hR.c3]; exact e0), rfl, fun q => absurd q (by decide), hI.fa.fa⟩
  | true =>
    cases e1 : wiB x1 0 (h 13 1 - 1) with
    | false => exact ⟨1, 0, h, _, sp_L_wish_x1 (sp_X7_wish_no2 hfl e0 e1), sp_X8_wish_no2 (by rw [← hR.c3]; exact e0) (by rw [← hR.c2]; exact e1), rfl, fun q => absurd q (by decide), hI.fa.fa⟩
    | true =>
      obtain ⟨cu, hcu, rfl⟩ := wi_of hw.2.2.2.1.1 (by omega) e0
      obtain ⟨b, hb, rfl⟩ := wi_of hw.2.2.1.1 (by omega) e1
      have hcu8 : cu < 8 := Nat.lt_of_lt_of_le hcu h8
      have hb16 : b < 16 := Nat.lt_of_lt_of_le hb h16
      cases e2 : wiB x2 0 3333 with
      | false => exact ⟨2, 0, h, _, sp_L_wish_x2 (sp_X7_wish_no3 hfl hw hcu hb e2), sp_X8_wish_no3 hi.MW hcu hb e2, rfl, fun q => absurd q (by decide), hI.fa.fa⟩
      | true =>
        obtain ⟨n, hn, rfl⟩ := wi_in (N := 3333) (by decide) e2
        have hm : ∀ h1 : HP, ∀ z, h1 254 = h 254 → MW (hput h1 263 0 z) _ _ _ _ _ _ _ := fun h1 z e => MW_o hi.MW (by rw [hput_ne _ _ _ (by decide), e])
        refine ⟨0, _, _, _, sp_L_wish_ok (sp_X7_wish_ok hfl hw hcu hb hk hk8 hc hc8 e2), sp_X8_wish_ok (hm _ _ (by rw [wisH, hput_ne _ _ _ (by decide), ro 254 (by omega)])) hcu hb e2 (sp_X8_rem (ch_2 (h := h) (by rw [wisH, hput_ne _ _ _ (by decide), ro 253 (by omega)]) t3) hc8),
          ch_end hI hk8 hc8 hh (fun q hq => hput_ne _ _ _ (by omega)) (fun q hq => hput_ne _ _ _ hq) ?_ ?_⟩
        · rw [hput_u, ch_n (h := h) (by rw [wisH, hput_ne _ _ _ (by decide), ro 254 (by omega)])]
          refine ⟨(hR.rem hk8).ub9 (show cu < 8 by omega) (show b < 16 by omega) _, ?_⟩
          have := hi.hold hcu hb (v := h 254 (776 + 16 * cu + b)) (w := nI n) (x := h 254 (656 + 7 * b + 2)) (hi.2.2.2.2.2.2.2.2.1 cu b (by omega) (by omega)).1 (bd_nI hn (by decide)) rfl (hi.2.2.2.2.2.1 b hb).2.2.1.1
          rw [upR_id, upR_id] at this; exact this
        · unfold mWi
          rw [hput_ne _ _ _ (by decide), wisH, hput_ne _ _ _ (by decide), ro 254 (by omega)]
          exact hR.wi (by omega) (by omega)
theorem jp_giveBack (hfl : l.stackTraces = false) : J_giveBack l G ad INV := by
  intro h x0 x1 x2 hI
  obtain ⟨k, c, ⟨hk, hk8⟩, ⟨hc, hc8⟩, t3, hh⟩ := hI.2.2.1
  have hR := hI.1.1
  have hi := hI.1.2
  have hw := hi.WF hR
  have h16 : nBF (h 254) ≤ 16 := hi.1.2.2.1.2
  have h8 : nCF (h 254) ≤ 8 := hi.1.2.2.2.2
  have ro : ∀ q, q < 49 ∨ 242 < q → remH h 1 k c q = h q := fun q hq => remH_o h 1 k c hk8 hq
  cases e0 : wiB x0 0 (h 16 3 - 1) with
  | false => exact ⟨1, 0, h, _, sp_L_giveBack_x1 (sp_X7_giveBack_no1 hfl e0), sp_X8_giveBack_no1 (by rw [← hR.c3]; exact e0), rfl, fun q => absurd q (by decide), hI.fa.fa⟩
  | true =>
    cases e1 : wiB x1 0 (h 13 1 - 1) with
    | false => exact ⟨1, 0, h, _, sp_L_giveBack_x1 (sp_X7_giveBack_no2 hfl e0 e1), sp_X8_giveBack_no2 (by rw [← hR.c3]; exact e0) (by rw [← hR.c2]; exact e1), rfl, fun q => absurd q (by decide), hI.fa.fa⟩
    | true =>
      obtain ⟨cu, hcu, rfl⟩ := wi_of hw.2.2.2.1.1 (by omega) e0
      obtain ⟨b, hb, rfl⟩ := wi_of hw.2.2.1.1 (by omega) e1
      have hcu8 : cu < 8 := Nat.lt_of_lt_of_le hcu h8
      have hb16 : b < 16 := Nat.lt_of_lt_of_le hb h16
      have ehd : h 20 (cu * 16 + b) = mHd h cu b := hR.hd (by omega) (by omega)
      cases e2 : wiB x2 1 3333 with
      | false => exact ⟨2, 0, h, _, sp_L_giveBack_x2 (sp_X7_giveBack_no3 hfl hw hcu hb (by rw [wi_mn, e2]; rfl)), sp_X8_giveBack_no3 hi.MW hcu hb e2, rfl, fun q => absurd q (by decide), hI.fa.fa⟩
      | true =>
        by_cases e3 : x2 ≤ mHd h cu b
        · have hm : ∀ h1 : HP, ∀ z, h1 254 = h 254 → MW (hput h1 263 0 z) _ _ _ _ _ _ _ := fun h1 z e => MW_o hi.MW (by rw [hput_ne _ _ _ (by decide), e])
          obtain ⟨n, rfl, hn1, hn2⟩ := wi_bd (a := 1) (N := 3333) (by decide) (by decide) e2
          have a254 : gbkH (remH h 1 k c) cu b (nI n) 254 = h 254 := by rw [gbkH, hput_ne _ _ _ (by decide), hput_ne _ _ _ (by decide), hput_ne _ _ _ (by decide), ro 254 (by omega)]
          have a253 : gbkH (remH h 1 k c) cu b (nI n) 253 = h 253 := by rw [gbkH, hput_ne _ _ _ (by decide), hput_ne _ _ _ (by decide), hput_ne _ _ _ (by decide), ro 253 (by omega)]
          have e9 : ∀ z, remM (hput (hput (gbkH (remH h 1 k c) cu b (nI n)) 263 0 z) 253 5 0) c 254 = h 254 := fun z => ch_n a254
          have hd9 := (hi.2.2.2.2.2.2.2.2.1 cu b (by omega) (by omega)).1
          have wi9 := (hi.2.2.2.2.2.2.2.2.1 cu b (by omega) (by omega)).2
          have st9 := (hi.2.2.2.2.2.1 b hb).2.2.1
          have hd92 := hd9.2
          have st92 := st9.2
          have hn : n ≤ nv (h 254 (776 + 16 * cu + b)) := by
            rcases Nat.lt_or_ge (nv (h 254 (776 + 16 * cu + b))) n with q | q
            · have e4 : nI n ≤ nI (nv (h 254 (776 + 16 * cu + b))) := by rw [← hd9.1]; exact e3
              exact absurd e4 (nI_ge q (by omega))
            · exact q
          have ev : h 254 (776 + 16 * cu + b) - nI n = nI (nv (h 254 (776 + 16 * cu + b)) - n) := by
            rw [hd9.1]; rw [nv_nI (by omega)]; exact pk_sub hn
          have es : h 254 (656 + 7 * b + 2) + nI n = nI (nv (h 254 (656 + 7 * b + 2)) + n) := by
            rw [st9.1]; rw [nv_nI (by omega)]; exact nI_add _ _
          have e20 : remH h 1 k c 20 (cu * 16 + b) + -nI n = h 254 (776 + 16 * cu + b) - nI n := by rw [ro 20 (by omega), ehd, Int32.sub_eq_add_neg]; rfl
          refine ⟨0, _, _, _, sp_L_giveBack_ok (sp_X7_giveBack_ok hfl hw hcu hb hk hk8 hc hc8 (by rw [wi_mn, e2, ehd, decide_eq_true e3]; rfl)), sp_X8_giveBack_ok (hm _ _ a254) hcu hb e2 (by unfold mHd; rw [hput_ne _ _ _ (by decide), a254]; exact e3) (sp_X8_rem (ch_2 (h := h) a253 t3) hc8),
            ch_end (h1 := gbkH (remH h 1 k c) cu b (nI n)) (z := h 20 (cu * 16 + b) + -nI n) hI hk8 hc8 hh ?_ ?_ ?_ ?_⟩
          · intro q hq; rw [gbkH, hput_ne _ _ _ (by omega), hput_ne _ _ _ (by omega), hput_ne _ _ _ (by omega)]
          · intro q hq; rw [gbM, sB, hput_ne _ _ _ hq, gb2, hput_ne _ _ _ hq, gb1, hput_ne _ _ _ hq]
          · simp only [gbM, sB, gb2, gb1, mWi, mB, mHd, hput_u, e9]
            rw [upR_ne (i := 904 + 16 * cu + b) _ _ (show 656 + 7 * b + 2 ≠ 904 + 16 * cu + b by omega), upR_ne (i := 776 + 16 * cu + b) _ _ (show 656 + 7 * b + 2 ≠ 776 + 16 * cu + b by omega), upR_ne (i := 776 + 16 * cu + b) _ _ (show 904 + 16 * cu + b ≠ 776 + 16 * cu + b by omega)]
            rw [upR_comm _ _ _ (show 904 + 16 * cu + b ≠ 656 + 7 * b + 2 by omega), upR_comm _ _ _ (show 776 + 16 * cu + b ≠ 656 + 7 * b + 2 by omega)]
            refine ⟨?_, hi.hold hcu hb (by rw [ev]; exact bd_nI (by omega) (by decide)) ?_ ?_ ?_⟩
            · unfold gbkH
              rw [e20, ro 22 (by omega), ro 15 (by omega), hR.wi (show cu < 8 by omega) (show b < 16 by omega), hR.bo (show b < 16 by omega) (show 2 < 7 by decide)]
              exact (((hR.rem hk8).ub6 (show b < 16 by omega) (show 2 < 7 by decide) _).ub8 (show cu < 8 by omega) (show b < 16 by omega) _).ub9 (show cu < 8 by omega) (show b < 16 by omega) _
            · split
              · exact wi9
              · rw [ev]; exact bd_nI (by omega) (by decide)
            · rw [ev, es, nv_nI (by omega), nv_nI (by omega)]; omega
            · rw [es, nv_nI (by omega)]
          · unfold mHd
            rw [e9, ehd, Int32.sub_eq_add_neg]; rfl
        · exact ⟨2, 0, h, _, sp_L_giveBack_x2 (sp_X7_giveBack_no3 hfl hw hcu hb (by rw [wi_mn, e2, ehd, decide_eq_false e3]; rfl)), sp_X8_giveBack_no4 hi.MW hcu hb e2 e3, rfl, fun q => absurd q (by decide), hI.fa.fa⟩
theorem jp_spill (hfl : l.stackTraces = false) : J_spill l G ad INV := by
  intro h x0 x1 hI
  obtain ⟨k, c, ⟨hk, hk8⟩, ⟨hc, hc8⟩, t3, hh⟩ := hI.2.2.1
  have hR := hI.1.1
  have hi := hI.1.2
  have hw := hi.WF hR
  have h24 : nLF (h 254) ≤ 24 := hi.1.1.2
  have ro : ∀ q, q < 49 ∨ 242 < q → remH h 1 k c q = h q := fun q hq => remH_o h 1 k c hk8 hq
  cases e0 : wiB x0 0 (h 2 5 - 1) with
  | false => exact ⟨1, 0, h, _, sp_L_spill_x1 (sp_X7_spill_no1 hfl e0), sp_X8_spill_no1 (by rw [← hR.c0]; exact e0), rfl, fun q => absurd q (by decide), hI.fa.fa⟩
  | true =>
    obtain ⟨lot, hlot, rfl⟩ := wi_of hw.1.1 (by omega) e0
    have hlot24 : lot < 24 := Nat.lt_of_lt_of_le hlot h24
    have hlot9 : lot < nv (h 254 0) := hlot
    have el : h 4 (lot * 5 + 1) = mL h lot 1 := hR.lot (by omega) (by decide)
    cases e2 : wiB x1 1 9999 with
    | false => exact ⟨2, 0, h, _, sp_L_spill_x2 (sp_X7_spill_no2 hfl hw hlot (by rw [wi_mn, e2]; rfl)), sp_X8_spill_no2 hi.MW hlot e2, rfl, fun q => absurd q (by decide), hI.fa.fa⟩
    | true =>
      by_cases e3 : x1 ≤ mL h lot 1
      · have hm : ∀ h1 : HP, ∀ z, h1 254 = h 254 → MW (hput h1 263 0 z) _ _ _ _ _ _ _ := fun h1 z e => MW_o hi.MW (by rw [hput_ne _ _ _ (by decide), e])
        obtain ⟨n, rfl, hn1, hn2⟩ := wi_bd (a := 1) (N := 9999) (by decide) (by decide) e2
        have a254 : spiH (remH h 1 k c) lot (nI n) 254 = h 254 := by rw [spiH, hput_ne _ _ _ (by decide), hput_ne _ _ _ (by decide), ro 254 (by omega)]
        have a253 : spiH (remH h 1 k c) lot (nI n) 253 = h 253 := by rw [spiH, hput_ne _ _ _ (by decide), hput_ne _ _ _ (by decide), ro 253 (by omega)]
        have e9 : ∀ z, remM (hput (hput (spiH (remH h 1 k c) lot (nI n)) 263 0 z) 253 5 0) c 254 = h 254 := fun z => ch_n a254
        have q9 := (hi.2.2.1 lot hlot).2.1
        have q92 := q9.2
        have hn : n ≤ nv (h 254 (8 + 25 * lot + 1)) := by
          rcases Nat.lt_or_ge (nv (h 254 (8 + 25 * lot + 1))) n with q | q
          · have e4 : nI n ≤ nI (nv (h 254 (8 + 25 * lot + 1))) := by rw [← q9.1]; exact e3
            exact absurd e4 (nI_ge q (by omega))
          · exact q
        have ev : h 254 (8 + 25 * lot + 1) - nI n = nI (nv (h 254 (8 + 25 * lot + 1)) - n) := by
          rw [q9.1]; rw [nv_nI (by omega)]; exact pk_sub hn
        have m1 : ∀ z, mL (remM (hput (hput (spiH (remH h 1 k c) lot (nI n)) 263 0 z) 253 5 0) c) lot 1 = h 254 (8 + 25 * lot + 1) := fun z => by unfold mL; rw [e9]
        refine ⟨0, _, _, _, sp_L_spill_ok (sp_X7_spill_ok hfl hw hk hk8 hc hc8 hlot (by rw [wi_mn, e2, el, decide_eq_true e3]; rfl)), sp_X8_spill_ok (hm _ _ a254) hlot e2 (by unfold mL; rw [hput_ne _ _ _ (by decide), a254]; exact e3) (sp_X8_rem (ch_2 (h := h) a253 t3) hc8),
          ch_end (h1 := spiH (remH h 1 k c) lot (nI n)) (z := h 4 (lot * 5 + 1) + -nI n) hI hk8 hc8 hh ?_ ?_ ?_ ?_⟩
        · intro q hq; rw [spiH, hput_ne _ _ _ (by omega), hput_ne _ _ _ (by omega)]
        · intro q hq; rw [spiM, hput_ne _ _ _ hq, sL, hput_ne _ _ _ hq]
        · rw [spiM, hput_u, sL, hput_u, m1, e9, upR_ne _ _ (show 4 ≠ 8 + 25 * lot + 1 by omega)]
          refine ⟨?_, hi.qty (fun j hj h4 hk => by rw [upR_ne _ _ h4, upR_ne _ _ (hk lot (by omega))]) (fun a ha => ?_)⟩
          · unfold spiH
            rw [ro 4 (by omega), ro 2 (by omega), el, hR.c4, ← Int32.sub_eq_add_neg]
            exact ((hR.rem hk8).ub1 (show lot < 24 by omega) (show 1 < 5 by decide) _).ua5 _
          · by_cases q : a = lot
            · subst q
              rw [upR_ne _ _ (by omega), upR_at, ev]
              exact ⟨bd_nI (by omega) (by decide), fun q => absurd hlot (by omega)⟩
            · rw [upR_ne _ _ (by omega), upR_ne _ _ (by omega)]
              rcases Nat.lt_or_ge a (nv (h 254 0)) with r | r
              · exact ⟨(hi.2.2.1 a r).2.1, fun q => absurd r (by omega)⟩
              · have z0 := hi.2.2.2.1 a 1 r ha (by decide)
                rw [z0]; exact ⟨bd_0 _, fun _ => rfl⟩
        · rw [spiM, mL, hput_k _ _ _ (by omega), sL, hput_at, m1, el, Int32.sub_eq_add_neg]; rfl
      · exact ⟨2, 0, h, _, sp_L_spill_x2 (sp_X7_spill_no2 hfl hw hlot (by rw [wi_mn, e2, el, decide_eq_false e3]; rfl)), sp_X8_spill_no3 hi.MW hlot e2 e3, rfl, fun q => absurd q (by decide), hI.fa.fa⟩
end JD
