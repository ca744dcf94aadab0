/-! BOTH SIDES TOGETHER: serve -/
theorem INV_ch2 {h h1 h2 : HP} {k c : Nat} {z : Int32} (hI : INV h) (hk8 : k < 8) (hc8 : c ≤ 8) (hh : HisOk h k c)
    (a : ∀ q, (24 < q ∧ q < 245) ∨ q = 0 ∨ 252 < q → h1 q = remH h 1 k c q) (b : ∀ q, q ≠ 254 → q ≠ 261 → h2 q = remM (hput (hput h1 263 0 z) 253 5 0) c q)
    (n : Rep h1 1 (h2 254) ∧ Inv (h2 254)) : INV h2 := by
  obtain ⟨hn, hS, hH, hIn, hR, h9⟩ := hI
  have e : ∀ q, q ≠ 253 → q ≠ 254 → q ≠ 255 → q ≠ 263 → q ≠ 261 → h2 q = h1 q := fun q q1 q2 q3 q4 q5 => by rw [b q q2 q5, remM_o _ _ q1 q3, hput_ne _ _ _ q1, hput_ne _ _ _ q4]
  have a2 : ∀ q, (24 < q ∧ q < 49) ∨ q = 0 ∨ (242 < q ∧ (q < 245 ∨ 252 < q)) → h1 q = h q := fun q hq => by rw [a q (by omega), remH_o h 1 k c hk8 (by omega)]
  have e2 : ∀ q, (24 < q ∧ q < 49) ∨ q = 0 ∨ (242 < q ∧ (q < 245 ∨ 252 < q) ∧ q ≠ 253 ∧ q ≠ 254 ∧ q ≠ 255 ∧ q ≠ 263 ∧ q ≠ 261) → h2 q = h q := fun q hq => by rw [e q (by omega) (by omega) (by omega) (by omega) (by omega), a2 q (by omega)]
  have em : ∀ j, j ≠ 2 → j ≠ 5 → h2 253 j = h 253 j := fun j h1 h2 => by rw [b 253 (by decide) (by decide), remM_k _ _ h1, hput_k _ _ _ h2, hput_ne _ _ _ (by decide), a2 253 (by omega)]
  have e0 := e2 0 (by omega)
  refine ⟨⟨n.1.congr (fun o h1 h2 => e _ (by omega) (by omega) (by omega) (by omega) (by omega)) (fun _ _ => rfl), n.2⟩,
    InvS_c hS (fun q h1 h2 => e2 q (by omega)) (by rw [e0]) (em 4 (by decide) (by decide)) (e2 256 (by omega)),
    InvH_rem hk8 hc8 hh hn (fun q h1 h2 => (e q (by omega) (by omega) (by omega) (by omega) (by omega)).trans (a q (by omega))) (by rw [b 253 (by decide) (by decide)]; exact remM_2 _ hc8) (fun i j hi hj => ?_),
    InvI_c hIn (by rw [e2 243 (by omega)]) (em 9 (by decide) (by decide)) (e2 244 (by omega)) (e2 257 (by omega)),
    InvR_c hR (by rw [e0]) (em 6 (by decide) (by decide)), by rw [e0, em 7 (by decide) (by decide)]; exact h9⟩
  rw [b 255 (by decide) (by decide), remM_row _ hc8 hi hj, hput_ne _ _ _ (by decide : (254 : Nat) ≠ 253), hput_ne _ _ _ (by decide : (254 : Nat) ≠ 263), hput_ne _ _ _ (by decide : (255 : Nat) ≠ 253), hput_ne _ _ _ (by decide : (255 : Nat) ≠ 263), a2 254 (by omega), a2 255 (by omega)]

theorem ch_end2 {h h1 h2 : HP} {k c : Nat} {z v : Int32} (hI : INV h) (hk8 : k < 8) (hc8 : c ≤ 8) (hh : HisOk h k c)
    (a : ∀ q, (24 < q ∧ q < 245) ∨ q = 0 ∨ 252 < q → h1 q = remH h 1 k c q) (b : ∀ q, q ≠ 254 → q ≠ 261 → h2 q = remM (hput (hput h1 263 0 z) 253 5 0) c q)
    (n : Rep h1 1 (h2 254) ∧ Inv (h2 254)) (ev : z = v) : h2 253 5 = 0 ∧ ((0 : Int32) = 0 → h2 263 0 = v) ∧ INV h2 :=
  ⟨by rw [b 253 (by decide) (by decide), remM_k _ _ (by decide), hput_at], fun _ => by rw [b 263 (by decide) (by decide), remM_o _ _ (by decide) (by decide), hput_ne _ _ _ (by decide), hput_at]; exact ev, INV_ch2 hI hk8 hc8 hh a b n⟩
theorem roH_at (h : HP) (nC b : Nat) : ∀ n k, k < n → roH h nC b n 261 k = caF h nC b (nI k) nC 0
  | 0, k, hk => absurd hk (Nat.not_lt_zero _)
  | n + 1, k, hk => by
      rw [roH]
      by_cases e : k = n
      · subst e
        rw [hput_at, caF_c (roH_o h nC b (by decide) k)]
      · rw [hput_k _ _ _ e, roH_at h nC b n k (by omega)]
def ocF (g : HP) (nC b k : Nat) : Nat := nv (caF g nC b (nI k) nC 0)
def RF (nC b : Nat) (g : HP) : HP × Int32 := ru (roH g nC b (cntB (fun c => liB g b c) nC)) (ocF g nC b) b (cntB (fun c => liB g b c) nC)
theorem RF_o (nC b : Nat) (g : HP) {q : Nat} (h1 : q ≠ 254) (h2 : q ≠ 261) : (RF nC b g).1 q = g q := by rw [RF, ru_o _ _ _ h1, roH_o _ _ _ h2]
theorem seF_o (nC b : Nat) {q : Nat} (h1 : q ≠ 254) (h2 : q ≠ 261) : ∀ n g s, (seF (RF nC b) b nC n g s).1 q = g q
  | 0, _, _ => rfl
  | n + 1, g, s => by
      rw [seF]
      split
      · rw [seF_o nC b h1 h2 n, RF_o nC b g h1 h2]
      · rfl
theorem hoR_o (kd ln : Nat → Nat) (b : Nat) (stock : Int32) (len : Nat) {q : Nat} (hq : q ≠ 20) : ∀ m x j, (hoR kd ln b stock len m x).1 q j = x.1 q j
  | 0, _, _ => rfl
  | m + 1, x, j => by
      rw [hoR]
      split
      · rw [hoR_o kd ln b stock len hq m, hoP_o _ _ _ _ _ _ _ _ hq]
      · rw [hoP_o _ _ _ _ _ _ _ _ hq]
theorem poN_c {L : Nat → Bool} {kd kd' : Nat → Nat} {nC c : Nat} (e : ∀ o, o < nC → kd o = kd' o) (hc : c < nC) : poN L kd nC c = poN L kd' nC c := by
  unfold poN
  rw [e c hc]
  exact cntB_c (fun o ho => b_eq (by rw [pr_iff, pr_iff, e o ho]))
section SA
variable {s0 : Nat → Int32} {S b : Nat} {y : HP × Int32} {g : HP}
theorem SvQ.oc (q : SvQ s0 S b y g) (hb : b < 16) {c : Nat} (hc : c < nv (s0 3)) (hl : liB g b c = true) : caF g (nv (s0 3)) b (nI (poN (liB g b) (kdF s0) (nv (s0 3)) c)) (nv (s0 3)) 0 = nI c := by
  obtain ⟨_, _, _, _, i0, f0, _⟩ := q
  have hC8 : nv (s0 3) ≤ 8 := by
    have := i0.1.2.2.2.2
    rw [f0 3 (by omega)] at this; exact this
  have ek : ∀ o, o < nv (s0 3) → kdF (g 254) o = kdF s0 o := fun o ho => by rw [kdF, kdF, f0 _ (by omega)]
  have hkd : ∀ c, c < nv (s0 3) → kdF s0 c < 3 := fun c hc => by
    rw [← ek c hc]; exact Nat.lt_succ_of_le (i0.2.2.2.2.2.2.2.1 c (by omega)).2
  obtain ⟨p1, p2, p3⟩ := pos_ok (L := liB g b) hkd hC8
  have hcl := cntB_le (liB g b) (nv (s0 3))
  have hp : ∀ d, d < nv (s0 3) → liB g b d = true → plI g (nv (s0 3)) d b = nI (poN (liB g b) (kdF s0) (nv (s0 3)) d) := fun d hd hl => by
    rw [pl_eq i0 hC8 hd, hl, if_pos rfl, poN_c ek hd]
  have hlt := p1 c hc hl
  refine caF_is (nI_pos (by omega)) (hp c hc hl) (fun d hd hq => ?_) _ _ (Nat.zero_le _) (by omega)
  cases el : liB g b d with
  | false =>
    rw [pl_eq i0 hC8 (by omega), el, if_neg (by decide)] at hq
    exact nI_m1 (by omega) hq.symm
  | true =>
    rw [hp d (by omega) el] at hq
    have hlt2 := p1 d (by omega) el
    have := p3 d c (by omega) hc el hl ((nI_eq (by omega) (by omega)).mp hq)
    omega
theorem SvQ.facts (q : SvQ s0 S b y g) : Inv (g 254) ∧ (∀ j, (j < 656 ∨ (768 ≤ j ∧ j < 776) ∨ 904 ≤ j) → g 254 j = s0 j) ∧ nv (s0 3) ≤ 8 ∧ nv (s0 2) ≤ 16 ∧ (∀ c, c < nv (s0 3) → kdF s0 c < 3) := by
  obtain ⟨_, _, _, _, i0, f0, _⟩ := q
  have hC8 : nv (s0 3) ≤ 8 := by
    have := i0.1.2.2.2.2
    rw [f0 3 (by omega)] at this; exact this
  have hB : nv (s0 2) ≤ 16 := by
    have := i0.1.2.2.1.2
    rw [f0 2 (by omega)] at this; exact this
  refine ⟨i0, f0, hC8, hB, fun c hc => ?_⟩
  have := (i0.2.2.2.2.2.2.2.1 c (by omega)).2
  rw [f0 _ (by omega)] at this
  exact Nat.lt_succ_of_le this
theorem SvQ.RF (q : SvQ s0 S b y g) (hb : b < 16) : RF (nv (s0 3)) b g = nwK (msS b) (liB g b) (kdF s0) (nv (s0 3)) (roH g (nv (s0 3)) b (cntB (fun c => liB g b c) (nv (s0 3))), 0) 3 := by
  obtain ⟨i0, f0, hC8, hB, hkd⟩ := q.facts
  rw [nwK_ar (ln := ocF g (nv (s0 3)) b) (fun c hc hl => by
    unfold ocF
    rw [q.oc hb hc hl, nv_nI (by omega)]) 3, pr_3 hkd]
  unfold Jvm.Pilot.CBottlingBookLaw_law_r8506_5d056e.RF
  rw [ru_ar]
theorem sv_all {L : Nat → Bool} {ln : Nat → Nat} (hb : b < nv (s0 2)) (hS : S ≤ 3333) (hln : ∀ c, c < nv (s0 3) → L c = true → ln (poN L (kdF s0) (nv (s0 3)) c) = c)
    (hL : ∀ y g, SvQ s0 S b y g → ∀ c, c < nv (s0 3) → liB g b c = true → L c = true) : ∀ n m (y : HP × Int32) (g : HP) (acc : Int32) (t : Nat), SvQ s0 S b y g → y.2 = nI t → acc = nI t → t ≤ S → S - t < n → S - t ≤ m →
    ∃ t', t' ≤ S ∧ (hoR (kdF s0) ln b (nI S) (cntB L (nv (s0 3))) m y).2 = nI t' ∧ (seF (Jvm.Pilot.CBottlingBookLaw_law_r8506_5d056e.RF (nv (s0 3)) b) b (nv (s0 3)) n g acc).2 = nI t' ∧ SvQ s0 S b (hoR (kdF s0) ln b (nI S) (cntB L (nv (s0 3))) m y) (seF (Jvm.Pilot.CBottlingBookLaw_law_r8506_5d056e.RF (nv (s0 3)) b) b (nv (s0 3)) n g acc).1 := by
  intro n
  induction n with
  | zero => intro m y g acc t _ _ _ _ h; exact absurd h (Nat.not_lt_zero _)
  | succ n ih =>
    intro m y g acc t q ht ha htS hn hm
    obtain ⟨i0, f0, hC8, hB, hkd⟩ := q.facts
    have hb16 : b < 16 := by omega
    obtain ⟨p1, p2, p3⟩ := pos_ok (L := L) hkd hC8
    obtain ⟨st, _⟩ := q.stock hb16 ht hS (by omega)
    have hoP_n : ∀ y, hoP (kdF s0) ln b (nI S) y (cntB L (nv (s0 3))) = nwK (csS (kdF s0) b (nI S)) L (kdF s0) (nv (s0 3)) y 3 := fun y => by
      rw [hoP_ar, nwK_ar hln 3, pr_3 hkd]
    rw [seF]
    by_cases hc : 0 < mB g b 2 ∧ 0 < cntB (fun c => liB g b c) (nv (s0 3))
    · rw [if_pos hc]
      have c1 : t < S := by
        have := hc.1
        unfold mB at this
        rw [st] at this
        have := (lt_nI (a := 0) (by omega) (by omega)).mp this
        omega
      obtain ⟨pp1, pp2, pp3⟩ := pos_ok (L := liB g b) hkd hC8
      obtain ⟨c0, c01, c02, c03⟩ := pp2 0 hc.2
      obtain ⟨a, a1, a2, a3, a4, a5, a6⟩ := sv_round (L := L) (g2 := roH g (nv (s0 3)) b (cntB (fun c => liB g b c) (nv (s0 3)))) q (roH_o _ _ _ (by decide) _) ht htS hS hb (hL y g q)
      rw [← q.RF hb16] at a2 a4
      rw [← hoP_n] at a1 a4
      have a0 : 0 < a := a6 c1 ⟨c0, c01, c02, Or.inl (hkd c0 c01)⟩
      obtain ⟨m, rfl⟩ : ∃ z, m = z + 1 := ⟨m - 1, by omega⟩
      rw [hoR, if_pos (by rw [ht, a1]; exact (lt_nI (by omega) (by omega)).mpr (by omega))]
      exact ih m _ _ _ (t + a) a4 a1 (by rw [ha, a2, nI_add]) a3 (by omega) (by omega)
    · rw [if_neg hc]
      have idle : ∀ c, c < nv (s0 3) → amN (g 254) b c (S - t) = 0 := fun c hcc => by
        by_cases r : t = S
        · unfold amN; omega
        · have : ¬ nv (g 254 (776 + 16 * c + b)) < nv (g 254 (904 + 16 * c + b)) := fun hlt => by
            have hl := (li_iff i0 hb16 (by omega)).mpr hlt
            refine hc ⟨?_, ?_⟩
            · unfold mB
              rw [st]
              exact (lt_nI (a := 0) (by omega) (by omega)).mpr (by omega)
            · have := (pos_ok (L := liB g b) hkd hC8).1 c hcc hl
              exact Nat.lt_of_le_of_lt (Nat.zero_le _) this
          unfold amN; omega
      have stay : ∀ k, k ≤ cntB L (nv (s0 3)) → SvQ s0 S b (hoP (kdF s0) ln b (nI S) y k) g ∧ (hoP (kdF s0) ln b (nI S) y k).2 = nI t := fun k => by
        induction k with
        | zero => exact fun _ => ⟨q, ht⟩
        | succ k ihk =>
          intro hk
          obtain ⟨u1, u2⟩ := ihk (by omega)
          obtain ⟨c, c1, c2, c3⟩ := p2 k (by omega)
          have hlk : ln k = c := by rw [← c3]; exact hln c c1 c2
          have := u1.idle hb hS u2 (by omega) c1 (idle c c1)
          rw [← hlk] at this
          exact this
      rcases (show m = 0 ∨ ∃ z, m = z + 1 from by rcases m with _ | z; exact Or.inl rfl; exact Or.inr ⟨z, rfl⟩) with rfl | ⟨m, rfl⟩
      · exact ⟨t, htS, ht, ha, q⟩
      · obtain ⟨u1, u2⟩ := stay _ (Nat.le_refl _)
        rw [hoR, if_neg (by rw [ht, u2]; exact fun r => absurd ((lt_nI (by omega) (by omega)).mp r) (Nat.lt_irrefl _))]
        exact ⟨t, htS, u2, ha, u1⟩
end SA
section JL
variable {l : Launch} {G : GC} {ad : Nat → Nat}
theorem jp_serve (hfl : l.stackTraces = false) : J_serve l G ad INV := by
  intro h x0 hI
  obtain ⟨k, c, ⟨hk, hk8⟩, ⟨hc, hc8⟩, t3, hh⟩ := hI.2.2.1
  have hR := hI.1.1
  have hi := hI.1.2
  have hw := hi.WF hR
  have h16 : nBF (h 254) ≤ 16 := hi.1.2.2.1.2
  have h8 : nCF (h 254) ≤ 8 := hi.1.2.2.2.2
  have ro : ∀ q, q < 49 ∨ 242 < q → remH h 1 k c q = h q := fun q hq => remH_o h 1 k c hk8 hq
  cases e0 : wiB x0 0 (h 13 1 - 1) with
  | false => exact ⟨1, 0, h, _, sp_L_serve_x1 (sp_X7_serve_no1 hfl e0), sp_X8_serve_no (by rw [← hR.c2]; exact e0), rfl, fun q => absurd q (by decide), hI.fa⟩
  | true =>
  obtain ⟨b, hb, rfl⟩ := wi_of hw.2.2.1.1 (by omega) e0
  have hb16 : b < 16 := Nat.lt_of_lt_of_le hb h16
  have hbn : b < nv (h 254 2) := hb
  have hkd3 : ∀ c, c < 8 → kdF (h 254) c < 3 := fun c hc => Nat.lt_succ_of_le (hi.2.2.2.2.2.2.2.1 c hc).2
  have hkd : ∀ c, c < 8 → h 18 (c * 1 + 0) = nI (kdF (h 254) c) ∧ kdF (h 254) c < 3 := fun c hc => ⟨(hR.ki hc).trans (hi.2.2.2.2.2.2.2.1 c hc).1, hkd3 c hc⟩
  have hlB : ∀ k' c', lnB (remH h 1 k c) b k' c' = lnB h b k' c' := fun k' c' => by
    unfold lnB
    rw [ro 18 (by omega), ro 20 (by omega), ro 22 (by omega)]
  obtain ⟨n1, n2, n3⟩ := line_ok (h := remH h 1 k c) (b := b) (nC := nCF (h 254)) (L := liB h b) (kd := kdF (h 254)) (fun k' c' hk' hc' => by rw [hlB]; exact ln_eq hR hi hb16 (by omega) hk') (fun c hc => hkd3 c (by omega))
  have hl8 : (lnK (remH h 1 k c) b (nCF (h 254)) 3).2 ≤ 8 := by rw [n1]; exact Nat.le_trans (cntB_le _ _) h8
  obtain ⟨ln, hlnd⟩ : ∃ f : Nat → Nat, f = fun j => nv ((lnK (remH h 1 k c) b (nCF (h 254)) 3).1 248 (0 * 8 + j)) := ⟨_, rfl⟩
  have hlnc : ∀ c', c' < nCF (h 254) → liB h b c' = true → ln (poN (liB h b) (kdF (h 254)) (nCF (h 254)) c') = c' := fun c' h1 h2 => by
    rw [hlnd]
    show nv _ = _
    rw [(n2 c' h1 h2).1, nv_nI (by omega)]
  have hln : ∀ j, j < (lnK (remH h 1 k c) b (nCF (h 254)) 3).2 → (lnK (remH h 1 k c) b (nCF (h 254)) 3).1 248 (0 * 8 + j) = nI (ln j) ∧ ln j < 8 := fun j hj => by
    obtain ⟨c', c1, c2, c3⟩ := n3 j hj
    have := hlnc c' c1 c2
    rw [c3] at this
    rw [this]
    refine ⟨?_, by omega⟩
    rw [← c3]; exact (n2 c' c1 c2).1
  have st9 := (hi.2.2.2.2.2.1 b hbn).2.2.1
  obtain ⟨S, hS⟩ : ∃ n, n = nv (h 254 (656 + 7 * b + 2)) := ⟨_, rfl⟩
  have hS3 : S ≤ 3333 := by rw [hS]; exact st9.2
  have eS : remH h 1 k c 15 (b * 7 + 2) = nI S := by rw [ro 15 (by omega), hS]; exact (hR.bo hb16 (by decide)).trans st9.1
  have lnO : ∀ q, q ≠ 248 → (lnK (remH h 1 k c) b (nCF (h 254)) 3).1 q = remH h 1 k c q := fun q hq => funext fun j => lnK_o _ _ _ 3 q j hq
  -- the start of the relation, on any heap of the model with that row
  have q0 : ∀ g : HP, g 254 = h 254 → SvQ (h 254) S b ((lnK (remH h 1 k c) b (nCF (h 254)) 3).1, 0) g := fun g eg => by
    refine ⟨0, Nat.zero_le _, rfl, ?_, by rw [eg]; exact hi, fun j _ => by rw [eg], fun c _ => by rw [eg]; exact Nat.le_refl _⟩
    rw [eg]
    refine (hR.rem (c := c) hk8).congr (fun a a1 a2 => ?_) (fun _ _ => rfl)
    rw [Nat.sub_zero, ← eS]
    funext j
    unfold hput
    by_cases p : 1 + a = 15
    · rw [if_pos p]
      by_cases p2 : j = b * 7 + 2
      · rw [if_pos p2, p, p2]
      · rw [if_neg p2, lnO _ (by omega)]
    · rw [if_neg p, lnO _ (by omega)]
  have hLs : ∀ y g, SvQ (h 254) S b y g → ∀ c', c' < nv (h 254 3) → liB g b c' = true → liB h b c' = true := fun y g q c' hc' hl => by
    have h8' : c' < 8 := Nat.lt_of_lt_of_le hc' h8
    obtain ⟨_, _, _, _, i0, f0, m0⟩ := q
    have u1 := (li_iff i0 hb16 h8').mp hl
    have u2 := m0 c' h8'
    rw [f0 (904 + 16 * c' + b) (by omega)] at u1
    exact (li_iff hi hb16 h8').mpr (by omega)
  have cl := sp_X7_serve_ok (l := l) (G := G) (ad := ad) hfl hw hb hk hk8 hc hc8 (kd := kdF (h 254)) (ln := ln) hkd hln hl8
  have a : ∀ q, (24 < q ∧ q < 245) ∨ q = 0 ∨ 252 < q → serH (remH h 1 k c) (kdF (h 254)) ln b (nCF (h 254)) q = remH h 1 k c q := fun q hq => by
    unfold serH hoB
    rw [hput_ne _ _ _ (by omega)]
    funext j
    rw [hoR_o _ _ _ _ _ (by omega), lnO q (by omega)]
  have a254 : serH (remH h 1 k c) (kdF (h 254)) ln b (nCF (h 254)) 254 = h 254 := by rw [a 254 (by omega), ro 254 (by omega)]
  have a253 : serH (remH h 1 k c) (kdF (h 254)) ln b (nCF (h 254)) 253 = h 253 := by rw [a 253 (by omega), ro 253 (by omega)]
  have e9 : ∀ z, remM (hput (hput (serH (remH h 1 k c) (kdF (h 254)) ln b (nCF (h 254))) 263 0 z) 253 5 0) c 254 = h 254 := fun z => ch_n a254
  have hmW : ∀ (y : HP × Int32) (g : HP), SvQ (h 254) S b y g → MW g (nLF (g 254)) (nHF (g 254)) (nBF (g 254)) (nCF (h 254)) (npF (g 254)) (plF (g 254)) (lbF (g 254)) := fun y g q => by
    obtain ⟨i0, f0, -⟩ := q.facts
    have e3 : nCF (g 254) = nCF (h 254) := by
      show nv _ = nv _
      rw [f0 3 (by omega)]
    rw [← e3]
    exact i0.MW
  obtain ⟨t', r1, r2, r3, r4⟩ := sv_all (s0 := h 254) (S := S) (b := b) (L := liB h b) (ln := ln) hbn hS3 hlnc hLs (S + 1) 3333 ((lnK (remH h 1 k c) b (nCF (h 254)) 3).1, 0) (remM (hput (hput (serH (remH h 1 k c) (kdF (h 254)) ln b (nCF (h 254))) 263 0 (hoB (remH h 1 k c) (kdF (h 254)) ln b (nCF (h 254))).2) 253 5 0) c) 0 0 (q0 _ (e9 _)) rfl rfl (Nat.zero_le _) (by omega) (by omega)
  have hob : hoB (remH h 1 k c) (kdF (h 254)) ln b (nCF (h 254)) = hoR (kdF (h 254)) ln b (nI S) (cntB (liB h b) (nv (h 254 3))) 3333 ((lnK (remH h 1 k c) b (nCF (h 254)) 3).1, 0) := by
    unfold hoB
    rw [eS, n1]
  rw [← hob] at r2 r4
  have hmu : nv (remM (hput (hput (serH (remH h 1 k c) (kdF (h 254)) ln b (nCF (h 254))) 263 0 (hoB (remH h 1 k c) (kdF (h 254)) ln b (nCF (h 254))).2) 253 5 0) c 254 (656 + 7 * b + 2)) + 1 = S + 1 := by rw [e9, hS]
  have md := sp_X8_serve_ok (l := l) (G := G) (ad := ad) (h := hput (serH (remH h 1 k c) (kdF (h 254)) ln b (nCF (h 254))) 263 0 (hoB (remH h 1 k c) (kdF (h 254)) ln b (nCF (h 254))).2) (b := b) (nC := nCF (h 254)) hb16 (by rw [hput_ne _ _ _ (by decide), a254, ← hR.c2]; exact e0) rfl (sp_X8_rem (ch_2 (h := h) a253 t3) hc8)
    (Inv := fun g => ∃ y t, SvQ (h 254) S b y g ∧ y.2 = nI t ∧ t ≤ S) (mu := fun g => nv (g 254 (656 + 7 * b + 2))) (R := RF (nCF (h 254)) b) ⟨_, 0, q0 _ (e9 _), rfl, Nat.zero_le _⟩
    (fun g ⟨y, t, q, _, _⟩ => by
      obtain ⟨i0, f0, -⟩ := q.facts
      exact ⟨by rw [f0 3 (by omega)]; exact hi.1.2.2.2.1, h8⟩)
    (fun g ⟨y, t, q, ht, htS⟩ g1 g2 => by
      obtain ⟨i0, f0, hC8, hB, hkd'⟩ := q.facts
      obtain ⟨pp1, pp2, pp3⟩ := pos_ok (L := liB g b) hkd' hC8
      have hcl := cntB_le (liB g b) (nv (h 254 3))
      obtain ⟨st, _⟩ := q.stock hb16 ht hS3 (by omega)
      have c1 : t < S := by
        unfold mB at g1
        rw [st] at g1
        have := (lt_nI (a := 0) (by omega) (by omega)).mp g1
        omega
      obtain ⟨c0, c01, c02, c03⟩ := pp2 0 g2
      obtain ⟨a', a1, a2, a3, a4, a5, a6⟩ := sv_round (L := liB h b) (g2 := roH g (nv (h 254 3)) b (cntB (fun c => liB g b c) (nv (h 254 3)))) q (roH_o _ _ _ (by decide) _) ht htS hS3 hbn (hLs y g q)
      rw [← q.RF hb16] at a2 a4
      have a0 : 0 < a' := a6 c1 ⟨c0, c01, c02, Or.inl (hkd' c0 c01)⟩
      refine ⟨sp_X8_round (hmW _ _ q) hb16 (Nat.le_trans hcl hC8) (oc := ocF g (nCF (h 254)) b) (fun j hj => ?_), ⟨_, t + a', a4, a1, a3⟩, ?_⟩
      · obtain ⟨c', u1, u2, u3⟩ := pp2 j hj
        rw [roH_at _ _ _ _ _ hj]
        have := q.oc hb16 u1 u2
        rw [u3] at this
        refine ⟨?_, ?_⟩
        · unfold ocF
          rw [show caF g (nCF (h 254)) b (nI j) (nCF (h 254)) 0 = nI c' from this, nv_nI (by omega)]
        · unfold ocF
          rw [show caF g (nCF (h 254)) b (nI j) (nCF (h 254)) 0 = nI c' from this, nv_nI (by omega)]
          omega
      · obtain ⟨st2, _⟩ := a4.stock hb16 a1 hS3 (by omega)
        show nv _ < nv _
        rw [st]
        have : (RF (nCF (h 254)) b g).1 254 (656 + 7 * b + 2) = nI (S - (t + a')) := st2
        rw [this, nv_nI (by omega), nv_nI (by omega)]
        omega)
    (fun g ⟨y, t, q, _, _⟩ => ⟨sp_X8_listMany (hmW _ _ q) hb16, by
      have := cntB_le (fun c => liB g b c) (nCF (h 254))
      omega⟩)
  rw [show (fun g : HP => nv (g 254 (656 + 7 * b + 2))) _ + 1 = S + 1 from hmu] at md
  refine ⟨0, _, _, _, sp_L_serve_ok cl, md, ch_end2 hI hk8 hc8 hh a (fun q h1 h2 => seF_o _ _ h1 h2 _ _ _) ?_ (r2.trans r3.symm)⟩
  obtain ⟨t2, v1, v2, v3, v4, v5, v6⟩ := r4
  refine ⟨?_, v4⟩
  have et : t' = t2 := by
    rw [r2] at v2
    exact (nI_eq (by omega) (by omega)).mp v2
  have e15 : (hoB (remH h 1 k c) (kdF (h 254)) ln b (nCF (h 254))).1 15 (b * 7 + 2) = nI S := by
    unfold hoB
    rw [hoR_o _ _ _ _ _ (by decide), lnO 15 (by decide)]; exact eS
  have ex : nI S + -nI t2 = nI (S - t2) := by rw [← Int32.sub_eq_add_neg]; exact pk_sub v1
  have eser : serH (remH h 1 k c) (kdF (h 254)) ln b (nCF (h 254)) = hput (hoB (remH h 1 k c) (kdF (h 254)) ln b (nCF (h 254))).1 15 (b * 7 + 2) (nI (S - t2)) := by
    unfold serH
    rw [e15, r2, et, ex]
  exact v3.congr (fun a _ _ => congrFun eser _) (fun _ _ => rfl)
end JL
