/-! BOTH SIDES TOGETHER: the waiting line -/
theorem cntB_up {p q : Nat → Bool} {i : Nat} : ∀ {n : Nat}, i < n → p i = false → q i = true → (∀ k, k < n → k ≠ i → q k = p k) → cntB q n = cntB p n + 1
  | 0, h, _, _, _ => absurd h (Nat.not_lt_zero _)
  | n + 1, h, h1, h2, h3 => by
      rw [cntB, cntB]
      by_cases e : i = n
      · subst e
        rw [h1, h2, cntB_c (fun k hk => h3 k (by omega) (by omega))]; rfl
      · rw [cntB_up (n := n) (by omega) h1 h2 (fun k hk hne => h3 k (by omega) hne), h3 n (by omega) (by omega)]
        omega
theorem firstF_is {p : Nat → Bool} {t : Nat} (h1 : p t = true) (h0 : ∀ j, j < t → p j = false) : ∀ d n, d ≤ t → t < d + n → firstF p d n = nI t := by
  intro d n
  induction n generalizing d with
  | zero => intro _ h; omega
  | succ n ih =>
    intro hd hn
    by_cases e : d = t
    · rw [e]; exact firstF_t h1
    · rw [firstF_s (h0 d (by omega))]; exact ih (d + 1) (by omega) (by omega)
theorem firstF_no {p : Nat → Bool} : ∀ n d, (∀ j, d ≤ j → j < d + n → p j = false) → firstF p d n = -1 := by
  intro n
  induction n with
  | zero => intro d _; rfl
  | succ n ih => intro d h; rw [firstF_s (h d (by omega) (by omega))]; exact ih (d + 1) (fun j h1 h2 => h j (by omega) (by omega))
/-- who has been put on the line, when kinds below k and of kind k the customers below i have been asked -/
def prB (L : Nat → Bool) (kd : Nat → Nat) (k i o : Nat) : Bool := L o && (decide (kd o < k) || (decide (kd o = k) && decide (o < i)))
def poN (L : Nat → Bool) (kd : Nat → Nat) (nC c : Nat) : Nat := cntB (prB L kd (kd c) c) nC
theorem pr_iff {L : Nat → Bool} {kd : Nat → Nat} {k i o : Nat} : prB L kd k i o = true ↔ L o = true ∧ (kd o < k ∨ (kd o = k ∧ o < i)) := by
  unfold prB
  simp [Bool.and_eq_true, Bool.or_eq_true]
theorem b_eq {a b : Bool} (h : a = true ↔ b = true) : a = b := by
  cases a <;> cases b <;> simp_all
def LnOk (h : HP) (L : Nat → Bool) (kd : Nat → Nat) (nC k i : Nat) (x : HP × Nat) : Prop :=
  x.2 = cntB (prB L kd k i) nC ∧ (∀ c, c < nC → prB L kd k i c = true → x.1 248 (0 * 8 + poN L kd nC c) = nI c ∧ poN L kd nC c < x.2) ∧ (∀ t, t < x.2 → ∃ c, c < nC ∧ prB L kd k i c = true ∧ poN L kd nC c = t)
theorem LnOk.c {h : HP} {L : Nat → Bool} {kd : Nat → Nat} {nC k i k' i' : Nat} {x : HP × Nat} (a : LnOk h L kd nC k i x) (e : ∀ o, o < nC → prB L kd k' i' o = prB L kd k i o) : LnOk h L kd nC k' i' x := by
  obtain ⟨a1, a2, a3⟩ := a
  refine ⟨by rw [a1]; exact (cntB_c e).symm, fun c hc hp => a2 c hc (by rw [← e c hc]; exact hp), fun t ht => ?_⟩
  obtain ⟨c, h1, h2, h3⟩ := a3 t ht
  exact ⟨c, h1, by rw [e c h1]; exact h2, h3⟩
theorem lnI_ok {h : HP} {b nC k : Nat} {L : Nat → Bool} {kd : Nat → Nat} (hL : ∀ c, c < nC → (lnB h b k c = true ↔ (L c = true ∧ kd c = k))) {x : HP × Nat} (hx : LnOk h L kd nC k 0 x) : ∀ i, i ≤ nC → LnOk h L kd nC k i (lnI h b k i x) := by
  intro i
  induction i with
  | zero => exact fun _ => hx
  | succ i ih =>
    intro hi
    have ih := ih (by omega)
    rw [lnI]
    cases e : lnB h b k i with
    | false =>
      rw [if_neg (by decide)]
      refine ih.c (fun o ho => b_eq ?_)
      rw [pr_iff, pr_iff]
      have := hL i (by omega)
      constructor
      · rintro ⟨h1, h2⟩
        refine ⟨h1, ?_⟩
        rcases h2 with q | ⟨q1, q2⟩
        · exact Or.inl q
        · by_cases r : o = i
          · subst r
            rw [this.mpr ⟨h1, q1⟩] at e; cases e
          · exact Or.inr ⟨q1, by omega⟩
      · rintro ⟨h1, h2⟩
        exact ⟨h1, h2.imp id (fun q => ⟨q.1, by omega⟩)⟩
    | true =>
      rw [if_pos rfl]
      obtain ⟨q1, q2⟩ := (hL i (by omega)).mp e
      obtain ⟨a1, a2, a3⟩ := ih
      have hp : poN L kd nC i = (lnI h b k i x).2 := by unfold poN; rw [q2, a1]
      have hcn : cntB (prB L kd k (i + 1)) nC = cntB (prB L kd k i) nC + 1 := by
        refine cntB_up (i := i) (by omega) ?_ (pr_iff.mpr ⟨q1, Or.inr ⟨q2, by omega⟩⟩) (fun o ho hne => b_eq ?_)
        · cases r : prB L kd k i i with
          | false => rfl
          | true => have := (pr_iff.mp r).2; omega
        · rw [pr_iff, pr_iff]
          constructor
          · rintro ⟨h1, h2⟩
            exact ⟨h1, h2.imp id (fun q => ⟨q.1, by omega⟩)⟩
          · rintro ⟨h1, h2⟩
            exact ⟨h1, h2.imp id (fun q => ⟨q.1, by omega⟩)⟩
      have hold : ∀ c, c ≠ i → prB L kd k (i + 1) c = true → prB L kd k i c = true := fun c hne hpr => by
        obtain ⟨h1, h2⟩ := pr_iff.mp hpr
        exact pr_iff.mpr ⟨h1, h2.imp id (fun q => ⟨q.1, by omega⟩)⟩
      refine ⟨by rw [hcn]; exact congrArg (· + 1) a1, fun c hc hpr => ?_, fun t ht => ?_⟩
      · show hput (lnI h b k i x).1 248 (0 * 8 + (lnI h b k i x).2) (nI i) 248 (0 * 8 + poN L kd nC c) = nI c ∧ poN L kd nC c < (lnI h b k i x).2 + 1
        by_cases r : c = i
        · subst r
          rw [hp, hput_at]
          exact ⟨rfl, by omega⟩
        · obtain ⟨h1, h2⟩ := a2 c hc (hold c r hpr)
          rw [hput_k _ _ _ (by omega)]
          exact ⟨h1, by omega⟩
      · rcases Nat.lt_succ_iff_lt_or_eq.mp ht with r | r
        · obtain ⟨c, h1, h2, h3⟩ := a3 t r
          obtain ⟨u1, u2⟩ := pr_iff.mp h2
          exact ⟨c, h1, pr_iff.mpr ⟨u1, u2.imp id (fun q => ⟨q.1, by omega⟩)⟩, h3⟩
        · exact ⟨i, by omega, pr_iff.mpr ⟨q1, Or.inr ⟨q2, by omega⟩⟩, by rw [hp, r]⟩
theorem lnK_ok {h : HP} {b nC : Nat} {L : Nat → Bool} {kd : Nat → Nat} (hL : ∀ k c, k < 3 → c < nC → (lnB h b k c = true ↔ (L c = true ∧ kd c = k))) : ∀ k, k ≤ 3 → LnOk h L kd nC k 0 (lnK h b nC k) := by
  intro k
  induction k with
  | zero =>
    intro _
    refine ⟨?_, fun c hc hp => ?_, fun t ht => absurd ht (Nat.not_lt_zero _)⟩
    · show 0 = _
      refine Eq.symm ((cntB_c (q := fun _ => false) (fun o ho => ?_)).trans ?_)
      · cases r : prB L kd 0 0 o with
        | false => rfl
        | true => have := (pr_iff.mp r).2; omega
      · have : ∀ n, cntB (fun _ => false) n = 0 := fun n => by
          induction n with
          | zero => rfl
          | succ n ih => rw [cntB, ih]; rfl
        exact this nC
    · have := (pr_iff.mp hp).2; omega
  | succ k ih =>
    intro hk
    refine (lnI_ok (hL k · (by omega) ·) (ih (by omega)) nC (Nat.le_refl _)).c (fun o ho => b_eq ?_)
    rw [pr_iff, pr_iff]
    constructor
    · rintro ⟨h1, h2⟩; exact ⟨h1, by omega⟩
    · rintro ⟨h1, h2⟩; exact ⟨h1, by omega⟩
/-- what the line holds -/
theorem line_ok {h : HP} {b nC : Nat} {L : Nat → Bool} {kd : Nat → Nat} (hL : ∀ k c, k < 3 → c < nC → (lnB h b k c = true ↔ (L c = true ∧ kd c = k))) (hkd : ∀ c, c < nC → kd c < 3) :
    (lnK h b nC 3).2 = cntB L nC ∧ (∀ c, c < nC → L c = true → (lnK h b nC 3).1 248 (0 * 8 + poN L kd nC c) = nI c ∧ poN L kd nC c < (lnK h b nC 3).2) ∧ (∀ t, t < (lnK h b nC 3).2 → ∃ c, c < nC ∧ L c = true ∧ poN L kd nC c = t) := by
  obtain ⟨a1, a2, a3⟩ := lnK_ok hL 3 (Nat.le_refl _)
  have e : ∀ o, o < nC → prB L kd 3 0 o = L o := fun o ho => b_eq (by
    rw [pr_iff]
    exact ⟨fun q => q.1, fun q => ⟨q, Or.inl (hkd o ho)⟩⟩)
  refine ⟨a1.trans (cntB_c e), fun c hc hl => a2 c hc (by rw [e c hc]; exact hl), fun t ht => ?_⟩
  obtain ⟨c, h1, h2, h3⟩ := a3 t ht
  exact ⟨c, h1, by rw [← e c h1]; exact h2, h3⟩
abbrev kdF (s : Nat → Int32) (c : Nat) : Nat := nv (s (768 + c))
theorem ms_pos {w d : Nat} (hw : w < 100000) (hd : d < 100000) : (0 < msI (nI w) (nI d)) ↔ d < w := by
  unfold msI
  rcases Nat.lt_or_ge d w with q | q
  · have e : nI w - nI d = nI (w - d) := pk_sub (by omega)
    have p0 : (0 : Int32) < nI (w - d) := nI_lt (a := 0) (show 0 < w - d by omega) (by omega)
    rw [e, if_pos p0]
    exact ⟨fun _ => q, fun _ => p0⟩
  · have e : ¬ (0 : Int32) < nI w - nI d := by
      have t := pk_sub_toInt (a := w) (b := d) (by omega) (by omega)
      intro r
      have r2 := Int32.lt_iff_toInt_lt.mp r
      rw [t] at r2
      have : (0 : Int32).toInt = 0 := by decide
      omega
    rw [if_neg e]
    exact ⟨fun r => absurd r (by decide), fun r => absurd r (by omega)⟩
theorem ln_eq {h : HP} (hR : Rep h 1 (h 254)) (hi : Inv (h 254)) {b c k : Nat} (hb : b < 16) (hc : c < 8) (hk : k < 3) : lnB h b k c = true ↔ (liB h b c = true ∧ kdF (h 254) c = k) := by
  have k1 := hi.2.2.2.2.2.2.2.1 c hc
  have k2 := k1.2
  obtain ⟨d1, d2⟩ := hi.2.2.2.2.2.2.2.2.1 c b hc hb
  have d12 := d1.2
  have d22 := d2.2
  unfold lnB liB
  rw [hR.ki hc, hR.wi hc hb, hR.hd hc hb]
  unfold mWi mHd
  rw [Bool.and_eq_true, decide_eq_true_iff, decide_eq_true_iff, decide_eq_true_iff, d1.1, d2.1, k1.1, ms_pos (by omega) (by omega), nI_eq (by omega) (by omega)]
  have : nI (nv (h 254 (776 + 16 * c + b))) < nI (nv (h 254 (904 + 16 * c + b))) ↔ nv (h 254 (776 + 16 * c + b)) < nv (h 254 (904 + 16 * c + b)) := by
    constructor
    · intro q
      rcases Nat.lt_or_ge (nv (h 254 (776 + 16 * c + b))) (nv (h 254 (904 + 16 * c + b))) with r | r
      · exact r
      · exact absurd q (nI_nlt r (by omega))
    · exact fun q => nI_lt q (by omega)
  rw [this]
  exact ⟨fun q => ⟨q.2, q.1⟩, fun q => ⟨q.2, q.1⟩⟩
theorem ah_eq {h : HP} (hi : Inv (h 254)) {c o : Nat} (hc : c < 8) (ho : o < 8) : ahB h o c = true ↔ (kdF (h 254) o < kdF (h 254) c ∨ (kdF (h 254) o = kdF (h 254) c ∧ o < c)) := by
  have k1 := hi.2.2.2.2.2.2.2.1 c hc
  have k2 := hi.2.2.2.2.2.2.2.1 o ho
  have k12 := k1.2
  have k22 := k2.2
  have t : (h 254 (768 + o) - h 254 (768 + c)).toInt = (kdF (h 254) o : Int) - kdF (h 254) c := by
    rw [k1.1, k2.1]; exact pk_sub_toInt (by omega) (by omega)
  unfold ahB
  by_cases e : h 254 (768 + o) - h 254 (768 + c) = 0
  · rw [if_pos e, decide_eq_true_iff]
    rw [e] at t
    have z : (0 : Int32).toInt = 0 := by decide
    have : (nI o < nI c) ↔ o < c := by
      constructor
      · intro q
        rcases Nat.lt_or_ge o c with r | r
        · exact r
        · exact absurd q (nI_nlt r (by omega))
      · exact fun q => nI_lt q (by omega)
    rw [this]
    omega
  · rw [if_neg e, decide_eq_true_iff, Int32.lt_iff_toInt_lt, t]
    have z : (0 : Int32).toInt = 0 := by decide
    have ne : (kdF (h 254) o : Int) - kdF (h 254) c ≠ 0 := fun q => e (Int32.toInt_inj.mp (by rw [t, z]; exact q))
    rw [z]
    omega
theorem po_eq {h : HP} (hi : Inv (h 254)) {b nC c : Nat} (hC : nC ≤ 8) (hc : c < nC) : cntB (fun o => liB h b o && ahB h o c) nC = poN (liB h b) (kdF (h 254)) nC c :=
  cntB_c (fun o ho => b_eq (by rw [pr_iff, Bool.and_eq_true, ah_eq hi (by omega) (by omega)]))
theorem po_lt (L : Nat → Bool) (kd : Nat → Nat) (nC c : Nat) : poN L kd nC c ≤ nC := cntB_le _ _
theorem pl_eq {h : HP} (hi : Inv (h 254)) {b nC c : Nat} (hC : nC ≤ 8) (hc : c < nC) : plI h nC c b = if liB h b c then nI (poN (liB h b) (kdF (h 254)) nC c) else -1 := by
  unfold plI
  rw [po_eq hi hC hc]
theorem caF_is {h : HP} {nC b c : Nat} {p : Int32} (hp : ¬ p < 0) (h1 : plI h nC c b = p) (h0 : ∀ d, d < c → plI h nC d b ≠ p) : ∀ n d, d ≤ c → c < d + n → caF h nC b p n d = nI c := by
  intro n
  induction n with
  | zero => intro d _ h; omega
  | succ n ih =>
    intro d hd hn
    rw [caF, if_neg hp]
    by_cases e : d = c
    · rw [e, if_pos h1]
    · rw [if_neg (h0 d (by omega))]; exact ih (d + 1) (by omega) (by omega)
theorem caF_no {h : HP} {nC b : Nat} {p : Int32} : ∀ n d, (∀ c, d ≤ c → c < d + n → ¬ p < 0 → plI h nC c b ≠ p) → caF h nC b p n d = -1 := by
  intro n
  induction n with
  | zero => intro d _; rfl
  | succ n ih =>
    intro d h
    rw [caF]
    by_cases hp : p < 0
    · rw [if_pos hp]
    · rw [if_neg hp, if_neg (h d (by omega) (by omega) hp)]; exact ih (d + 1) (fun c h1 h2 => h c (by omega) (by omega))
section JH
variable {l : Launch} {G : GC} {ad : Nat → Nat}
theorem INV.ln {h : HP} (i : INV h) (b nC : Nat) : INV (lnK h b nC 3).1 := i.o (p := 248) (by omega) (fun q hq => funext fun j => lnK_o h b nC 3 q j hq)
theorem ln_254 (h : HP) (b nC : Nat) : (lnK h b nC 3).1 254 = h 254 := funext fun j => lnK_o h b nC 3 254 j (by decide)
theorem jp_listed (hfl : l.stackTraces = false) : J_listed l G ad INV := by
  intro h x0 x1 hI
  have hR := hI.1.1
  have hi := hI.1.2
  have hw := hi.WF hR
  have h16 : nBF (h 254) ≤ 16 := hi.1.2.2.1.2
  have h8 : nCF (h 254) ≤ 8 := hi.1.2.2.2.2
  cases e0 : wiB x0 0 (h 13 1 - 1) with
  | false => exact ⟨1, 0, h, _, sp_L_listed_x1 (sp_X7_listed_no1 hfl e0), sp_X8_listed_no1 (by rw [← hR.c2]; exact e0), rfl, fun q => absurd q (by decide), hI.fa.fa⟩
  | true =>
  obtain ⟨b, hb, rfl⟩ := wi_of hw.2.2.1.1 (by omega) e0
  have hb16 : b < 16 := Nat.lt_of_lt_of_le hb h16
  obtain ⟨n1, n2, n3⟩ := line_ok (h := h) (b := b) (nC := nCF (h 254)) (L := liB h b) (kd := kdF (h 254)) (fun k c hk hc => ln_eq hR hi hb16 (by omega) hk) (fun c hc => Nat.lt_succ_of_le (hi.2.2.2.2.2.2.2.1 c (by omega)).2)
  have hl8 : (lnK h b (nCF (h 254)) 3).2 ≤ 8 := by rw [n1]; exact Nat.le_trans (cntB_le _ _) h8
  have hm : ∀ g : HP, g 254 = h 254 → MW g _ _ _ _ _ _ _ := fun g e => MW_o hi.MW e
  cases e1 : wiB x1 0 (nI (lnK h b (nCF (h 254)) 3).2 - 1) with
  | false =>
    have hno : caF (lnK h b (nCF (h 254)) 3).1 (nCF (h 254)) b x1 (nCF (h 254)) 0 = -1 := caF_no _ _ (fun c _ hc hp hq => by
      rw [plI_c (ln_254 h b _), pl_eq hi h8 (by omega)] at hq
      cases el : liB h b c with
      | false =>
        rw [el, if_neg (by decide)] at hq
        rw [← hq] at hp; exact hp (by decide)
      | true =>
        rw [el, if_pos rfl] at hq
        have := (n2 c (by omega) el).2
        rw [← hq, wi_ok rfl this (by omega)] at e1; cases e1)
    exact ⟨2, 0, _, _, sp_L_listed_x2 (sp_X7_listed_no2 hfl hw hb e1), sp_X8_listed_no2 (hm _ (ln_254 h b _)) hb hno, rfl, fun q => absurd q (by decide), (hI.ln b _).fa.fa⟩
  | true =>
    obtain ⟨t, ht, rfl⟩ := wi_of rfl (by omega) e1
    obtain ⟨c, c1, c2, c3⟩ := n3 t ht
    have hca : ∀ z, caF (hput (lnK h b (nCF (h 254)) 3).1 263 0 z) (nCF (h 254)) b (nI t) (nCF (h 254)) 0 = nI c := fun z => by
      rw [caF_c (show hput (lnK h b (nCF (h 254)) 3).1 263 0 z 254 = h 254 from by rw [hput_ne _ _ _ (by decide)]; exact ln_254 h b _)]
      refine caF_is (nI_pos (by omega)) (by rw [pl_eq hi h8 c1, c2, if_pos rfl, c3]) (fun d hd hq => ?_) _ _ (Nat.zero_le _) (by omega)
      rw [pl_eq hi h8 (by omega)] at hq
      cases el : liB h b d with
      | false =>
        rw [el, if_neg (by decide)] at hq
        exact nI_m1 (by omega) hq.symm
      | true =>
        rw [el, if_pos rfl] at hq
        obtain ⟨u1, u2⟩ := n2 d (by omega) el
        have u3 := (nI_eq (by omega) (by omega)).mp hq
        rw [u3] at u1
        have u4 := (n2 c c1 c2).1
        rw [c3, u1] at u4
        have := (nI_eq (by omega) (by omega)).mp u4
        omega
    refine ⟨0, _, _, _, sp_L_listed_ok (sp_X7_listed_ok hfl hw hb ht hl8), sp_X8_listed_ok (hm _ (by rw [hput_ne _ _ _ (by decide)]; exact ln_254 h b _)) hb (by rw [hca]; exact nI_m1 (by omega)), rfl, fun _ => ?_, (hI.ln b _).o3.fa⟩
    rw [hca]
    have u4 := (n2 c c1 c2).1
    rw [c3] at u4
    rw [faH, hput_ne _ _ _ (by decide), hput_at]; exact u4
theorem jp_holds (hfl : l.stackTraces = false) : J_holds l G ad INV := by
  intro h x0 x1 x2 hI
  have hR := hI.1.1
  have hi := hI.1.2
  have hw := hi.WF hR
  have h16 : nBF (h 254) ≤ 16 := hi.1.2.2.1.2
  have h8 : nCF (h 254) ≤ 8 := hi.1.2.2.2.2
  have hm : ∀ g : HP, g 254 = h 254 → MW g _ _ _ _ _ _ _ := fun g e => MW_o hi.MW e
  cases e0 : wiB x0 0 (h 16 3 - 1) with
  | false => exact ⟨1, 0, h, _, sp_L_holds_x1 (sp_X7_holds_no1 hfl e0), sp_X8_holds_no1 (by rw [← hR.c3]; exact e0), rfl, fun q => absurd q (by decide), hI.fa.fa⟩
  | true =>
  cases e1 : wiB x1 0 (h 13 1 - 1) with
  | false => exact ⟨1, 0, h, _, sp_L_holds_x1 (sp_X7_holds_no2 hfl e0 e1), sp_X8_holds_no2 (by rw [← hR.c3]; exact e0) (by rw [← hR.c2]; exact e1), rfl, fun q => absurd q (by decide), hI.fa.fa⟩
  | true =>
  obtain ⟨cu, hcu, rfl⟩ := wi_of hw.2.2.2.1.1 (by omega) e0
  obtain ⟨b, hb, rfl⟩ := wi_of hw.2.2.1.1 (by omega) e1
  have hcu8 : cu < 8 := Nat.lt_of_lt_of_le hcu h8
  have hb16 : b < 16 := Nat.lt_of_lt_of_le hb h16
  cases e2 : wiB x2 0 2 with
  | false =>
    have hno : ∀ n, n ≤ 2 → x2 ≠ nI n := fun n hn q => by
      have := wi_no (N := 2) (by decide) (n := n) (by omega) e2 q; omega
    exact ⟨2, 0, h, _, sp_L_holds_x2 (sp_X7_holds_no3 hfl hw hcu hb e2), sp_X8_holds_no3 hi.MW hcu hb (hno 0 (by decide)) (hno 1 (by decide)) (hno 2 (by decide)), rfl, fun q => absurd q (by decide), hI.fa.fa⟩
  | true =>
  obtain ⟨j, hj, rfl⟩ := wi_in (N := 2) (by decide) e2
  rcases (show j = 0 ∨ j = 1 ∨ j = 2 by omega) with rfl | rfl | rfl
  · exact ⟨0, _, _, _, sp_L_holds_ok (sp_X7_holds_k0 hfl hw hcu hb), sp_X8_holds_k0 (hm _ (hput_ne _ _ _ (by decide))) hcu hb, rfl, fun _ => hR.hd hcu8 hb16, hI.o3.fa⟩
  · exact ⟨0, _, _, _, sp_L_holds_ok (sp_X7_holds_k1 hfl hw hcu hb), sp_X8_holds_k1 (hm _ (hput_ne _ _ _ (by decide))) hcu hb, rfl, fun _ => hR.wi hcu8 hb16, hI.o3.fa⟩
  · obtain ⟨n1, n2, n3⟩ := line_ok (h := h) (b := b) (nC := nCF (h 254)) (L := liB h b) (kd := kdF (h 254)) (fun k c hk hc => ln_eq hR hi hb16 (by omega) hk) (fun c hc => Nat.lt_succ_of_le (hi.2.2.2.2.2.2.2.1 c (by omega)).2)
    have hl8 : (lnK h b (nCF (h 254)) 3).2 ≤ 8 := by rw [n1]; exact Nat.le_trans (cntB_le _ _) h8
    refine ⟨0, _, _, _, sp_L_holds_ok (sp_X7_holds_k2 hfl hw hcu hb hl8), sp_X8_holds_k2 (hm _ (by rw [hput_ne _ _ _ (by decide)]; exact ln_254 h b _)) hcu hb, rfl, fun _ => ?_, (hI.ln b _).o3.fa⟩
    rw [faH, hput_ne _ _ _ (by decide), hput_at, plI_c (show hput (lnK h b (nCF (h 254)) 3).1 263 0 _ 254 = h 254 from by rw [hput_ne _ _ _ (by decide)]; exact ln_254 h b _), pl_eq hi h8 hcu]
    cases el : liB h b cu with
    | true =>
      rw [if_pos rfl]
      obtain ⟨u1, u2⟩ := n2 cu hcu el
      refine firstF_is (decide_eq_true (by rw [← u1, Nat.zero_mul, Nat.zero_add])) (fun d hd => decide_eq_false (fun hq => ?_)) _ _ (Nat.zero_le _) (by omega)
      obtain ⟨c, c1, c2, c3⟩ := n3 d (by omega)
      have u4 := (n2 c c1 c2).1
      rw [c3, Nat.zero_mul, Nat.zero_add, hq] at u4
      have := (nI_eq (by omega) (by omega)).mp u4
      subst this
      omega
    | false =>
      rw [if_neg (by decide)]
      refine firstF_no _ _ (fun d _ hd => decide_eq_false (fun hq => ?_))
      obtain ⟨c, c1, c2, c3⟩ := n3 d (by omega)
      have u4 := (n2 c c1 c2).1
      rw [c3, Nat.zero_mul, Nat.zero_add, hq] at u4
      have := (nI_eq (by omega) (by omega)).mp u4
      subst this
      rw [c2] at el; cases el
theorem fb_c {h h' : HP} (e : h' 254 = h 254) (lot nH : Nat) (v g s r : Int32) : fbM h' lot nH v g s r = fbM h lot nH v g s r := by
  unfold fbM agM gsF shM mHv mL
  rw [e]
theorem jp_bottling (hfl : l.stackTraces = false) : J_bottling l G ad INV := by
  intro h x0 x1 hI
  have hR := hI.1.1
  have hi := hI.1.2
  have hw := hi.WF hR
  have h24 : nLF (h 254) ≤ 24 := hi.1.1.2
  have h12 : nHF (h 254) ≤ 12 := hi.1.2.1.2
  have h16 : nBF (h 254) ≤ 16 := hi.1.2.2.1.2
  have h8 : nCF (h 254) ≤ 8 := hi.1.2.2.2.2
  have hm : ∀ g : HP, g 254 = h 254 → MW g _ _ _ _ _ _ _ := fun g e => MW_o hi.MW e
  cases e0 : wiB x0 0 (h 13 1 - 1) with
  | false => exact ⟨1, 0, h, _, sp_L_bottling_x1 (sp_X7_bottling_no1 hfl e0), sp_X8_bottling_no1 (by rw [← hR.c2]; exact e0), rfl, fun q => absurd q (by decide), hI.fa.fa⟩
  | true =>
  obtain ⟨b, hb, rfl⟩ := wi_of hw.2.2.1.1 (by omega) e0
  have hb16 : b < 16 := Nat.lt_of_lt_of_le hb h16
  cases e2 : wiB x1 0 8 with
  | false =>
    have hno : ∀ n, n ≤ 8 → x1 ≠ nI n := fun n hn q => by
      have := wi_no (N := 8) (by decide) (n := n) (by omega) e2 q; omega
    exact ⟨2, 0, h, _, sp_L_bottling_x2 (sp_X7_bottling_no2 hfl hw hb e2), sp_X8_bottling_no2 hi.MW hb (wi_nin (N := 6) (by decide) (fun n hn => hno n (by omega))) (hno 7 (by decide)) (hno 8 (by decide)), rfl, fun q => absurd q (by decide), hI.fa.fa⟩
  | true =>
  obtain ⟨j, hj, rfl⟩ := wi_in (N := 8) (by decide) e2
  rcases (show j < 7 ∨ j = 7 ∨ j = 8 by omega) with q | rfl | rfl
  · exact ⟨0, _, _, _, sp_L_bottling_ok (sp_X7_bottling_k hfl hw hb q), sp_X8_bottling_k (hm _ (hput_ne _ _ _ (by decide))) hb q, rfl, fun _ => hR.bo hb16 q, hI.o3.fa⟩
  · obtain ⟨n1, n2, n3⟩ := line_ok (h := h) (b := b) (nC := nCF (h 254)) (L := liB h b) (kd := kdF (h 254)) (fun k c hk hc => ln_eq hR hi hb16 (by omega) hk) (fun c hc => Nat.lt_succ_of_le (hi.2.2.2.2.2.2.2.1 c (by omega)).2)
    refine ⟨0, _, _, _, sp_L_bottling_ok (sp_X7_bottling_k7 hfl hw hb), sp_X8_bottling_k7 (hm _ (by rw [hput_ne _ _ _ (by decide)]; exact ln_254 h b _)) hb, rfl, fun _ => ?_, (hI.ln b _).o3.fa⟩
    rw [faH, hput_ne _ _ _ (by decide), hput_at, n1]
    unfold liB mHd mWi
    rw [hput_ne _ _ _ (by decide), ln_254]
  · have hl := hi.lb hb16
    obtain ⟨⟨k1, k2⟩, k3, k4, k5, k6⟩ := hi.2.2.2.2.2.1 b hb
    have el := lr_eq (h := h) (nH := nHF (h 254)) (v := mB h b 3) (g := mB h b 4) (s := mB h b 5) (r := mB h b 6) hR hi hl.2 h12 (by
      by_cases q : mB h b 5 = -1
      · exact Or.inl q
      · exact Or.inr (k5 q))
    have hbl : h 15 (b * 7 + 0) = nI (lbF (h 254) b) := (hR.bo hb16 (by decide)).trans hl.1
    have cl := sp_X7_bottling_k8 (l := l) (G := G) (ad := ad) hfl hw hb hbl hl.2
    rw [hR.bo hb16 (show 3 < 7 by decide), hR.bo hb16 (show 4 < 7 by decide), hR.bo hb16 (show 5 < 7 by decide), hR.bo hb16 (show 6 < 7 by decide), el] at cl
    by_cases f0 : fbM h (lbF (h 254) b) (nHF (h 254)) (mB h b 3) (mB h b 4) (mB h b 5) (mB h b 6) = 0
    · rw [decide_eq_true f0] at cl
      exact ⟨0, _, _, _, sp_L_bottling_ok cl, sp_X8_bottling_k8t (hm _ (hput_ne _ _ _ (by decide))) hb (decide_eq_true ((fb_c (hput_ne _ _ _ (by decide)) _ _ _ _ _ _).trans f0)), rfl, fun _ => rfl, hI.o3.fa⟩
    · rw [decide_eq_false f0] at cl
      exact ⟨0, _, _, _, sp_L_bottling_ok cl, sp_X8_bottling_k8f (hm _ (hput_ne _ _ _ (by decide))) hb (decide_eq_false (fun q => f0 ((fb_c (hput_ne _ _ _ (by decide)) _ _ _ _ _ _).symm.trans q))), rfl, fun _ => rfl, hI.o3.fa⟩
end JH
