/-! SERVING, its steps -/
theorem mn_n {a b : Nat} (ha : a < 100000) (hb : b < 100000) : mnI (nI a) (nI b) = nI (min a b) := by
  unfold mnI
  rcases Nat.lt_or_ge b a with q | q
  · rw [if_pos ((lt_nI hb ha).mpr q), Nat.min_eq_right (by omega)]
  · rw [if_neg (fun r => absurd ((lt_nI hb ha).mp r) (by omega)), Nat.min_eq_left q]
theorem le_n {a b : Nat} (ha : a < 100000) (hb : b < 100000) : leI (nI a) (nI b) = nI (min a b) := by
  unfold leI
  rcases Nat.lt_or_ge a b with q | q
  · rw [if_pos ((lt_nI ha hb).mpr q), Nat.min_eq_left (by omega)]
  · rw [if_neg (fun r => absurd ((lt_nI ha hb).mp r) (by omega)), Nat.min_eq_right q]
theorem ms_n {w d : Nat} (hw : w < 100000) (hd : d < 100000) : msI (nI w) (nI d) = nI (w - d) := by
  have h := ms_pos hw hd
  rcases Nat.lt_or_ge d w with q | q
  · have e : nI w - nI d = nI (w - d) := pk_sub (by omega)
    unfold msI
    have p0 : (0 : Int32) < nI (w - d) := nI_lt (a := 0) (show 0 < w - d by omega) (by omega)
    rw [e, if_pos p0]
  · unfold msI at h ⊢
    by_cases r : 0 < nI w - nI d
    · rw [if_pos r] at h
      exact absurd (h.mp r) (by omega)
    · rw [if_neg r, show w - d = 0 by omega]; rfl
def prN (k : Nat) : Nat := if k = 0 then 12 else if k = 1 then 6 else 3
theorem prI_n (k : Nat) : prI k = nI (prN k) := by
  unfold prI prN
  split
  · rfl
  · split <;> rfl
theorem prN_b (k : Nat) : 3 ≤ prN k ∧ prN k ≤ 12 := by
  unfold prN
  split
  · omega
  · split <;> omega
theorem portI_n {h : HP} (hi : Inv (h 254)) {c : Nat} (hc : c < 8) : portI h c = nI (prN (kdF (h 254) c)) := by
  obtain ⟨k1, k2⟩ := hi.2.2.2.2.2.2.2.1 c hc
  unfold portI prN
  rw [k1]
  rcases (show kdF (h 254) c = 0 ∨ kdF (h 254) c = 1 ∨ kdF (h 254) c = 2 from by have : kdF (h 254) c ≤ 2 := k2; omega) with q | q | q
  · rw [show nv (h 254 (768 + c)) = 0 from q, q, if_pos (by decide), if_pos rfl]; rfl
  · rw [show nv (h 254 (768 + c)) = 1 from q, q, if_neg (by decide), if_pos (by decide), if_neg (by decide), if_pos rfl]; rfl
  · rw [show nv (h 254 (768 + c)) = 2 from q, q, if_neg (by decide), if_neg (by decide), if_neg (by decide), if_neg (by decide)]; rfl
/-- what the serving keeps: the class's heap and what it has given, against the model's row -/
def SvQ (s0 : Nat → Int32) (S b : Nat) (y : HP × Int32) (g : HP) : Prop :=
  ∃ t, t ≤ S ∧ y.2 = nI t ∧ Rep (hput y.1 15 (b * 7 + 2) (nI (S - t))) 1 (g 254) ∧ Inv (g 254) ∧ (∀ j, (j < 656 ∨ (768 ≤ j ∧ j < 776) ∨ 904 ≤ j) → g 254 j = s0 j) ∧ (∀ c, c < 8 → nv (s0 (776 + 16 * c + b)) ≤ nv (g 254 (776 + 16 * c + b)))
def csS (kd : Nat → Nat) (b : Nat) (stock : Int32) (y : HP × Int32) (c : Nat) : HP × Int32 :=
  (hput y.1 20 (c * 16 + b) (y.1 20 (c * 16 + b) + gtI y.1 (kd c) c b (stock - y.2)), y.2 + gtI y.1 (kd c) c b (stock - y.2))
def msS (b : Nat) (z : HP × Int32) (c : Nat) : HP × Int32 := (ruS z.1 c b, z.2 + geI z.1 c b)
/-- what a customer gets -/
def amN (s : Nat → Int32) (b c x : Nat) : Nat := min (prN (kdF s c)) (min (nv (s (904 + 16 * c + b)) - nv (s (776 + 16 * c + b))) x)
section SV
variable {s0 : Nat → Int32} {S b : Nat} {y : HP × Int32} {g : HP}
theorem SvQ.stock (q : SvQ s0 S b y g) (hb : b < 16) {t : Nat} (ht : y.2 = nI t) (hS : S ≤ 3333) (ht2 : t < 100000) : g 254 (656 + 7 * b + 2) = nI (S - t) ∧ t ≤ S := by
  obtain ⟨t', h1, h2, h3, -⟩ := q
  rw [ht] at h2
  have := (nI_eq (by omega) (by omega)).mp h2
  subst this
  exact ⟨by rw [← h3.2.2.2.2.2.2.1 b 2 hb (by decide)]; exact hput_at _ _ _ _, h1⟩
theorem SvQ.gt (q : SvQ s0 S b y g) (hb : b < 16) (hS : S ≤ 3333) {t : Nat} (ht : y.2 = nI t) (ht2 : t < 100000) {c : Nat} (hc : c < 8) :
    gtI y.1 (kdF s0 c) c b (nI S - y.2) = nI (amN (g 254) b c (S - t)) ∧ y.1 20 (c * 16 + b) = g 254 (776 + 16 * c + b) := by
  obtain ⟨e1, e2⟩ := q.stock hb ht hS ht2
  obtain ⟨t', h1, h2, h3, h4, h5, h6⟩ := q
  have w1 : y.1 22 (c * 16 + b) = g 254 (904 + 16 * c + b) := by
    rw [← h3.2.2.2.2.2.2.2.2.2.1 c b hc hb]; exact (congrFun (hput_ne _ _ _ (by decide)) _).symm
  have w2 : y.1 20 (c * 16 + b) = g 254 (776 + 16 * c + b) := by
    rw [← h3.2.2.2.2.2.2.2.2.1 c b hc hb]; exact (congrFun (hput_ne _ _ _ (by decide)) _).symm
  obtain ⟨d1, d2⟩ := h4.2.2.2.2.2.2.2.2.1 c b hc hb
  have d12 := d1.2
  have d22 := d2.2
  have pb := prN_b (kdF s0 c)
  have ek : kdF s0 c = kdF (g 254) c := by rw [kdF, kdF, h5 _ (by omega)]
  refine ⟨?_, w2⟩
  unfold gtI amN
  have e : nI S - nI t = nI (S - t) := pk_sub e2
  rw [w1, w2, ht, e, prI_n, d1.1, d2.1, ms_n (by omega) (by omega), mn_n (by omega) (by omega), mn_n (by omega) (by omega), nv_nI (by omega), nv_nI (by omega), ek]
theorem SvQ.step (q : SvQ s0 S b y g) (hb : b < nv (s0 2)) (hS : S ≤ 3333) {t : Nat} (ht : y.2 = nI t) (ht2 : t < 100000) {c : Nat} (hc : c < nv (s0 3)) {g' : HP}
    (hg : g' 254 = upR (upR (g 254) (776 + 16 * c + b) (nI (nv (g 254 (776 + 16 * c + b)) + amN (g 254) b c (S - t)))) (656 + 7 * b + 2) (nI (S - t - amN (g 254) b c (S - t)))) :
    SvQ s0 S b (csS (kdF s0) b (nI S) y c) g' ∧ (csS (kdF s0) b (nI S) y c).2 = nI (t + amN (g 254) b c (S - t)) := by
  have q0 := q
  obtain ⟨t', h1, h2, h3, h4, h5, h6⟩ := q
  rw [ht] at h2
  have hi2 : b < nv (g 254 2) := by rw [h5 2 (by omega)]; exact hb
  have hi3 : c < nv (g 254 3) := by rw [h5 3 (by omega)]; exact hc
  have hb16 : b < 16 := Nat.lt_of_lt_of_le hi2 h4.1.2.2.1.2
  have hc8 : c < 8 := Nat.lt_of_lt_of_le hi3 h4.1.2.2.2.2
  obtain ⟨e1, e2⟩ := q0.stock hb16 ht hS ht2
  obtain ⟨e3, e4⟩ := q0.gt hb16 hS ht ht2 hc8
  have := (nI_eq (by omega) (by omega)).mp h2
  subst this
  have ham : amN (g 254) b c (S - t) ≤ S - t := by unfold amN; omega
  have haw : nv (g 254 (776 + 16 * c + b)) + amN (g 254) b c (S - t) ≤ 3333 := by
    obtain ⟨d1, d2⟩ := h4.2.2.2.2.2.2.2.2.1 c b hc8 hb16
    have d12 := d1.2
    have d22 := d2.2
    unfold amN
    omega
  have hd := (h4.2.2.2.2.2.2.2.2.1 c b hc8 hb16).1
  have es : (csS (kdF s0) b (nI S) y c).2 = nI (t + amN (g 254) b c (S - t)) := by
    show y.2 + gtI y.1 (kdF s0 c) c b (nI S - y.2) = _
    rw [e3, ht, nI_add]
  refine ⟨⟨t + amN (g 254) b c (S - t), by omega, es, ?_, ?_, fun j hj => ?_, fun d hd8 => ?_⟩, es⟩
  · rw [hg]
    have r := (h3.ub8 hc8 hb16 (nI (nv (g 254 (776 + 16 * c + b)) + amN (g 254) b c (S - t)))).ub6 hb16 (show 2 < 7 by decide) (nI (S - t - amN (g 254) b c (S - t)))
    refine r.congr (fun a a1 a2 => ?_) (fun _ _ => rfl)
    have ec : (csS (kdF s0) b (nI S) y c).1 = hput y.1 20 (c * 16 + b) (nI (nv (g 254 (776 + 16 * c + b)) + amN (g 254) b c (S - t))) := by
      show hput y.1 20 (c * 16 + b) (y.1 20 (c * 16 + b) + gtI y.1 (kdF s0 c) c b (nI S - y.2)) = _
      rw [e3, e4]
      congr 1
      rw [hd.1]
      rw [nv_nI (by omega), nI_add]
    rw [ec, show S - (t + amN (g 254) b c (S - t)) = S - t - amN (g 254) b c (S - t) by omega]
    funext j
    unfold hput
    by_cases p15 : 1 + a = 15
    · rw [if_pos p15, if_pos p15]
      by_cases j2 : j = b * 7 + 2
      · rw [if_pos j2, if_pos j2]
      · rw [if_neg j2, if_neg j2, if_neg (by omega), if_neg (by omega), if_pos p15, if_neg j2]
    · rw [if_neg p15, if_neg p15]
      by_cases p20 : 1 + a = 20
      · rw [if_pos p20, if_pos p20]
        by_cases j2 : j = c * 16 + b
        · rw [if_pos j2, if_pos j2]
        · rw [if_neg j2, if_neg j2, if_neg p15]
      · rw [if_neg p20, if_neg p20, if_neg p15]
  · rw [hg]
    have st9 := (h4.2.2.2.2.2.1 b hi2)
    have i1 := h4.hold (c := c) (b := b) hi3 hi2 (v := nI (nv (g 254 (776 + 16 * c + b)) + amN (g 254) b c (S - t))) (w := g 254 (904 + 16 * c + b)) (x := nI (S - t - amN (g 254) b c (S - t))) (bd_nI haw (by decide)) (h4.2.2.2.2.2.2.2.2.1 c b hc8 hb16).2 (by
      rw [nv_nI (by omega), nv_nI (by omega), e1, nv_nI (by omega)]; omega) (by rw [nv_nI (by omega)])
    have e5 : upR (upR (upR (g 254) (656 + 7 * b + 2) (nI (S - t - amN (g 254) b c (S - t)))) (776 + 16 * c + b) (nI (nv (g 254 (776 + 16 * c + b)) + amN (g 254) b c (S - t)))) (904 + 16 * c + b) (g 254 (904 + 16 * c + b)) = upR (upR (g 254) (776 + 16 * c + b) (nI (nv (g 254 (776 + 16 * c + b)) + amN (g 254) b c (S - t)))) (656 + 7 * b + 2) (nI (S - t - amN (g 254) b c (S - t))) := by
      have e6 : g 254 (904 + 16 * c + b) = upR (upR (g 254) (656 + 7 * b + 2) (nI (S - t - amN (g 254) b c (S - t)))) (776 + 16 * c + b) (nI (nv (g 254 (776 + 16 * c + b)) + amN (g 254) b c (S - t))) (904 + 16 * c + b) := by
        rw [upR_ne _ _ (by omega), upR_ne _ _ (by omega)]
      rw [e6, upR_id, upR_comm _ _ _ (by omega)]
    rw [e5] at i1; exact i1
  · rw [hg, upR_ne _ _ (by omega), upR_ne _ _ (by omega)]; exact h5 j hj
  · rw [hg, upR_ne _ _ (by omega)]
    by_cases r : d = c
    · subst r
      rw [upR_at, nv_nI (by omega)]
      have := h6 d hd8
      omega
    · rw [upR_ne _ _ (by omega)]; exact h6 d hd8
/-- nothing given, nothing changed -/
theorem SvQ.idle (q : SvQ s0 S b y g) (hb : b < nv (s0 2)) (hS : S ≤ 3333) {t : Nat} (ht : y.2 = nI t) (ht2 : t < 100000) {c : Nat} (hc : c < nv (s0 3)) (h0 : amN (g 254) b c (S - t) = 0) :
    SvQ s0 S b (csS (kdF s0) b (nI S) y c) g ∧ (csS (kdF s0) b (nI S) y c).2 = nI t := by
  have q0 := q
  obtain ⟨t', h1, h2, h3, h4, h5, h6⟩ := q
  have hi2 : b < nv (g 254 2) := by rw [h5 2 (by omega)]; exact hb
  have hi3 : c < nv (g 254 3) := by rw [h5 3 (by omega)]; exact hc
  have hb16 : b < 16 := Nat.lt_of_lt_of_le hi2 h4.1.2.2.1.2
  have hc8 : c < 8 := Nat.lt_of_lt_of_le hi3 h4.1.2.2.2.2
  obtain ⟨e1, e2⟩ := q0.stock hb16 ht hS ht2
  have hd := (h4.2.2.2.2.2.2.2.2.1 c b hc8 hb16).1
  have r := q0.step hb hS ht ht2 hc (g' := g) (by
    rw [h0, Nat.add_zero, Nat.sub_zero, ← hd.1, upR_id, ← e1, upR_id])
  rw [h0, Nat.add_zero] at r
  exact r
/-- what the model gives a listed customer is what the class gives it -/
theorem SvQ.ms (q : SvQ s0 S b y g) (hb : b < 16) (hS : S ≤ 3333) {t : Nat} (ht : y.2 = nI t) (ht2 : t < 100000) {c : Nat} (hc : c < 8) (hl : nv (g 254 (776 + 16 * c + b)) ≤ nv (g 254 (904 + 16 * c + b))) :
    geI g c b = nI (amN (g 254) b c (S - t)) ∧ ruS g c b 254 = upR (upR (g 254) (776 + 16 * c + b) (nI (nv (g 254 (776 + 16 * c + b)) + amN (g 254) b c (S - t)))) (656 + 7 * b + 2) (nI (S - t - amN (g 254) b c (S - t))) := by
  obtain ⟨e1, e2⟩ := q.stock hb ht hS ht2
  obtain ⟨t', h1, h2, h3, h4, h5, h6⟩ := q
  obtain ⟨d1, d2⟩ := h4.2.2.2.2.2.2.2.2.1 c b hc hb
  have d12 := d1.2
  have d22 := d2.2
  have pb := prN_b (kdF (g 254) c)
  have ham : amN (g 254) b c (S - t) ≤ S - t := by unfold amN; omega
  have eg : geI g c b = nI (amN (g 254) b c (S - t)) := by
    unfold geI amN mWi mHd mB
    have e : nI (nv (g 254 (904 + 16 * c + b))) - nI (nv (g 254 (776 + 16 * c + b))) = nI (nv (g 254 (904 + 16 * c + b)) - nv (g 254 (776 + 16 * c + b))) := pk_sub hl
    rw [portI_n h4 hc, e1, show g 254 (904 + 16 * c + b) - g 254 (776 + 16 * c + b) = nI (nv (g 254 (904 + 16 * c + b)) - nv (g 254 (776 + 16 * c + b))) from by rw [← e, ← d1.1, ← d2.1], le_n (by omega) (by omega), le_n (by omega) (by omega)]
  refine ⟨eg, ?_⟩
  unfold ruS sB mB
  rw [hput_u, hput_u, upR_ne _ _ (show 656 + 7 * b + 2 ≠ 776 + 16 * c + b by omega), eg, e1, show nI (S - t) - nI (amN (g 254) b c (S - t)) = nI (S - t - amN (g 254) b c (S - t)) from pk_sub ham]
  unfold mHd
  rw [← nI_add, ← d1.1]
end SV
