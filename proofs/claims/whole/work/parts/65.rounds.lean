/-! SERVING, its rounds -/
section NW
variable {L : Nat → Bool} {kd : Nat → Nat} {nC : Nat}
theorem pr_s {k i : Nat} (hi : i < nC) (q1 : L i = true) (q2 : kd i = k) : cntB (prB L kd k (i + 1)) nC = cntB (prB L kd k i) nC + 1 := by
  refine cntB_up (i := i) hi ?_ (pr_iff.mpr ⟨q1, Or.inr ⟨q2, by omega⟩⟩) (fun o ho hne => b_eq ?_)
  · cases r : prB L kd k i i with
    | false => rfl
    | true => have := (pr_iff.mp r).2; omega
  · rw [pr_iff, pr_iff]
    constructor
    · rintro ⟨h1, h2⟩
      exact ⟨h1, h2.imp id (fun q => ⟨q.1, by omega⟩)⟩
    · rintro ⟨h1, h2⟩
      exact ⟨h1, h2.imp id (fun q => ⟨q.1, by omega⟩)⟩
theorem pr_n {k i : Nat} (q : ¬ (L i = true ∧ kd i = k)) : cntB (prB L kd k (i + 1)) nC = cntB (prB L kd k i) nC := by
  refine cntB_c (fun o ho => b_eq ?_)
  rw [pr_iff, pr_iff]
  constructor
  · rintro ⟨h1, h2⟩
    refine ⟨h1, h2.imp id (fun r => ⟨r.1, ?_⟩)⟩
    by_cases e : o = i
    · subst e; exact absurd ⟨h1, r.1⟩ q
    · omega
  · rintro ⟨h1, h2⟩
    exact ⟨h1, h2.imp id (fun q => ⟨q.1, by omega⟩)⟩
theorem pr_k {k : Nat} : cntB (prB L kd (k + 1) 0) nC = cntB (prB L kd k nC) nC := by
  refine cntB_c (fun o ho => b_eq ?_)
  rw [pr_iff, pr_iff]
  constructor
  · rintro ⟨h1, h2⟩; exact ⟨h1, by omega⟩
  · rintro ⟨h1, h2⟩; exact ⟨h1, by omega⟩
theorem cntB_0 {p : Nat → Bool} : ∀ {n : Nat}, (∀ k, k < n → p k = false) → cntB p n = 0
  | 0, _ => rfl
  | n + 1, h => by rw [cntB, h n (by omega), cntB_0 (fun k hk => h k (by omega))]; rfl
theorem pr_0 : cntB (prB L kd 0 0) nC = 0 := cntB_0 (fun o ho => by
  cases r : prB L kd 0 0 o with
  | false => rfl
  | true => have := (pr_iff.mp r).2; omega)
theorem pr_3 (hkd : ∀ c, c < nC → kd c < 3) : cntB (prB L kd 3 0) nC = cntB L nC := cntB_c (fun o ho => b_eq (by
  rw [pr_iff]
  exact ⟨fun q => q.1, fun q => ⟨q, Or.inl (hkd o ho)⟩⟩))
/-- places on the line, whatever heap -/
def hhL (L : Nat → Bool) (kd : Nat → Nat) : HP := fun q j => if q = 18 then nI (kd j) else if q = 22 then (if L (j / 16) then 1 else 0) else 0
theorem hhL_ln (hkd : ∀ c, c < nC → kd c < 3) : ∀ k c, k < 3 → c < nC → (lnB (hhL L kd) 0 k c = true ↔ (L c = true ∧ kd c = k)) := by
  intro k c hk hc
  have h3 := hkd c hc
  show (decide (nI (kd (c * 1 + 0)) = nI k) && decide (0 < msI (if L ((c * 16 + 0) / 16) then 1 else 0) 0)) = true ↔ _
  rw [show (c * 16 + 0) / 16 = c by omega, show c * 1 + 0 = c by omega, Bool.and_eq_true, decide_eq_true_iff, decide_eq_true_iff, nI_eq (by omega) (by omega)]
  cases e : L c with
  | false =>
    rw [if_neg (by decide)]
    exact ⟨fun q => absurd q.2 (by decide), fun q => absurd q.1 (by decide)⟩
  | true =>
    rw [if_pos rfl]
    exact ⟨fun q => ⟨rfl, q.1⟩, fun q => ⟨q.2, by decide⟩⟩
theorem pos_ok (hkd : ∀ c, c < nC → kd c < 3) (hC : nC ≤ 8) : (∀ c, c < nC → L c = true → poN L kd nC c < cntB L nC) ∧ (∀ t, t < cntB L nC → ∃ c, c < nC ∧ L c = true ∧ poN L kd nC c = t) ∧
    (∀ c d, c < nC → d < nC → L c = true → L d = true → poN L kd nC c = poN L kd nC d → c = d) := by
  obtain ⟨n1, n2, n3⟩ := line_ok (hhL_ln (L := L) hkd) hkd
  rw [n1] at n2 n3
  refine ⟨fun c hc hl => (n2 c hc hl).2, n3, fun c d hc hd lc ld e => ?_⟩
  have u1 := (n2 c hc lc).1
  rw [e, (n2 d hd ld).1] at u1
  exact ((nI_eq (by omega) (by omega)).mp u1).symm
section
variable {σ τ : Type}
def arF (st : σ → Nat → σ) (ln : Nat → Nat) (x : σ) : Nat → σ
  | 0 => x
  | k + 1 => st (arF st ln x k) (ln k)
def nwI (st : σ → Nat → σ) (L : Nat → Bool) (kd : Nat → Nat) (k : Nat) (x : σ) : Nat → σ
  | 0 => x
  | i + 1 => if L i && decide (kd i = k) then st (nwI st L kd k x i) i else nwI st L kd k x i
def nwK (st : σ → Nat → σ) (L : Nat → Bool) (kd : Nat → Nat) (nC : Nat) (x : σ) : Nat → σ
  | 0 => x
  | k + 1 => nwI st L kd k (nwK st L kd nC x k) nC
theorem nwI_ar {st : σ → Nat → σ} {ln : Nat → Nat} {x : σ} (hln : ∀ c, c < nC → L c = true → ln (poN L kd nC c) = c) (k : Nat) : ∀ i, i ≤ nC → nwI st L kd k (arF st ln x (cntB (prB L kd k 0) nC)) i = arF st ln x (cntB (prB L kd k i) nC) := by
  intro i
  induction i with
  | zero => exact fun _ => rfl
  | succ i ih =>
    intro hi
    rw [nwI, ih (by omega)]
    by_cases e : L i = true ∧ kd i = k
    · rw [e.1, decide_eq_true e.2, Bool.and_self, if_pos rfl, pr_s (by omega) e.1 e.2, arF]
      have : ln (cntB (prB L kd k i) nC) = i := by
        have := hln i (by omega) e.1
        unfold poN at this
        rw [e.2] at this; exact this
      rw [this]
    · have : (L i && decide (kd i = k)) = false := by
        cases r : (L i && decide (kd i = k)) with
        | false => rfl
        | true =>
          rw [Bool.and_eq_true, decide_eq_true_iff] at r
          exact absurd r e
      rw [this, if_neg (by decide), pr_n e]
theorem nwK_ar {st : σ → Nat → σ} {ln : Nat → Nat} {x : σ} (hln : ∀ c, c < nC → L c = true → ln (poN L kd nC c) = c) : ∀ k, nwK st L kd nC x k = arF st ln x (cntB (prB L kd k 0) nC) := by
  intro k
  induction k with
  | zero => rw [pr_0]; rfl
  | succ k ih => rw [nwK, ih, nwI_ar hln k nC (Nat.le_refl _), pr_k]
theorem nw_rel {st1 : σ → Nat → σ} {st2 : τ → Nat → τ} {L1 : Nat → Bool} {Z : Nat → Nat → σ → τ → Prop}
    (hs : ∀ k i x z, i < nC → Z k i x z → Z k (i + 1) (if L i && decide (kd i = k) then st1 x i else x) (if L1 i && decide (kd i = k) then st2 z i else z))
    (hk : ∀ k x z, Z k nC x z → Z (k + 1) 0 x z) {x : σ} {z : τ} (h0 : Z 0 0 x z) : ∀ k, Z k 0 (nwK st1 L kd nC x k) (nwK st2 L1 kd nC z k) := by
  intro k
  induction k with
  | zero => exact h0
  | succ k ih =>
    have : ∀ i, i ≤ nC → Z k i (nwI st1 L kd k (nwK st1 L kd nC x k) i) (nwI st2 L1 kd k (nwK st2 L1 kd nC z k) i) := by
      intro i
      induction i with
      | zero => exact fun _ => ih
      | succ i ih2 => exact fun hi => hs k i _ _ (by omega) (ih2 (by omega))
    exact hk k _ _ (this nC (Nat.le_refl _))
end
end NW
section SR
variable {s0 : Nat → Int32} {S b : Nat}
theorem SvQ.c {y : HP × Int32} {g g' : HP} (q : SvQ s0 S b y g) (e : g' 254 = g 254) : SvQ s0 S b y g' := by
  unfold SvQ at *
  rw [e]; exact q
theorem li_iff {g : HP} (hi : Inv (g 254)) {c : Nat} (hb : b < 16) (hc : c < 8) : liB g b c = true ↔ nv (g 254 (776 + 16 * c + b)) < nv (g 254 (904 + 16 * c + b)) := by
  obtain ⟨d1, d2⟩ := hi.2.2.2.2.2.2.2.2.1 c b hc hb
  have d12 := d1.2
  have d22 := d2.2
  unfold liB mHd mWi
  rw [decide_eq_true_iff, d1.1, d2.1, lt_nI (by omega) (by omega), nv_nI (by omega), nv_nI (by omega)]
def SvZ (s0 : Nat → Int32) (S b : Nat) (g : HP) (t : Nat) (k i : Nat) (y : HP × Int32) (z : HP × Int32) : Prop :=
  ∃ a, y.2 = nI (t + a) ∧ z.2 = nI a ∧ t + a ≤ S ∧ SvQ s0 S b y z.1 ∧ (∀ c, c < nv (s0 3) → (liB g b c = false ∨ k < kdF s0 c ∨ (kdF s0 c = k ∧ i ≤ c)) → z.1 254 (776 + 16 * c + b) = g 254 (776 + 16 * c + b)) ∧
    (t < S → (∃ c, c < nv (s0 3) ∧ liB g b c = true ∧ (kdF s0 c < k ∨ (kdF s0 c = k ∧ c < i))) → 0 < a)
theorem sv_round {y : HP × Int32} {g g2 : HP} {t : Nat} {L : Nat → Bool} (q : SvQ s0 S b y g) (e2 : g2 254 = g 254) (ht : y.2 = nI t) (htS : t ≤ S) (hS : S ≤ 3333) (hb : b < nv (s0 2)) (hL : ∀ c, c < nv (s0 3) → liB g b c = true → L c = true) :
    SvZ s0 S b g t 3 0 (nwK (csS (kdF s0) b (nI S)) L (kdF s0) (nv (s0 3)) y 3) (nwK (msS b) (liB g b) (kdF s0) (nv (s0 3)) (g2, 0) 3) := by
  have fx : ∀ {y' : HP × Int32} {g' : HP}, SvQ s0 S b y' g' → Inv (g' 254) ∧ (∀ j, (j < 656 ∨ (768 ≤ j ∧ j < 776) ∨ 904 ≤ j) → g' 254 j = s0 j) := fun ⟨_, _, _, _, h4, h5, _⟩ => ⟨h4, h5⟩
  obtain ⟨i0, f0⟩ := fx q
  have hb16 : b < 16 := by
    have := i0.1.2.2.1.2
    rw [f0 2 (by omega)] at this; omega
  have hC8 : nv (s0 3) ≤ 8 := by
    have := i0.1.2.2.2.2
    rw [f0 3 (by omega)] at this; exact this
  refine nw_rel (Z := SvZ s0 S b g t) (fun k i x z hi hz => ?_) (fun k x z hz => ?_) ⟨0, by rw [Nat.add_zero]; exact ht, rfl, htS, q.c e2, fun c hc _ => by rw [show (g2, (0 : Int32)).1 254 = g 254 from e2], fun _ ⟨c, _, _, h⟩ => by omega⟩ 3
  · obtain ⟨a, a1, a2, a3, a4, a5, a6⟩ := hz
    obtain ⟨i1, f1⟩ := fx a4
    have keep : ∀ c, c < nv (s0 3) → (liB g b c = false ∨ k < kdF s0 c ∨ (kdF s0 c = k ∧ i + 1 ≤ c)) → z.1 254 (776 + 16 * c + b) = g 254 (776 + 16 * c + b) := fun c hc h => a5 c hc (by
      rcases h with h | h | h
      · exact Or.inl h
      · exact Or.inr (Or.inl h)
      · exact Or.inr (Or.inr ⟨h.1, by omega⟩))
    have ew : z.1 254 (904 + 16 * i + b) = g 254 (904 + 16 * i + b) := by rw [f1 _ (by omega), f0 _ (by omega)]
    by_cases ek : kdF s0 i = k
    case neg =>
      rw [decide_eq_false ek, Bool.and_false, Bool.and_false, if_neg (by decide), if_neg (by decide)]
      exact ⟨a, a1, a2, a3, a4, keep, fun h ⟨c, c1, c2, c3⟩ => a6 h ⟨c, c1, c2, by
        rcases c3 with c3 | ⟨c3, c4⟩
        · exact Or.inl c3
        · by_cases r : c = i
          · rw [r] at c3; exact absurd c3 ek
          · exact Or.inr ⟨c3, by omega⟩⟩⟩
    rw [decide_eq_true ek, Bool.and_true, Bool.and_true]
    cases el : liB g b i with
    | true =>
      rw [hL i hi el, if_pos rfl, if_pos rfl]
      have eh := a5 i hi (Or.inr (Or.inr ⟨ek, Nat.le_refl _⟩))
      have hlt := (li_iff i0 hb16 (by omega)).mp el
      obtain ⟨m1, m2⟩ := a4.ms hb16 hS a1 (by omega) (c := i) (by omega) (by rw [eh, ew]; omega)
      obtain ⟨s1, s2⟩ := a4.step hb hS a1 (by omega) hi m2
      have ham : amN (z.1 254) b i (S - (t + a)) ≤ S - (t + a) := by unfold amN; omega
      refine ⟨a + amN (z.1 254) b i (S - (t + a)), by rw [s2, Nat.add_assoc], ?_, by omega, s1, fun c hc h => ?_, fun h _ => ?_⟩
      · show z.2 + geI z.1 i b = _
        rw [a2, m1, nI_add]
      · show ruS z.1 i b 254 _ = _
        have hne : c ≠ i := by
          rintro rfl
          rcases h with h | h | h
          · rw [el] at h; cases h
          · omega
          · omega
        rw [m2, upR_ne _ _ (by omega), upR_ne _ _ (by omega)]
        exact keep c hc h
      · rcases Nat.eq_zero_or_pos a with r | r
        · have pb := prN_b (kdF (z.1 254) i)
          have : 0 < amN (z.1 254) b i (S - (t + a)) := by
            unfold amN
            rw [eh, ew]
            omega
          omega
        · omega
    | false =>
      rw [if_neg (show ¬ (false = true) by decide)]
      have fin : ∀ x', SvQ s0 S b x' z.1 → x'.2 = nI (t + a) → SvZ s0 S b g t k (i + 1) x' z := fun x' h1 h2 => ⟨a, h2, a2, a3, h1, keep, fun h ⟨c, c1, c2, c3⟩ => a6 h ⟨c, c1, c2, by
        rcases c3 with c3 | ⟨c3, c4⟩
        · exact Or.inl c3
        · by_cases r : c = i
          · rw [r, el] at c2; cases c2
          · exact Or.inr ⟨c3, by omega⟩⟩⟩
      cases eL : L i with
      | false => rw [if_neg (show ¬ (false = true) by decide)]; exact fin x a4 a1
      | true =>
        rw [if_pos rfl]
        have eh := a5 i hi (Or.inl el)
        have hge : ¬ nv (g 254 (776 + 16 * i + b)) < nv (g 254 (904 + 16 * i + b)) := fun r => by rw [(li_iff i0 hb16 (by omega)).mpr r] at el; cases el
        obtain ⟨s1, s2⟩ := a4.idle hb hS a1 (by omega) hi (by unfold amN; rw [eh, ew]; omega)
        exact fin _ s1 s2
  · obtain ⟨a, a1, a2, a3, a4, a5, a6⟩ := hz
    exact ⟨a, a1, a2, a3, a4, fun c hc h => a5 c hc (by
      rcases h with h | h | h
      · exact Or.inl h
      · exact Or.inr (Or.inl (by omega))
      · exact Or.inr (Or.inl (by omega))), fun h ⟨c, c1, c2, c3⟩ => a6 h ⟨c, c1, c2, by omega⟩⟩
theorem hoP_ar (kd ln : Nat → Nat) (stock : Int32) (x : HP × Int32) : ∀ k, hoP kd ln b stock x k = arF (csS kd b stock) ln x k
  | 0 => rfl
  | k + 1 => by rw [arF, ← hoP_ar kd ln stock x k]; rfl
theorem ru_ar (g : HP) (oc : Nat → Nat) : ∀ k, ru g oc b k = arF (msS b) oc (g, 0) k
  | 0 => rfl
  | k + 1 => by rw [arF, ← ru_ar g oc k]; rfl
end SR
