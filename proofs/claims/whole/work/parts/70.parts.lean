/-! BLEND: the parts, read by both -/
section RP
variable {t t' : Nat → Int32} {len : Nat}
theorem dg_le : ∀ m n go p, p ≤ len → (dgF t len m n go p).2 ≤ len
  | 0, _, _, p, h => h
  | m + 1, n, go, p, h => by
      rw [dgF]
      split
      · rename_i c
        have := isD_lt (Bool.and_eq_true_iff.mp c).2
        exact dg_le m _ _ (p + 1) (by omega)
      · exact h
theorem rpP_len {p : Nat} {s : Bool} (h : p ≤ len) : rpP t len p s ≤ len := by
  unfold rpP rn
  refine dg_le _ _ _ _ ?_
  unfold rpP1 rsP rn
  have h2 := dg_le (t := t) 4 0 (rnS t len p s) p h
  split
  · rename_i c
    unfold rsS nsI at c
    by_cases q : (dgF t len 4 0 (rnS t len p s) p).2 < len
    · omega
    · rw [if_neg q] at c
      have := (Bool.and_eq_true_iff.mp c).2
      exact absurd this (by decide)
  · exact h2
theorem rbF_st {m part : Nat} {h : HP} {p : Nat} {s e : Bool} (c : (s && !e) = false) : rbF t len m part h p s e = (h, p, s, e) := by
  cases m with
  | zero => rfl
  | succ m => rw [rbF, c, if_neg (by decide)]
theorem mrF_st {n : Nat} {h : HP} {p k : Nat} {w : Bool} (c : (!w && (decide (k < 4) && mgB t len p w 43)) = false) : mrF t len n h p k w = (h, p, k, w) := by
  cases n with
  | zero => rfl
  | succ n => rw [mrF, c, if_neg (by decide)]
/-- told the same -/
def RdC (hc hm : HP) (P : Nat) : Prop := ∀ k, k < P → ∃ x y, x < 10000 ∧ y < 10000 ∧ hc 246 (k * 2 + 0) = nI x ∧ hm 258 k = nI x ∧ hc 246 (k * 2 + 1) = nI y ∧ hm 259 k = nI y
theorem RdC.add (ht : ∀ i, i < len → t i = t' i) {hc hm : HP} {part p : Nat} (r : RdC hc hm part) (ok : mpS t' len p false = false) : RdC (rpH t len part hc p true) (mpH t' len part hm p false) (part + 1) ∧ rpH t len part hc p true 243 3 = nI (part + 1) ∧ mpH t' len part hm p false 253 13 = nI (part + 1) := by
  obtain ⟨a1, a2, a3, a4, ⟨x, x1, x2⟩, ⟨y, y1, y2⟩⟩ := rp_eq ht p true
  unfold rpH mpH
  rw [ok, if_neg (show ¬ (false = true) by decide)]
  refine ⟨fun k hk => ?_, hput_at _ _ _ _, hput_at _ _ _ _⟩
  by_cases e : k = part
  · subst e
    refine ⟨x, y, x1, y1, ?_, ?_, ?_, ?_⟩
    · rw [hput_ne _ _ _ (by decide), hput_k _ _ _ (by omega), hput_at]; exact x2
    · rw [hput_ne _ _ _ (by decide), hput_ne _ _ _ (by decide), hput_at]; exact a3.symm.trans x2
    · rw [hput_ne _ _ _ (by decide), hput_at]; exact y2
    · rw [hput_ne _ _ _ (by decide), hput_at]; exact a4.symm.trans y2
  · obtain ⟨x, y, h1, h2, h3, h4, h5, h6⟩ := r k (by omega)
    refine ⟨x, y, h1, h2, ?_, ?_, ?_, ?_⟩
    · rw [hput_ne _ _ _ (by decide), hput_k _ _ _ (by omega), hput_k _ _ _ (by omega)]; exact h3
    · rw [hput_ne _ _ _ (by decide), hput_ne _ _ _ (by decide), hput_k _ _ _ e]; exact h4
    · rw [hput_ne _ _ _ (by decide), hput_k _ _ _ (by omega), hput_k _ _ _ (by omega)]; exact h5
    · rw [hput_ne _ _ _ (by decide), hput_k _ _ _ e]; exact h6
/-- ends the same -/
def RdE (len : Nat) (A : HP × (Nat × (Bool × Bool))) (B : HP × (Nat × (Nat × Bool))) : Prop :=
  A.2.1 = B.2.1 ∧ (A.2.2.1 && A.2.2.2) = !(B.2.2.2 || decide (B.2.1 < len)) ∧ ((A.2.2.1 && A.2.2.2) = true → ∃ P, 2 ≤ P ∧ P ≤ 4 ∧ RdC A.1 B.1 P ∧ A.1 243 3 = nI P ∧ B.1 253 13 = nI P)
theorem rd_loop (ht : ∀ i, i < len → t i = t' i) : ∀ m part n hc hm p q, 1 ≤ part → part + m = 4 → m < n → p ≤ len → mgB t' len q false 43 = true → mgP t' len q false 43 = p → RdC hc hm part →
    m = 0 ∨ RdE len (rbF t len m part hc p true false) (mrF t' len n hm q part false) := by
  intro m
  induction m with
  | zero => intro _ _ _ _ _ _ _ _ _ _ _ _ _; exact Or.inl rfl
  | succ m ih =>
    intro part n hc hm p q h1 h4 hn hp hq hqp r
    right
    obtain ⟨n, rfl⟩ : ∃ z, n = z + 1 := ⟨n - 1, by omega⟩
    obtain ⟨a1, a2, -⟩ := rp_eq ht p true
    have a1 : rpP t len p true = mpP t' len p false := a1
    have a2 : rpS t len p true = !mpS t' len p false := a2
    have hb : mpP t' len p false ≤ len := by rw [← a1]; exact rpP_len hp
    have eB : mrF t' len (n + 1) hm q part false = mrF t' len n (mpH t' len part hm p false) (mpP t' len p false) (mtF t' len p false part) (mpS t' len p false) := by
      rw [mrF, hq, hqp, decide_eq_true (show part < 4 by omega), if_pos (by decide)]
    rw [eB, rbF_1, a1, a2]
    cases ok : mpS t' len p false with
    | true =>
      rw [mrF_st (by simp)]
      have key : ∀ A : HP × (Nat × (Bool × Bool)), A.2.1 = mpP t' len p false → (A.2.2.1 && A.2.2.2) = false → RdE len A (mpH t' len part hm p false, mpP t' len p false, mtF t' len p false part, true) := fun A e1 e2 => ⟨e1, by rw [e2]; rfl, fun q => by rw [e2] at q; cases q⟩
      split
      · rw [rbF_st (by rfl)]; exact key _ rfl rfl
      · split
        · have e1 : rsS t len (mpP t' len p false) (!true) 43 = false := rfl
          have e2 : rsP t len (mpP t' len p false) (!true) 43 = mpP t' len p false := by unfold rsP; rw [e1, if_neg (by decide)]
          rw [e1, e2, rbF_st (by rfl)]; exact key _ rfl rfl
        · rw [rbF_st (by rfl)]; exact key _ rfl rfl
    | false =>
      obtain ⟨c1, c2, c3⟩ := r.add ht ok
      have et : mtF t' len p false part = part + 1 := by unfold mtF; rw [ok, if_neg (by decide)]
      rw [et]
      obtain ⟨b1, b2⟩ := rs_eq2 ht (mpP t' len p false) (!false) (c := 43) (by decide)
      by_cases e : mpP t' len p false = len
      · rw [if_pos (by rw [decide_eq_true h1, decide_eq_true e]; rfl), rbF_st (by rfl), mrF_st (by unfold mgB; rw [decide_eq_false (show ¬ mpP t' len p false < len by omega)]; simp)]
        refine ⟨rfl, ?_, fun _ => ⟨part + 1, by omega, by omega, c1, c2, c3⟩⟩
        show true = !(false || decide (mpP t' len p false < len))
        rw [decide_eq_false (show ¬ mpP t' len p false < len by omega)]; rfl
      · have hlt : mpP t' len p false < len := by omega
        have key : ∀ A : HP × (Nat × (Bool × Bool)), A.2.1 = mpP t' len p false → (A.2.2.1 && A.2.2.2) = false → RdE len A (mpH t' len part hm p false, mpP t' len p false, part + 1, false) := fun A e1 e2 => ⟨e1, by rw [e2]; show false = !(false || decide (mpP t' len p false < len)); rw [decide_eq_true hlt]; rfl, fun q => by rw [e2] at q; cases q⟩
        rw [if_neg (by rw [decide_eq_false e, Bool.and_false]; decide)]
        by_cases p3 : part < 3
        · rw [if_pos p3, b1, b2]
          cases eg : mgB t' len (mpP t' len p false) (!(!false)) 43 with
          | false =>
            have e2 : mgP t' len (mpP t' len p false) (!(!false)) 43 = mpP t' len p false := by unfold mgP; rw [eg, if_neg (by decide)]
            have eg2 : mgB t' len (mpP t' len p false) false 43 = false := eg
            rw [e2, rbF_st (by rfl), mrF_st (by rw [eg2]; simp)]
            exact key _ rfl rfl
          | true =>
            have e2 : mgP t' len (mpP t' len p false) (!(!false)) 43 = mpP t' len p false + 1 := by unfold mgP; rw [eg, if_pos rfl]
            rw [e2]
            have := ih (part + 1) n (rpH t len part hc p true) (mpH t' len part hm p false) (mpP t' len p false + 1) (mpP t' len p false) (by omega) (by omega) (by omega) (by omega) eg e2 c1
            rcases this with z | z
            · omega
            · exact z
        · rw [if_neg p3]
          have m0 : m = 0 := by omega
          subst m0
          rw [show rbF t len 0 (part + 1) (rpH t len part hc p true) (mpP t' len p false) (!false) false = (rpH t len part hc p true, mpP t' len p false, !false, false) from rfl, mrF_st (by rw [decide_eq_false (show ¬ part + 1 < 4 by omega)]; simp)]
          exact key _ rfl rfl
end RP
