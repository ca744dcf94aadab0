/-! SETS OF LOTS -/
theorem and1 (x : Int32) : x &&& 1 = 0 ∨ x &&& 1 = 1 := by
  have h : (x &&& 1).toBitVec.toNat = x.toBitVec.toNat % 2 := by
    rw [Int32.toBitVec_and, BitVec.toNat_and]
    exact Nat.and_one_is_mod _
  rcases Nat.mod_two_eq_zero_or_one x.toBitVec.toNat with q | q
  · left
    apply Int32.toBitVec_inj.mp
    apply BitVec.eq_of_toNat_eq
    rw [h, q]; rfl
  · right
    apply Int32.toBitVec_inj.mp
    apply BitVec.eq_of_toNat_eq
    rw [h, q]; rfl
theorem sr_or (a b t : Int32) : (a ||| b) >>> t = (a >>> t) ||| (b >>> t) := by
  apply Int32.toBitVec_inj.mp
  simp [Int32.toBitVec_shiftRight]
  apply BitVec.eq_of_getLsbD_eq
  intro i hi
  simp [BitVec.getLsbD_sshiftRight]
  split <;> exact Bool.and_or_distrib_left _ _ _
theorem inS_or (a b m : Int32) : inS (a ||| b) m = (inS a m || inS b m) := by
  unfold inS
  rw [sr_or]
  have e : ((a >>> (m &&& 31)) ||| (b >>> (m &&& 31))) &&& 1 = ((a >>> (m &&& 31)) &&& 1) ||| ((b >>> (m &&& 31)) &&& 1) := by
    apply Int32.toBitVec_inj.mp
    simp only [Int32.toBitVec_and, Int32.toBitVec_or]
    apply BitVec.eq_of_getLsbD_eq
    intro i hi
    simp [Bool.and_or_distrib_right]
  rw [e]
  rcases and1 (a >>> (m &&& 31)) with q | q <;> rcases and1 (b >>> (m &&& 31)) with r | r <;> rw [q, r] <;> decide
theorem inS_bit : ∀ j, j < 24 → ∀ k, k < 24 → inS (bit1 j) (nI k) = decide (k = j) := by decide +kernel
theorem inS_0 : ∀ k, k < 24 → inS 0 (nI k) = false := by decide +kernel
theorem inS_orI {g : Nat → Int32} {x : Nat} (hx : x < 24) : ∀ n, inS (orI g n) (nI x) = anyB (fun k => inS (g k) (nI x)) n
  | 0 => inS_0 x hx
  | n + 1 => by rw [orI, anyB, inS_or, inS_orI hx n]
theorem anyB_iff {p : Nat → Bool} : ∀ {n : Nat}, anyB p n = true ↔ ∃ k, k < n ∧ p k = true
  | 0 => ⟨fun h => absurd h (show ¬ (false = true) from by decide), fun ⟨_, h, _⟩ => absurd h (Nat.not_lt_zero _)⟩
  | n + 1 => by
      rw [anyB, Bool.or_eq_true, anyB_iff (n := n)]
      constructor
      · rintro (⟨k, h1, h2⟩ | h)
        · exact ⟨k, by omega, h2⟩
        · exact ⟨n, by omega, h⟩
      · rintro ⟨k, h1, h2⟩
        by_cases e : k = n
        · subst e; exact Or.inr h2
        · exact Or.inl ⟨k, by omega, h2⟩
def sumN (g : Nat → Nat) : Nat → Nat
  | 0 => 0
  | n + 1 => sumN g n + g n
theorem sumC_nI {f : Nat → Int32} {g : Nat → Nat} : ∀ {n : Nat}, (∀ k, k < n → f k = nI (g k)) → sumC f n = nI (sumN g n)
  | 0, _ => rfl
  | n + 1, h => by rw [sumC, sumN, sumC_nI (fun k hk => h k (by omega)), h n (by omega), nI_add]
theorem sumN_c {f g : Nat → Nat} : ∀ {n : Nat}, (∀ k, k < n → f k = g k) → sumN f n = sumN g n
  | 0, _ => rfl
  | n + 1, h => by rw [sumN, sumN, sumN_c (fun k hk => h k (by omega)), h n (by omega)]
theorem sumN_pos {g : Nat → Nat} : ∀ {n : Nat}, 0 < sumN g n ↔ ∃ k, k < n ∧ 0 < g k
  | 0 => ⟨fun h => absurd h (Nat.lt_irrefl 0), fun ⟨_, h, _⟩ => absurd h (Nat.not_lt_zero _)⟩
  | n + 1 => by
      have ih := sumN_pos (g := g) (n := n)
      rw [sumN]
      constructor
      · intro h
        rcases Nat.eq_zero_or_pos (g n) with q | q
        · obtain ⟨k, h1, h2⟩ := ih.mp (by omega)
          exact ⟨k, by omega, h2⟩
        · exact ⟨n, by omega, q⟩
      · rintro ⟨k, h1, h2⟩
        by_cases e : k = n
        · subst e; omega
        · have := ih.mpr ⟨k, by omega, h2⟩; omega
theorem sumN_le {g : Nat → Nat} {B : Nat} : ∀ {n : Nat}, (∀ k, k < n → g k ≤ B) → sumN g n ≤ n * B
  | 0, _ => Nat.zero_le _
  | n + 1, h => by
      have := sumN_le (g := g) (n := n) (fun k hk => h k (by omega))
      have := h n (by omega)
      rw [sumN, Nat.succ_mul]; omega
/-- the ways from a lot into another -/
def Wf (np : Nat → Nat) (pl : Nat → Nat → Nat) (lot : Nat) : Nat → Nat → Nat
  | 0, _ => 0
  | f + 1, b => if b = lot then 1 else sumN (fun k => Wf np pl lot f (pl b k)) (np b)
def Wn (np : Nat → Nat) (pl : Nat → Nat → Nat) (lot b : Nat) : Nat := Wf np pl lot (b + 1) b
/-- lots of parts that came before -/
def PaOk (np : Nat → Nat) (pl : Nat → Nat → Nat) (ge : Nat → Nat) (nL : Nat) : Prop := ∀ b, b < nL → np b ≤ 4 ∧ ge b ≤ 4 ∧ ∀ k, k < np b → pl b k < b ∧ ge (pl b k) < ge b
section WN
variable {np : Nat → Nat} {pl : Nat → Nat → Nat} {ge : Nat → Nat} {nL lot : Nat}
theorem Wf_st (hp : PaOk np pl ge nL) : ∀ b, b < nL → ∀ f, b < f → Wf np pl lot f b = Wn np pl lot b := by
  intro b
  induction b using Nat.strongRecOn with
  | ind b ih =>
    intro hb f hf
    obtain ⟨f, rfl⟩ : ∃ z, f = z + 1 := ⟨f - 1, by omega⟩
    unfold Wn
    rw [Wf, Wf]
    by_cases e : b = lot
    · rw [if_pos e, if_pos e]
    · rw [if_neg e, if_neg e]
      refine sumN_c (fun k hk => ?_)
      have h1 := ((hp b hb).2.2 k hk).1
      rw [ih (pl b k) h1 (by omega) f (by omega), ih (pl b k) h1 (by omega) b h1]
theorem Wn_eq (hp : PaOk np pl ge nL) {b : Nat} (hb : b < nL) : Wn np pl lot b = if b = lot then 1 else sumN (fun k => Wn np pl lot (pl b k)) (np b) := by
  rw [Wn, Wf]
  by_cases e : b = lot
  · rw [if_pos e, if_pos e]
  · rw [if_neg e, if_neg e]
    refine sumN_c (fun k hk => ?_)
    have h1 := ((hp b hb).2.2 k hk).1
    exact Wf_st hp _ (by omega) _ h1
theorem Wn_le (hp : PaOk np pl ge nL) : ∀ b, b < nL → Wn np pl lot b ≤ 4 ^ ge b := by
  intro b
  induction b using Nat.strongRecOn with
  | ind b ih =>
    intro hb
    rw [Wn_eq hp hb]
    by_cases e : b = lot
    · rw [if_pos e]; exact Nat.one_le_pow _ _ (by decide)
    · rw [if_neg e]
      obtain ⟨h1, h2, h3⟩ := hp b hb
      rcases Nat.eq_zero_or_pos (ge b) with g0 | g0
      · rcases Nat.eq_zero_or_pos (np b) with n0 | n0
        · rw [n0]; exact Nat.zero_le _
        · have := (h3 0 n0).2; omega
      · have hle := sumN_le (g := fun k => Wn np pl lot (pl b k)) (B := 4 ^ (ge b - 1)) (n := np b) (fun k hk => by
          obtain ⟨u1, u2⟩ := h3 k hk
          exact Nat.le_trans (ih _ u1 (by omega)) (Nat.pow_le_pow_right (by decide) (by omega)))
        refine Nat.le_trans hle (Nat.le_trans (Nat.mul_le_mul_right _ h1) ?_)
        rw [← Nat.pow_succ', show (ge b - 1).succ = ge b by omega]; exact Nat.le_refl _
theorem Wn_256 (hp : PaOk np pl ge nL) {b : Nat} (hb : b < nL) : Wn np pl lot b ≤ 256 :=
  Nat.le_trans (Wn_le hp b hb) (Nat.le_trans (Nat.pow_le_pow_right (by decide) (hp b hb).2.1) (by decide))
theorem Wn_lt (hp : PaOk np pl ge nL) : ∀ b, b < nL → b < lot → Wn np pl lot b = 0 := by
  intro b
  induction b using Nat.strongRecOn with
  | ind b ih =>
    intro hb hl
    rw [Wn_eq hp hb, if_neg (by omega)]
    rcases Nat.eq_zero_or_pos (sumN (fun k => Wn np pl lot (pl b k)) (np b)) with q | q
    · exact q
    · obtain ⟨k, h1, h2⟩ := sumN_pos.mp q
      have h3 := ((hp b hb).2.2 k h1).1
      have := ih _ h3 (by omega) (by omega)
      omega
theorem Wn_pos (hp : PaOk np pl ge nL) {b : Nat} (hb : b < nL) : 0 < Wn np pl lot b ↔ (b = lot ∨ ∃ k, k < np b ∧ 0 < Wn np pl lot (pl b k)) := by
  rw [Wn_eq hp hb]
  by_cases e : b = lot
  · rw [if_pos e]; exact ⟨fun _ => Or.inl e, fun _ => by decide⟩
  · rw [if_neg e, sumN_pos]
    exact ⟨Or.inr, fun h => h.resolve_left e⟩
theorem mwI_c (h : HP) (b : Nat) : ∀ i j, j ≠ b → mwI h np pl lot b i 262 j = h 262 j
  | 0, j, hj => by rw [mwI, hput_k _ _ _ hj]
  | i + 1, j, hj => by rw [mwI, hput_k _ _ _ hj, mwI_c h b i j hj]
theorem mwH_is (hp : PaOk np pl ge nL) (hL : nL ≤ 24) (hlot : lot < 24) (h : HP) : ∀ n, n ≤ nL → ∀ b, b < n → mwH h np pl lot n 262 b = nI (Wn np pl lot b) := by
  intro n
  induction n with
  | zero => intro _ b hb; omega
  | succ n ih =>
    intro hn b hb
    rw [mwH]
    by_cases e : b = n
    · subst e
      rw [Wn_eq hp (by omega)]
      by_cases e : b = lot
      · rw [if_pos e, if_pos e, mwI, hput_at, if_pos (by rw [e])]; rfl
      · rw [if_neg e, if_neg e]
        have h0 : ¬ nI b = nI lot := fun q => e ((nI_eq (by omega) (by omega)).mp q)
        have : ∀ i, i ≤ np b → mwI (mwH h np pl lot b) np pl lot b i 262 b = nI (sumN (fun k => Wn np pl lot (pl b k)) i) := fun i => by
          induction i with
          | zero => intro _; rw [mwI, hput_at, if_neg h0]; rfl
          | succ i ih2 =>
            intro hi
            have h1 := ((hp b (by omega)).2.2 i (by omega)).1
            rw [mwI, hput_at, ih2 (by omega), mwI_c _ _ _ _ (by omega), ih (by omega) _ h1, nI_add]; rfl
        exact this _ (Nat.le_refl _)
    · rw [mwI_c _ _ _ _ e]; exact ih (by omega) b (by omega)
theorem wyH_is (hp : PaOk np pl ge nL) (hL : nL ≤ 24) (h : HP) : ∀ n, n ≤ nL → ∀ b, b < n → wyH h np pl lot n 252 (0 * 24 + b) = nI (Wn np pl lot b) := by
  intro n
  induction n with
  | zero => intro _ b hb; omega
  | succ n ih =>
    intro hn b hb
    rw [wyH]
    by_cases e : b = n
    · subst e
      rw [hput_at, Wn_eq hp (by omega)]
      unfold wyP
      by_cases e1 : lot < b
      · rw [if_pos e1, if_neg (by omega)]
        exact sumC_nI (fun k hk => ih (by omega) _ ((hp b (by omega)).2.2 k hk).1)
      · rw [if_neg e1]
        by_cases e2 : b = lot
        · rw [if_pos e2, if_pos e2]; rfl
        · rw [if_neg e2, if_neg e2]
          have := Wn_lt (lot := lot) hp b (by omega) (by omega)
          rw [Wn_eq hp (by omega), if_neg e2] at this
          rw [this]; rfl
    · rw [hput_k _ _ _ (by omega)]; exact ih (by omega) b (by omega)
theorem inS_ps (hp : PaOk np pl ge nL) (hL : nL ≤ 24) {b x : Nat} (hb : b < nL) (hx : x < 24) : inS (psI np pl b) (nI x) = true ↔ ∃ k, k < np b ∧ pl b k = x := by
  unfold psI
  rw [inS_orI hx, anyB_iff]
  constructor
  · rintro ⟨k, h1, h2⟩
    have h3 := ((hp b hb).2.2 k h1).1
    rw [inS_bit _ (by omega) _ hx] at h2
    exact ⟨k, h1, (of_decide_eq_true h2).symm⟩
  · rintro ⟨k, h1, h2⟩
    have h3 := ((hp b hb).2.2 k h1).1
    exact ⟨k, h1, by rw [inS_bit _ (by omega) _ hx]; exact decide_eq_true h2.symm⟩
theorem inS_bl (hp : PaOk np pl ge nL) (hL : nL ≤ 24) {y x : Nat} (hy : y < 24) (hx : x < 24) : inS (blI np pl nL y) (nI x) = true ↔ (x < nL ∧ ∃ k, k < np x ∧ pl x k = y) := by
  unfold blI
  rw [inS_orI hx, anyB_iff]
  constructor
  · rintro ⟨b, h1, h2⟩
    unfold ifOr at h2
    cases e : blP np pl y b with
    | false => rw [e, if_neg (by decide), inS_0 x hx] at h2; cases h2
    | true =>
      rw [e, if_pos rfl, inS_bit _ (by omega) _ hx] at h2
      have h3 := of_decide_eq_true h2
      subst h3
      unfold blP at e
      exact ⟨h1, (inS_ps hp hL h1 hy).mp (Bool.and_eq_true_iff.mp e).2⟩
  · rintro ⟨h1, k, h2, h3⟩
    refine ⟨x, h1, ?_⟩
    have h4 := ((hp x h1).2.2 k h2).1
    have : blP np pl y x = true := by
      unfold blP
      rw [(inS_ps hp hL h1 hy).mpr ⟨k, h2, h3⟩, decide_eq_true (show y < x by omega)]; rfl
    rw [this]
    show inS (bit1 x) (nI x) = true
    rw [inS_bit _ (by omega) _ hx]; exact decide_eq_true rfl
theorem amF_is (hp : PaOk np pl ge nL) (hL : nL ≤ 24) (hlot : lot < nL) : ∀ m i s, lot ≤ i → i + m = nL → (∀ x, x < nL → (inS s (nI x) = true ↔ (x = lot ∨ ∃ k, k < np x ∧ pl x k < i ∧ 0 < Wn np pl lot (pl x k)))) →
    ∀ x, x < nL → (inS (amF (blI np pl nL) s i m) (nI x) = true ↔ 0 < Wn np pl lot x) := by
  intro m
  induction m with
  | zero =>
    intro i s hi hm hs x hx
    rw [amF, hs x hx, Wn_pos hp hx]
    constructor
    · rintro (q | ⟨k, h1, h2, h3⟩)
      · exact Or.inl q
      · exact Or.inr ⟨k, h1, h3⟩
    · rintro (q | ⟨k, h1, h3⟩)
      · exact Or.inl q
      · exact Or.inr ⟨k, h1, by have := ((hp x hx).2.2 k h1).1; omega, h3⟩
  | succ m ih =>
    intro i s hi hm hs
    rw [amF]
    have hin : inS s (nI i) = true ↔ 0 < Wn np pl lot i := by
      rw [hs i (by omega), Wn_pos hp (by omega)]
      constructor
      · rintro (q | ⟨k, h1, h2, h3⟩)
        · exact Or.inl q
        · exact Or.inr ⟨k, h1, h3⟩
      · rintro (q | ⟨k, h1, h3⟩)
        · exact Or.inl q
        · exact Or.inr ⟨k, h1, ((hp i (by omega)).2.2 k h1).1, h3⟩
    refine ih (i + 1) _ (by omega) (by omega) (fun x hx => ?_)
    cases e : inS s (nI i) with
    | true =>
      have hw := hin.mp e
      rw [if_pos rfl, inS_or, Bool.or_eq_true, hs x hx, inS_bl hp hL (by omega) (by omega)]
      constructor
      · rintro ((q | ⟨k, h1, h2, h3⟩) | ⟨_, k, h1, h2⟩)
        · exact Or.inl q
        · exact Or.inr ⟨k, h1, by omega, h3⟩
        · exact Or.inr ⟨k, h1, by omega, by rw [h2]; exact hw⟩
      · rintro (q | ⟨k, h1, h2, h3⟩)
        · exact Or.inl (Or.inl q)
        · by_cases r : pl x k = i
          · exact Or.inr ⟨hx, k, h1, r⟩
          · exact Or.inl (Or.inr ⟨k, h1, by omega, h3⟩)
    | false =>
      have hw : ¬ 0 < Wn np pl lot i := fun q => by rw [hin.mpr q] at e; cases e
      rw [if_neg (by decide), hs x hx]
      constructor
      · rintro (q | ⟨k, h1, h2, h3⟩)
        · exact Or.inl q
        · exact Or.inr ⟨k, h1, by omega, h3⟩
      · rintro (q | ⟨k, h1, h2, h3⟩)
        · exact Or.inl q
        · by_cases r : pl x k = i
          · rw [r] at h3; exact absurd h3 hw
          · exact Or.inr ⟨k, h1, by omega, h3⟩
theorem am_is (hp : PaOk np pl ge nL) (hL : nL ≤ 24) (hlot : lot < nL) {x : Nat} (hx : x < nL) : inS (amF (blI np pl nL) (bit1 lot) lot (nL - lot)) (nI x) = decide (0 < Wn np pl lot x) := by
  refine b_eq ?_
  rw [decide_eq_true_iff]
  refine amF_is hp hL hlot _ _ _ (Nat.le_refl _) (by omega) (fun y hy => ?_) x hx
  rw [inS_bit _ (by omega) _ (by omega), decide_eq_true_iff]
  constructor
  · exact Or.inl
  · rintro (q | ⟨k, h1, h2, h3⟩)
    · exact q
    · have h4 := ((hp y hy).2.2 k h1).1
      rw [Wn_lt hp _ (by omega) h2] at h3; omega
theorem atF_is (hp : PaOk np pl ge nL) (hL : nL ≤ 24) (hlot : lot < nL) : ∀ n s, n ≤ nL → (inS (atF (psI np pl) s n) (nI lot) = true ↔ (inS s (nI lot) = true ∨ ∃ x, x < n ∧ inS s (nI x) = true ∧ 0 < Wn np pl lot x)) := by
  intro n
  induction n with
  | zero =>
    intro s _
    rw [atF]
    exact ⟨Or.inl, fun h => h.resolve_right (fun ⟨x, hx, _⟩ => absurd hx (Nat.not_lt_zero _))⟩
  | succ n ih =>
    intro s hn
    rw [atF, ih _ (by omega)]
    cases e : inS s (nI n) with
    | false =>
      rw [if_neg (by decide)]
      constructor
      · rintro (q | ⟨x, h1, h2⟩)
        · exact Or.inl q
        · exact Or.inr ⟨x, by omega, h2⟩
      · rintro (q | ⟨x, h1, h2, h3⟩)
        · exact Or.inl q
        · by_cases r : x = n
          · subst r; rw [h2] at e; cases e
          · exact Or.inr ⟨x, by omega, h2, h3⟩
    | true =>
      rw [if_pos rfl]
      have hps : ∀ x, x < 24 → (inS (s ||| psI np pl n) (nI x) = true ↔ (inS s (nI x) = true ∨ ∃ k, k < np n ∧ pl n k = x)) := fun x hx => by
        rw [inS_or, Bool.or_eq_true, inS_ps hp hL (by omega) hx]
      constructor
      · rintro (q | ⟨x, h1, h2, h3⟩)
        · rcases (hps lot (by omega)).mp q with r | ⟨k, r1, r2⟩
          · exact Or.inl r
          · exact Or.inr ⟨n, by omega, e, (Wn_pos hp (by omega)).mpr (Or.inr ⟨k, r1, by rw [r2]; exact (Wn_pos hp hlot).mpr (Or.inl rfl)⟩)⟩
        · rcases (hps x (by omega)).mp h2 with r | ⟨k, r1, r2⟩
          · exact Or.inr ⟨x, by omega, r, h3⟩
          · exact Or.inr ⟨n, by omega, e, (Wn_pos hp (by omega)).mpr (Or.inr ⟨k, r1, by rw [r2]; exact h3⟩)⟩
      · rintro (q | ⟨x, h1, h2, h3⟩)
        · exact Or.inl ((hps lot (by omega)).mpr (Or.inl q))
        · by_cases r : x = n
          · subst r
            rcases (Wn_pos hp (by omega)).mp h3 with u | ⟨k, u1, u2⟩
            · subst u
              exact Or.inl ((hps _ (by omega)).mpr (Or.inl e))
            · have u3 := ((hp x (by omega)).2.2 k u1).1
              exact Or.inr ⟨pl x k, u3, (hps _ (by omega)).mpr (Or.inr ⟨k, u1, rfl⟩), u2⟩
          · exact Or.inr ⟨x, by omega, (hps x (by omega)).mpr (Or.inl h2), h3⟩
theorem at_is (hp : PaOk np pl ge nL) (hL : nL ≤ 24) (hlot : lot < nL) {b : Nat} (hb : b < nL) : inS (atF (psI np pl) (bit1 b) (b + 1)) (nI lot) = decide (0 < Wn np pl lot b) := by
  refine b_eq ?_
  rw [decide_eq_true_iff, atF_is hp hL hlot _ _ (by omega), inS_bit _ (by omega) _ (by omega), decide_eq_true_iff]
  constructor
  · rintro (q | ⟨x, h1, h2, h3⟩)
    · exact (Wn_pos hp hb).mpr (Or.inl q.symm)
    · rw [inS_bit _ (by omega) _ (by omega)] at h2
      rw [← of_decide_eq_true h2]; exact h3
  · exact fun h => Or.inr ⟨b, by omega, by rw [inS_bit _ (by omega) _ (by omega)]; exact decide_eq_true rfl, h⟩
end WN
theorem pos_nI {n : Nat} (h : n < 100000) : decide (0 < nI n) = decide (0 < n) := by
  rcases Nat.eq_zero_or_pos n with q | q
  · rw [q]; rfl
  · rw [decide_eq_true q, decide_eq_true (show (0 : Int32) < nI n from nI_lt (a := 0) q (by omega))]
theorem Inv.PaOk {s : Nat → Int32} (i : Inv s) : PaOk (npF s) (plF s) (fun b => nv (s (8 + 25 * b + 3))) (nLF s) := fun b hb => by
  obtain ⟨u1, u2, u3, u4, u5, u6, u7, u8⟩ := i.2.2.1 b hb
  exact ⟨u3.2, u4.2, fun k hk => u7 k hk⟩
section JI
variable {l : Launch} {G : GC} {ad : Nat → Nat}
theorem INV.wm {h : HP} (i : INV h) {np : Nat → Nat} {pl : Nat → Nat → Nat} {lot n : Nat} : INV (mwH h np pl lot n) := i.o (p := 262) (by omega) (fun q hq => mwH_o h np pl lot hq n)
theorem INV.wc {h : HP} (i : INV h) {np : Nat → Nat} {pl : Nat → Nat → Nat} {lot n : Nat} : INV (wyH h np pl lot n) := i.o (p := 252) (by omega) (fun q hq => wyH_o h np pl lot hq n)
theorem mw_5 {g : HP} {np : Nat → Nat} {pl : Nat → Nat → Nat} {lot n : Nat} : mwH (hput g 253 5 0) np pl lot n 253 5 = 0 := by rw [mwH_o _ _ _ _ (by decide), hput_at]
theorem mw_o {g : HP} {np : Nat → Nat} {pl : Nat → Nat → Nat} {lot n : Nat} {z : Int32} : mwH (hput (hput g 263 0 z) 253 5 0) np pl lot n 263 0 = z := by rw [mwH_o _ _ _ _ (by decide), hput_ne _ _ _ (by decide), hput_at]
theorem jp_ways (hfl : l.stackTraces = false) : J_ways l G ad INV := by
  intro h x0 x1 hI
  have hR := hI.1.1
  have hi := hI.1.2
  have hw := hi.WF hR
  have h24 : nLF (h 254) ≤ 24 := hi.1.1.2
  have hm : ∀ g : HP, g 254 = h 254 → MW g _ _ _ _ _ _ _ := fun g e => MW_o hi.MW e
  cases e0 : wiB x0 0 (h 2 5 - 1) with
  | false => exact ⟨1, 0, h, _, sp_L_ways_x1 (sp_X7_ways_no1 hfl e0), sp_X8_ways_no1 (by rw [← hR.c0]; exact e0), rfl, fun q => absurd q (by decide), hI.fa⟩
  | true =>
  obtain ⟨lot, hlot, rfl⟩ := wi_of hw.1.1 (by omega) e0
  cases e1 : wiB x1 0 (h 2 5 - 1) with
  | false => exact ⟨1, 0, h, _, sp_L_ways_x1 (sp_X7_ways_no2 hfl hw hlot e1), sp_X8_ways_no2 (by rw [← hR.c0]; exact e0) (by rw [← hR.c0]; exact e1), rfl, fun q => absurd q (by decide), hI.fa⟩
  | true =>
  obtain ⟨into, hinto, rfl⟩ := wi_of hw.1.1 (by omega) e1
  refine ⟨0, _, _, _, sp_L_ways_ok (sp_X7_ways_ok hfl hw hlot hinto), sp_X8_ways_ok (hm _ (by rw [hput_ne _ _ _ (by decide), wyH_o _ _ _ _ (by decide)])) hlot hinto, mw_5, fun _ => ?_, (hI.wc.o3.fa (w := 0)).wm⟩
  rw [mw_o, mwH_is hi.PaOk h24 (by omega) _ _ (Nat.le_refl _) _ hinto, wyH_is hi.PaOk h24 _ _ (by omega) _ (by omega)]
theorem rs_eq {h : HP} (hi : Inv (h 254)) {lot : Nat} (hlot : lot < nLF (h 254)) (g : HP) {P : Nat → Bool} (hP : ∀ b, b < nBF (h 254) → P b = decide (0 < Wn (npF (h 254)) (plF (h 254)) lot (lbF (h 254) b))) :
    orI (fun b => ifOr (P b) (bit1 b)) (nBF (h 254)) = orI (fun b => ifOr (decide (0 < mwH g (npF (h 254)) (plF (h 254)) lot (nLF (h 254)) 262 (lbF (h 254) b))) (bit1 b)) (nBF (h 254)) := by
  have h24 : nLF (h 254) ≤ 24 := hi.1.1.2
  refine orI_c (fun b hb => ?_)
  have hl : lbF (h 254) b < nLF (h 254) := (hi.2.2.2.2.2.1 b hb).1.2
  have := Wn_256 (lot := lot) hi.PaOk hl
  rw [hP b hb, mwH_is hi.PaOk h24 (by omega) g _ (Nat.le_refl _) _ hl, pos_nI (by omega)]
theorem rs_cl {h : HP} (hR : Rep h 1 (h 254)) (hi : Inv (h 254)) {lot : Nat} (hlot : lot < nLF (h 254)) (g : HP) :
    orI (fun b => ifOr ((fun b => inS (amF (blI (npF (h 254)) (plF (h 254)) (nLF (h 254))) (bit1 lot) lot (nLF (h 254) - lot)) (h 15 (b * 7 + 0))) b) (bit1 b)) (nBF (h 254)) = orI (fun b => ifOr (decide (0 < mwH g (npF (h 254)) (plF (h 254)) lot (nLF (h 254)) 262 (lbF (h 254) b))) (bit1 b)) (nBF (h 254)) := by
  have h24 : nLF (h 254) ≤ 24 := hi.1.1.2
  have h16 : nBF (h 254) ≤ 16 := hi.1.2.2.1.2
  refine rs_eq hi hlot g (fun b hb => ?_)
  have hl : lbF (h 254) b < nLF (h 254) := (hi.2.2.2.2.2.1 b hb).1.2
  have e : h 15 (b * 7 + 0) = nI (lbF (h 254) b) := (hR.bo (by omega) (by decide)).trans (hi.lb (by omega)).1
  rw [e]
  exact am_is hi.PaOk h24 hlot hl
theorem jp_recalled (hfl : l.stackTraces = false) : J_recalled l G ad INV := by
  intro h x0 hI
  have hR := hI.1.1
  have hi := hI.1.2
  have hw := hi.WF hR
  have h24 : nLF (h 254) ≤ 24 := hi.1.1.2
  have hm : ∀ g : HP, g 254 = h 254 → MW g _ _ _ _ _ _ _ := fun g e => MW_o hi.MW e
  cases e0 : wiB x0 0 (h 2 5 - 1) with
  | false => exact ⟨1, 0, h, _, sp_L_recalled_x1 (sp_X7_recalled_no1 hfl e0), sp_X8_recalled_no1 (by rw [← hR.c0]; exact e0), rfl, fun q => absurd q (by decide), hI.fa⟩
  | true =>
  obtain ⟨lot, hlot, rfl⟩ := wi_of hw.1.1 (by omega) e0
  refine ⟨0, _, _, _, sp_L_recalled_ok (sp_X7_recalled_ok hfl hw hlot), sp_X8_recalled_ok (hm _ (by rw [hput_ne _ _ _ (by decide)])) hlot, mw_5, fun _ => ?_, (hI.o3.fa (w := 0)).wm⟩
  rw [mw_o]
  exact rs_cl hR hi hlot _
theorem jp_recalledAgain (hfl : l.stackTraces = false) : J_recalledAgain l G ad INV := by
  intro h x0 hI
  have hR := hI.1.1
  have hi := hI.1.2
  have hw := hi.WF hR
  have h24 : nLF (h 254) ≤ 24 := hi.1.1.2
  have h16 : nBF (h 254) ≤ 16 := hi.1.2.2.1.2
  have hm : ∀ g : HP, g 254 = h 254 → MW g _ _ _ _ _ _ _ := fun g e => MW_o hi.MW e
  cases e0 : wiB x0 0 (h 2 5 - 1) with
  | false => exact ⟨1, 0, h, _, sp_L_recalledAgain_x1 (sp_X7_recalledAgain_no1 hfl e0), sp_X8_recalledAgain_no1 (by rw [← hR.c0]; exact e0), rfl, fun q => absurd q (by decide), hI.fa⟩
  | true =>
  obtain ⟨lot, hlot, rfl⟩ := wi_of hw.1.1 (by omega) e0
  have hlb : ∀ b, b < nBF (h 254) → h 15 (b * 7 + 0) = nI (lbF (h 254) b) ∧ lbF (h 254) b < 24 := fun b hb => ⟨(hR.bo (by omega) (by decide)).trans (hi.lb (by omega)).1, (hi.lb (by omega)).2⟩
  refine ⟨0, _, _, _, sp_L_recalledAgain_ok (sp_X7_recalledAgain_ok hfl hw hlot hlb), sp_X8_recalledAgain_ok (hm _ (by rw [hput_ne _ _ _ (by decide)])) hlot, mw_5, fun _ => ?_, (hI.o3.fa (w := 0)).wm⟩
  rw [mw_o]
  exact rs_eq hi hlot _ (fun b hb => at_is hi.PaOk h24 hlot (hi.2.2.2.2.2.1 b hb).1.2)
theorem ite_c {S S' m x x' : Int32} (hS : S = S') (hx : x = x') : (if inS S m = true then x else 0) = (if inS S' m = true then x' else 0) := by rw [hS, hx]
theorem jp_bottlesOf (hfl : l.stackTraces = false) : J_bottlesOf l G ad INV := by
  intro h x0 x1 hI
  have hR := hI.1.1
  have hi := hI.1.2
  have hw := hi.WF hR
  have h24 : nLF (h 254) ≤ 24 := hi.1.1.2
  have h16 : nBF (h 254) ≤ 16 := hi.1.2.2.1.2
  have h8 : nCF (h 254) ≤ 8 := hi.1.2.2.2.2
  have hm : ∀ g : HP, g 254 = h 254 → MW g _ _ _ _ _ _ _ := fun g e => MW_o hi.MW e
  cases e0 : wiB x0 0 (h 2 5 - 1) with
  | false => exact ⟨1, 0, h, _, sp_L_bottlesOf_x1 (sp_X7_bottlesOf_no1 hfl e0), sp_X8_bottlesOf_no1 (by rw [← hR.c0]; exact e0), rfl, fun q => absurd q (by decide), hI.fa⟩
  | true =>
  obtain ⟨lot, hlot, rfl⟩ := wi_of hw.1.1 (by omega) e0
  by_cases e1 : x1 = -1
  · subst e1
    refine ⟨0, _, _, _, sp_L_bottlesOf_ok (sp_X7_bottlesOf_ok1 hfl hw hlot), sp_X8_bottlesOf_ok1 (hm _ (by rw [hput_ne _ _ _ (by decide)])) hlot, mw_5, fun _ => ?_, (hI.o3.fa (w := 0)).wm⟩
    rw [mw_o]
    refine sumC_c (fun b hb => ite_c (rs_cl hR hi hlot _) ?_)
    unfold mB
    rw [mwH_o _ _ _ _ (by decide : (254 : Nat) ≠ 262), hput_ne _ _ _ (by decide : (254 : Nat) ≠ 253), hput_ne _ _ _ (by decide : (254 : Nat) ≠ 263)]
    exact hR.bo (by omega) (show 2 < 7 by decide)
  · cases e2 : wiB x1 0 (h 16 3 - 1) with
    | false => exact ⟨1, 0, h, _, sp_L_bottlesOf_x1 (sp_X7_bottlesOf_no2 hfl hw hlot e1 e2), sp_X8_bottlesOf_no2 (by rw [← hR.c0]; exact e0) e1 (by rw [← hR.c3]; exact e2), rfl, fun q => absurd q (by decide), hI.fa⟩
    | true =>
      obtain ⟨cu, hcu, rfl⟩ := wi_of hw.2.2.2.1.1 (by omega) e2
      refine ⟨0, _, _, _, sp_L_bottlesOf_ok (sp_X7_bottlesOf_ok2 hfl hw hlot hcu), sp_X8_bottlesOf_ok2 (hm _ (by rw [hput_ne _ _ _ (by decide)])) hlot hcu, mw_5, fun _ => ?_, (hI.o3.fa (w := 0)).wm⟩
      rw [mw_o]
      refine (sumC_z h16 (fun b h1 h2 => ?_)).trans (sumC_c (fun b hb => ite_c (rs_cl hR hi hlot _) ?_))
      · have := (hi.2.2.2.2.2.2.2.2.2.1 cu b (by omega) h2 (Or.inr h1)).1
        rw [hR.hd (by omega) h2]
        unfold mHd
        rw [this]
        split <;> rfl
      · unfold mHd
        rw [mwH_o _ _ _ _ (by decide : (254 : Nat) ≠ 262), hput_ne _ _ _ (by decide : (254 : Nat) ≠ 253), hput_ne _ _ _ (by decide : (254 : Nat) ≠ 263)]
        exact hR.hd (by omega) (by omega)
end JI
