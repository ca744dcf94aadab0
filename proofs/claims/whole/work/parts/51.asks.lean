/-! WHAT THE CONTRACTS ASK, out of the invariant -/
abbrev npF (s : Nat → Int32) (b : Nat) : Nat := nv (s (8 + 25 * b + 2))
abbrev plF (s : Nat → Int32) (b k : Nat) : Nat := nv (s (8 + 25 * b + (5 + k)))
abbrev lbF (s : Nat → Int32) (b : Nat) : Nat := nv (s (656 + 7 * b + 0))
abbrev nLF (s : Nat → Int32) : Nat := nv (s 0)
abbrev nHF (s : Nat → Int32) : Nat := nv (s 1)
abbrev nBF (s : Nat → Int32) : Nat := nv (s 2)
abbrev nCF (s : Nat → Int32) : Nat := nv (s 3)
theorem Inv.np {s : Nat → Int32} (i : Inv s) {b : Nat} (hb : b < 24) : s (8 + 25 * b + 2) = nI (npF s b) ∧ npF s b ≤ 4 := by
  rcases Nat.lt_or_ge b (nv (s 0)) with q | q
  · exact (i.2.2.1 b q).2.2.1
  · have e := i.2.2.2.1 b 2 q hb (by decide)
    rw [e]; exact ⟨by rw [npF, e]; rfl, by rw [npF, e]; exact Nat.zero_le _⟩
theorem Inv.pl {s : Nat → Int32} (i : Inv s) {b k : Nat} (hb : b < 24) (hk : k < 4) : s (8 + 25 * b + (5 + k)) = nI (plF s b k) ∧ plF s b k < 24 := by
  rcases Nat.lt_or_ge b (nv (s 0)) with q | q
  · have := (i.2.2.1 b q).2.2.2.2.2.1 k hk
    exact ⟨this.1, Nat.lt_succ_of_le this.2⟩
  · have e := i.2.2.2.1 b (5 + k) q hb (by omega)
    exact ⟨by rw [plF, e]; rfl, by rw [plF, e]; decide⟩
theorem Inv.lb {s : Nat → Int32} (i : Inv s) {b : Nat} (hb : b < 16) : s (656 + 7 * b + 0) = nI (lbF s b) ∧ lbF s b < 24 := by
  rcases Nat.lt_or_ge b (nv (s 2)) with q | q
  · have := (i.2.2.2.2.2.1 b q).1.1
    exact ⟨this.1, Nat.lt_succ_of_le this.2⟩
  · have e := i.2.2.2.2.2.2.1 b 0 q hb (by decide)
    exact ⟨by rw [lbF, e]; rfl, by rw [lbF, e]; decide⟩
theorem Inv.MW {h : HP} (i : Inv (h 254)) : MW h (nLF (h 254)) (nHF (h 254)) (nBF (h 254)) (nCF (h 254)) (npF (h 254)) (plF (h 254)) (lbF (h 254)) :=
  ⟨⟨i.1.1.1, i.1.1.2⟩, ⟨i.1.2.1.1, i.1.2.1.2⟩, ⟨i.1.2.2.1.1, i.1.2.2.1.2⟩, ⟨i.1.2.2.2.1, i.1.2.2.2.2⟩, fun b hb => i.np hb, fun b k hb hk => i.pl hb hk, fun b hb => i.lb hb⟩
theorem Inv.WF {h : HP} (i : Inv (h 254)) (r : Rep h 1 (h 254)) : WF h (nLF (h 254)) (nHF (h 254)) (nBF (h 254)) (nCF (h 254)) (npF (h 254)) (plF (h 254)) := by
  obtain ⟨⟨a1, a2, a3, a4, a5⟩, b1, b2, -⟩ := r
  exact ⟨⟨a1.trans i.1.1.1, i.1.1.2⟩, ⟨a2.trans i.1.2.1.1, i.1.2.1.2⟩, ⟨a3.trans i.1.2.2.1.1, i.1.2.2.1.2⟩, ⟨a4.trans i.1.2.2.2.1, i.1.2.2.2.2⟩,
    fun b hb => ⟨(b1 b 2 hb (by decide)).trans (i.np hb).1, (i.np hb).2⟩, fun b k hb hk => ⟨(b2 b k hb hk).trans (i.pl hb hk).1, (i.pl hb hk).2⟩⟩
/-! cells, by what they are in the class and in the row -/
theorem Rep.lot {h : HP} (r : Rep h 1 (h 254)) {k j : Nat} (hk : k < 24) (hj : j < 5) : h 4 (k * 5 + j) = mL h k j := r.2.1 k j hk hj
theorem Rep.pL {h : HP} (r : Rep h 1 (h 254)) {k j : Nat} (hk : k < 24) (hj : j < 4) : h 6 (k * 4 + j) = mL h k (5 + j) := r.2.2.1 k j hk hj
theorem Rep.pQ {h : HP} (r : Rep h 1 (h 254)) {k j : Nat} (hk : k < 24) (hj : j < 4) : h 8 (k * 4 + j) = mL h k (9 + j) := r.2.2.2.1 k j hk hj
theorem Rep.sh {h : HP} (r : Rep h 1 (h 254)) {k j : Nat} (hk : k < 24) (hj : j < 12) : h 10 (k * 12 + j) = mL h k (13 + j) := r.2.2.2.2.1 k j hk hj
theorem Rep.og {h : HP} (r : Rep h 1 (h 254)) {k j : Nat} (hk : k < 12) (hj : j < 3) : h 12 (k * 3 + j) = mHv h k j := r.2.2.2.2.2.1 k j hk hj
theorem Rep.bo {h : HP} (r : Rep h 1 (h 254)) {k j : Nat} (hk : k < 16) (hj : j < 7) : h 15 (k * 7 + j) = mB h k j := r.2.2.2.2.2.2.1 k j hk hj
theorem Rep.ki {h : HP} (r : Rep h 1 (h 254)) {c : Nat} (hc : c < 8) : h 18 (c * 1 + 0) = h 254 (768 + c) := r.2.2.2.2.2.2.2.1 c hc
theorem Rep.hd {h : HP} (r : Rep h 1 (h 254)) {c b : Nat} (hc : c < 8) (hb : b < 16) : h 20 (c * 16 + b) = mHd h c b := r.2.2.2.2.2.2.2.2.1 c b hc hb
theorem Rep.wi {h : HP} (r : Rep h 1 (h 254)) {c b : Nat} (hc : c < 8) (hb : b < 16) : h 22 (c * 16 + b) = mWi h c b := r.2.2.2.2.2.2.2.2.2.1 c b hc hb
theorem Rep.la {h : HP} (r : Rep h 1 (h 254)) {j : Nat} (hj : j < 3) : h 24 (0 * 3 + j) = h 254 (5 + j) := r.2.2.2.2.2.2.2.2.2.2 j hj
theorem Rep.c0 {h : HP} (r : Rep h 1 (h 254)) : h 2 5 = h 254 0 := r.1.1
theorem Rep.c1 {h : HP} (r : Rep h 1 (h 254)) : h 2 6 = h 254 1 := r.1.2.1
theorem Rep.c2 {h : HP} (r : Rep h 1 (h 254)) : h 13 1 = h 254 2 := r.1.2.2.1
theorem Rep.c3 {h : HP} (r : Rep h 1 (h 254)) : h 16 3 = h 254 3 := r.1.2.2.2.1
theorem Rep.c4 {h : HP} (r : Rep h 1 (h 254)) : h 2 7 = h 254 4 := r.1.2.2.2.2
/-! THE WHOLE INVARIANT -/
def InvS (h : HP) : Prop := (h 0 7 = 0 ∧ h 253 4 = 0) ∨ (h 0 7 = 1 ∧ h 253 4 = 1 ∧ Rep h 25 (h 256) ∧ Inv (h 256))
def HisOk (h : HP) (k c : Nat) : Prop := ∀ i, i < c → Rep h (51 + 24 * ((k + 8 - c + i) % 8)) (fun j => h 255 (1032 * i + j)) ∧ Inv (fun j => h 255 (1032 * i + j))
def InvH (h : HP) : Prop := ∃ k c, (h 49 1 = nI k ∧ k < 8) ∧ (h 49 2 = nI c ∧ c ≤ 8) ∧ h 253 2 = nI c ∧ HisOk h k c
def InvI (h : HP) : Prop := ∃ len, len ≤ 40 ∧ h 243 2 = nI len ∧ h 253 9 = nI len ∧ ∀ i, i < len → h 244 i = h 257 i ∧ bd (h 244 i) 65535
def InvR (h : HP) : Prop := (h 0 8 = -1 ∧ h 253 6 = 0) ∨ (h 0 8 = h 253 6 ∧ ¬ h 0 8 = -1 ∧ ¬ h 253 6 = 0)
def INV (h : HP) : Prop := (Rep h 1 (h 254) ∧ Inv (h 254)) ∧ InvS h ∧ InvH h ∧ InvI h ∧ InvR h ∧ h 0 9 = h 253 7
theorem Inv.congr {s s' : Nat → Int32} (e : ∀ i, i < 1032 → s' i = s i) (i : Inv s) : Inv s' := by
  have hhv : ∀ k, k < 24 → hvB s' k = hvB s k := fun k hk => by unfold hvB; rw [e _ (by omega)]
  have hcn : ∀ k, k ≤ 24 → cntB (hvB s') k = cntB (hvB s) k := fun k hk => cntB_c (fun j hj => hhv j (by omega))
  obtain ⟨⟨a1, a2, a3, a4⟩, b1, b2, b3, b4, b5, b6, b7, b8, b9, b10⟩ := i
  have e0 := e 0 (by decide)
  have e1 := e 1 (by decide)
  have e2 := e 2 (by decide)
  have e3 := e 3 (by decide)
  have h24 := a1.2
  have h16 := a3.2
  refine ⟨⟨by rw [e0]; exact a1, by rw [e1]; exact a2, by rw [e2]; exact a3, by rw [e3]; exact a4⟩, fun j hj => by rw [e _ (by omega)]; exact b1 j hj, fun k hk => ?_, fun k j hk h2 hj => ?_, by rw [e0, e1, hcn _ h24]; exact b4, fun b hb => ?_, fun b j hb h2 hj => ?_, fun c hc => by rw [e _ (by omega)]; exact b7 c hc, fun c b hc hb => by rw [e _ (by omega), e _ (by omega)]; exact b8 c b hc hb, fun c b hc hb hq => ?_, fun c hc h8 => ?_⟩
  · rw [e0] at hk
    exact (b2 k hk).congr (fun i j hi hj _ => e _ (by omega)) (by rw [e _ (by omega)]; exact (b2 k hk).2.1) (by rw [e1]; exact Nat.le_refl _) (by omega) (fun _ => e _ (by have := cntB_le (hvB s) k; omega))
  · rw [e0] at hk
    rw [e _ (by omega)]; exact b3 k j hk h2 hj
  · rw [e2] at hb
    obtain ⟨⟨c1, c2⟩, c3, c4, c5, c6⟩ := b5 b hb
    refine ⟨⟨by rw [e _ (by omega)]; exact c1, by rw [e _ (by omega), e0]; exact c2⟩, by rw [e _ (by omega)]; exact c3, by rw [e _ (by omega)]; exact c4, by rw [e _ (by omega), e _ (by omega)]; exact c5, ?_⟩
    rw [nHd_c (fun c hc => e _ (by omega)), e _ (by omega), e _ (by omega)]; exact c6
  · rw [e2] at hb
    rw [e _ (by omega)]; exact b6 b j hb h2 hj
  · rw [e3, e2] at hq
    rw [e _ (by omega), e _ (by omega)]; exact b9 c b hc hb hq
  · rw [e3] at hc
    rw [e _ (by omega)]; exact b10 c hc h8
theorem cnt_mono {s : Nat → Int32} {k n : Nat} (hk : k ≤ n) : cntB (hvB s) k ≤ cntB (hvB s) n := by
  have : ∀ d, cntB (hvB s) k ≤ cntB (hvB s) (k + d) := fun d => by
    induction d with
    | zero => exact Nat.le_refl _
    | succ d ih => exact Nat.le_trans ih (by rw [show k + (d + 1) = (k + d) + 1 from rfl, cntB]; exact Nat.le_add_right _ _)
  have h2 := this (n - k)
  rw [show k + (n - k) = n by omega] at h2
  exact h2
/-- the cells that the invariant speaks of -/
def rel (q k : Nat) : Prop := (1 ≤ q ∧ q ≤ 242) ∨ (q = 0 ∧ 7 ≤ k ∧ k ≤ 9) ∨ (q = 243 ∧ k = 2) ∨ q = 244 ∨ (q = 253 ∧ (k = 2 ∨ k = 4 ∨ k = 6 ∨ k = 7 ∨ k = 9)) ∨ (254 ≤ q ∧ q ≤ 257)
theorem INV.congr {h h' : HP} (e : ∀ q k, rel q k → h' q k = h q k) (i : INV h) : INV h' := by
  have eq : ∀ q, (1 ≤ q ∧ q ≤ 242) ∨ q = 244 ∨ (254 ≤ q ∧ q ≤ 257) → h' q = h q := fun q hq => funext fun k => e q k (by unfold rel; omega)
  have e254 := eq 254 (by omega)
  have e255 := eq 255 (by omega)
  have e256 := eq 256 (by omega)
  have e257 := eq 257 (by omega)
  have e244 := eq 244 (by omega)
  have e7 := e 0 7 (by unfold rel; omega)
  have e8 := e 0 8 (by unfold rel; omega)
  have e9 := e 0 9 (by unfold rel; omega)
  have m2 := e 253 2 (by unfold rel; omega)
  have m4 := e 253 4 (by unfold rel; omega)
  have m6 := e 253 6 (by unfold rel; omega)
  have m7 := e 253 7 (by unfold rel; omega)
  have m9 := e 253 9 (by unfold rel; omega)
  have i2 := e 243 2 (by unfold rel; omega)
  have e49 := eq 49 (by omega)
  obtain ⟨⟨n1, n2⟩, s1, ⟨k, c, t1, t2, t3, t4⟩, ⟨len, u1, u2, u3, u4⟩, v1, w1⟩ := i
  refine ⟨⟨?_, by rw [e254]; exact n2⟩, ?_, ⟨k, c, by rw [e49]; exact t1, by rw [e49]; exact t2, by rw [m2]; exact t3, fun i hi => ?_⟩, ⟨len, u1, by rw [i2]; exact u2, by rw [m9]; exact u3, fun i hi => by rw [e244, e257]; exact u4 i hi⟩, ?_, by rw [e9, m7]; exact w1⟩
  · rw [e254]; exact n1.congr (fun o h1 h2 => eq _ (by omega)) (fun _ _ => rfl)
  · unfold InvS at s1 ⊢
    rw [e7, m4, e256]
    rcases s1 with q | ⟨q1, q2, q3, q4⟩
    · exact Or.inl q
    · exact Or.inr ⟨q1, q2, q3.congr (fun o h1 h2 => eq _ (by omega)) (fun _ _ => rfl), q4⟩
  · rw [e255]
    have hm : (k + 8 - c + i) % 8 < 8 := Nat.mod_lt _ (by decide)
    exact ⟨(t4 i hi).1.congr (fun o h1 h2 => eq _ (by omega)) (fun _ _ => rfl), (t4 i hi).2⟩
  · unfold InvR at v1 ⊢
    rw [e8, m6]; exact v1
