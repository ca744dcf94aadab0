/-! BLEND: the whole reading -/
section RW
variable {t t' : Nat → Int32} {len : Nat}
theorem mp_wr (p : Nat) : mpS t' len p true = true ∧ mpP t' len p true = p := by
  have e1 : ∀ q, mnS t' len q true = true := fun q => by unfold mnS mdD; simp
  have e2 : ∀ q, (mn t' len q true).2 = q := fun q => by
    unfold mn mdD
    rw [if_neg (by simp)]
  have e3 : mp1 t' len p true = true := by unfold mp1; rw [e1]; rfl
  have e4 : mpA t' len p true = p := by unfold mpA; rw [e1, if_pos rfl, e2]
  refine ⟨?_, ?_⟩
  · unfold mpS; rw [e3, e1]
  · unfold mpP; rw [e3, e4, e2]
theorem rd_eq {h g : HP} (ht : ∀ i, i < len → h 244 i = g 257 i) : RdE len (rbF (h 244) len 4 0 h 0 true false) (rdR g len) := by
  obtain ⟨a1, a2, -⟩ := rp_eq ht 0 true
  have a1 : rpP (h 244) len 0 true = mpP (g 257) len 0 false := a1
  have a2 : rpS (h 244) len 0 true = !mpS (g 257) len 0 false := a2
  have hb : mpP (g 257) len 0 false ≤ len := by rw [← a1]; exact rpP_len (Nat.zero_le _)
  have stop : ∀ K, (r2S g len = true) → r2P g len = r1P g len → r1K g len = K → rdR g len = (r1H g len, r1P g len, K, true) := fun K q1 q2 q3 => by
    obtain ⟨w1, w2⟩ := mp_wr (t' := g 257) (len := len) (r1P g len)
    have e1 : r3S g len = true := by unfold r3S; rw [q1, q2]; exact w1
    have e2 : r3P g len = r1P g len := by unfold r3P; rw [q1, q2]; exact w2
    have e3 : r3H g len = r1H g len := by
      unfold r3H mpH
      rw [q1, q2, w1, if_pos rfl]
    have e4 : r3K g len = K := by
      unfold r3K mtF
      rw [q1, q2, w1, if_pos rfl]; exact q3
    unfold rdR
    rw [e1, e2, e3, e4, mrF_st (by simp)]
  rw [rbF_1, if_neg (by simp), if_pos (by decide), a1, a2]
  cases ok : mpS (g 257) len 0 false with
  | true =>
    have e1 : r1S g len = true := ok
    rw [stop 0 (by unfold r2S; rw [e1]; rfl) (by unfold r2P; rw [e1, if_pos rfl]) (by unfold r1K mtF; rw [ok, if_pos rfl])]
    have e2 : rsS (h 244) len (mpP (g 257) len 0 false) (!true) 43 = false := rfl
    have e3 : rsP (h 244) len (mpP (g 257) len 0 false) (!true) 43 = mpP (g 257) len 0 false := by unfold rsP; rw [e2, if_neg (by decide)]
    rw [e2, e3, rbF_st (by rfl)]
    exact ⟨rfl, rfl, fun q => by cases q⟩
  | false =>
    have e1 : r1S g len = false := ok
    obtain ⟨b1, b2⟩ := rs_eq2 ht (mpP (g 257) len 0 false) (!false) (c := 43) (by decide)
    rw [b1, b2]
    have r0 : RdC h (h0M g) 0 := fun k hk => absurd hk (Nat.not_lt_zero _)
    obtain ⟨c1, c2, c3⟩ := r0.add (len := len) (p := 0) ht ok
    have eK : r1K g len = 1 := by unfold r1K mtF; rw [ok, if_neg (by decide)]
    cases eg : mgB (g 257) len (mpP (g 257) len 0 false) (!(!false)) 43 with
    | false =>
      have eg2 : mgB (g 257) len (r1P g len) false 43 = false := eg
      have e2 : mgP (g 257) len (mpP (g 257) len 0 false) (!(!false)) 43 = mpP (g 257) len 0 false := by unfold mgP; rw [eg, if_neg (by decide)]
      rw [stop 1 (by unfold r2S; rw [e1, eg2]; rfl) (by unfold r2P; rw [e1, if_neg (by decide)]; exact e2) eK, e2, rbF_st (by rfl)]
      exact ⟨rfl, rfl, fun q => by cases q⟩
    | true =>
      have eg2 : mgB (g 257) len (r1P g len) false 43 = true := eg
      have e2 : mgP (g 257) len (mpP (g 257) len 0 false) (!(!false)) 43 = mpP (g 257) len 0 false + 1 := by unfold mgP; rw [eg, if_pos rfl]
      have hlt : mpP (g 257) len 0 false < len := by
        unfold mgB at eg
        rw [Bool.and_eq_true, Bool.and_eq_true, decide_eq_true_iff] at eg
        exact eg.2.1
      have f2S : r2S g len = false := by unfold r2S; rw [e1, eg2]; rfl
      have f2P : r2P g len = mgP (g 257) len (mpP (g 257) len 0 false) false 43 := by unfold r2P; rw [e1, if_neg (by decide)]; rfl
      have eB : rdR g len = mrF (g 257) len 6 (r1H g len) (mpP (g 257) len 0 false) 1 false := by
        have eg3 : mgB (g 257) len (mpP (g 257) len 0 false) false 43 = true := eg
        have eR : ∀ H : HP, mrF (g 257) len 6 H (mpP (g 257) len 0 false) 1 false = mrF (g 257) len 5 (mpH (g 257) len 1 H (mgP (g 257) len (mpP (g 257) len 0 false) false 43) false) (mpP (g 257) len (mgP (g 257) len (mpP (g 257) len 0 false) false 43) false) (mtF (g 257) len (mgP (g 257) len (mpP (g 257) len 0 false) false 43) false 1) (mpS (g 257) len (mgP (g 257) len (mpP (g 257) len 0 false) false 43) false) := fun H => by
          show (if (!false && (decide (1 < 4) && mgB (g 257) len (mpP (g 257) len 0 false) false 43)) = true then _ else _) = _
          rw [eg3, if_pos (by decide)]
        rw [eR]
        unfold rdR r3H r3P r3K r3S
        rw [f2S, f2P, eK]
      rw [eB, e2]
      have := rd_loop ht 3 1 6 (rpH (h 244) len 0 h 0 true) (r1H g len) (mpP (g 257) len 0 false + 1) (mpP (g 257) len 0 false) (by omega) (by omega) (by omega) (by omega) eg e2 c1
      rcases this with z | z
      · omega
      · exact z
/-! what the reading leaves -/
theorem rpH_o (part : Nat) (h : HP) (p : Nat) (s : Bool) : (∀ q, q ≠ 243 → q ≠ 246 → rpH t len part h p s q = h q) ∧ ∀ j, j ≠ 3 → rpH t len part h p s 243 j = h 243 j := by
  unfold rpH
  refine ⟨fun q h1 h2 => by rw [hput_ne _ _ _ h1, hput_ne _ _ _ h2, hput_ne _ _ _ h2], fun j hj => by rw [hput_k _ _ _ hj, hput_ne _ _ _ (by decide), hput_ne _ _ _ (by decide)]⟩
theorem rbF_o : ∀ m part (h : HP) p s e, (∀ q, q ≠ 243 → q ≠ 246 → (rbF t len m part h p s e).1 q = h q) ∧ ∀ j, j ≠ 3 → (rbF t len m part h p s e).1 243 j = h 243 j
  | 0, _, _, _, _, _ => ⟨fun _ _ _ => rfl, fun _ _ => rfl⟩
  | m + 1, part, h, p, s, e => by
      obtain ⟨u1, u2⟩ := rpH_o (t := t) (len := len) part h p s
      have go : ∀ p' s' e', (∀ q, q ≠ 243 → q ≠ 246 → (rbF t len m (part + 1) (rpH t len part h p s) p' s' e').1 q = h q) ∧ ∀ j, j ≠ 3 → (rbF t len m (part + 1) (rpH t len part h p s) p' s' e').1 243 j = h 243 j := fun p' s' e' => by
        obtain ⟨v1, v2⟩ := rbF_o m (part + 1) (rpH t len part h p s) p' s' e'
        exact ⟨fun q h1 h2 => (v1 q h1 h2).trans (u1 q h1 h2), fun j hj => (v2 j hj).trans (u2 j hj)⟩
      rw [rbF]
      split
      · split
        · exact go _ _ _
        · split
          · exact go _ _ _
          · exact go _ _ _
      · exact ⟨fun _ _ _ => rfl, fun _ _ => rfl⟩
theorem mpH_o2 (k : Nat) (h : HP) (p : Nat) (w : Bool) : (∀ q, q ≠ 253 → q ≠ 258 → q ≠ 259 → mpH t' len k h p w q = h q) ∧ ∀ j, j ≠ 13 → mpH t' len k h p w 253 j = h 253 j := by
  unfold mpH
  split
  · exact ⟨fun _ _ _ _ => rfl, fun _ _ => rfl⟩
  · exact ⟨fun q h1 h2 h3 => by rw [hput_ne _ _ _ h1, hput_ne _ _ _ h3, hput_ne _ _ _ h2], fun j hj => by rw [hput_k _ _ _ hj, hput_ne _ _ _ (by decide), hput_ne _ _ _ (by decide)]⟩
theorem mrF_o2 : ∀ n (h : HP) p k w, (∀ q, q ≠ 253 → q ≠ 258 → q ≠ 259 → (mrF t' len n h p k w).1 q = h q) ∧ ∀ j, j ≠ 13 → (mrF t' len n h p k w).1 253 j = h 253 j
  | 0, _, _, _, _ => ⟨fun _ _ _ _ => rfl, fun _ _ => rfl⟩
  | n + 1, h, p, k, w => by
      rw [mrF]
      split
      · obtain ⟨u1, u2⟩ := mpH_o2 (t' := t') (len := len) k h (mgP t' len p w 43) w
        obtain ⟨v1, v2⟩ := mrF_o2 n (mpH t' len k h (mgP t' len p w 43) w) (mpP t' len (mgP t' len p w 43) w) (mtF t' len (mgP t' len p w 43) w k) (mpS t' len (mgP t' len p w 43) w)
        exact ⟨fun q h1 h2 h3 => (v1 q h1 h2 h3).trans (u1 q h1 h2 h3), fun j hj => (v2 j hj).trans (u2 j hj)⟩
      · exact ⟨fun _ _ _ _ => rfl, fun _ _ => rfl⟩
theorem rdR_o (g : HP) (len : Nat) : (∀ q, q ≠ 253 → q ≠ 258 → q ≠ 259 → (rdR g len).1 q = g q) ∧ ∀ j, j ≠ 13 → (rdR g len).1 253 j = g 253 j := by
  obtain ⟨u1, u2⟩ := mpH_o2 (t' := g 257) (len := len) 0 (h0M g) 0 false
  obtain ⟨v1, v2⟩ := mpH_o2 (t' := g 257) (len := len) (r1K g len) (r1H g len) (r2P g len) (r2S g len)
  obtain ⟨w1, w2⟩ := mrF_o2 (t' := g 257) (len := len) 5 (r3H g len) (r3P g len) (r3K g len) (r3S g len)
  exact ⟨fun q h1 h2 h3 => (w1 q h1 h2 h3).trans ((v1 q h1 h2 h3).trans ((u1 q h1 h2 h3).trans (hput_ne _ _ _ h1))), fun j hj => (w2 j hj).trans ((v2 j hj).trans ((u2 j hj).trans (hput_k _ _ _ hj)))⟩
end RW
