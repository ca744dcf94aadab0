/-! BOTH SIDES TOGETHER: what changes -/
theorem now_c {h h' : HP} (i : Rep h 1 (h 254) ∧ Inv (h 254)) (e1 : ∀ q, 1 ≤ q → q ≤ 24 → h' q = h q) (e2 : h' 254 = h 254) : Rep h' 1 (h' 254) ∧ Inv (h' 254) := by
  rw [e2]
  exact ⟨i.1.congr (fun o h1 h2 => e1 _ (by omega) (by omega)) (fun _ _ => rfl), i.2⟩
theorem InvS_c {h h' : HP} (i : InvS h) (e1 : ∀ q, 25 ≤ q → q ≤ 48 → h' q = h q) (e2 : h' 0 7 = h 0 7) (e3 : h' 253 4 = h 253 4) (e4 : h' 256 = h 256) : InvS h' := by
  unfold InvS at *
  rw [e2, e3, e4]
  rcases i with q | ⟨q1, q2, q3, q4⟩
  · exact Or.inl q
  · exact Or.inr ⟨q1, q2, q3.congr (fun o h1 h2 => e1 _ (by omega) (by omega)) (fun _ _ => rfl), q4⟩
theorem InvH_c {h h' : HP} (i : InvH h) (e1 : ∀ q, 49 ≤ q → q ≤ 242 → h' q = h q) (e2 : h' 253 2 = h 253 2) (e3 : h' 255 = h 255) : InvH h' := by
  obtain ⟨k, c, t1, t2, t3, t4⟩ := i
  have e49 := e1 49 (by omega) (by omega)
  refine ⟨k, c, by rw [e49]; exact t1, by rw [e49]; exact t2, by rw [e2]; exact t3, fun i hi => ?_⟩
  rw [e3]
  have hm : (k + 8 - c + i) % 8 < 8 := Nat.mod_lt _ (by decide)
  exact ⟨(t4 i hi).1.congr (fun o h1 h2 => e1 _ (by omega) (by omega)) (fun _ _ => rfl), (t4 i hi).2⟩
theorem InvI_c {h h' : HP} (i : InvI h) (e1 : h' 243 2 = h 243 2) (e2 : h' 253 9 = h 253 9) (e3 : h' 244 = h 244) (e4 : h' 257 = h 257) : InvI h' := by
  unfold InvI at *
  rw [e1, e2, e3, e4]; exact i
theorem InvR_c {h h' : HP} (i : InvR h) (e1 : h' 0 8 = h 0 8) (e2 : h' 253 6 = h 253 6) : InvR h' := by
  unfold InvR at *
  rw [e1, e2]; exact i
/-- the model remembers -/
def remM (h : HP) (c : Nat) : HP := if c < 8 then reaH h c else rebH h
theorem remM_o (h : HP) (c : Nat) {q : Nat} (h1 : q ≠ 253) (h2 : q ≠ 255) : remM h c q = h q := by
  unfold remM
  split
  · rw [reaH, hput_ne _ _ _ h1, rcH_o _ _ _ _ _ h2]
  · rw [rebH, reaH, hput_ne _ _ _ h1, rcH_o _ _ _ _ _ h2, rcH_o _ _ _ _ _ h2, hput_ne _ _ _ h1]
theorem remM_2 (h : HP) {c : Nat} (hc : c ≤ 8) : remM h c 253 2 = nI (min (c + 1) 8) := by
  unfold remM
  split
  · rw [reaH, show min (c + 1) 8 = c + 1 by omega]; simp [hput]
  · rw [rebH, reaH, show min (c + 1) 8 = 8 by omega]; simp [hput]
theorem hput_k (h : HP) (p : Nat) {k j : Nat} (v : Int32) (hj : j ≠ k) : hput h p k v p j = h p j := by simp [hput, hj]
theorem remM_k (h : HP) (c : Nat) {j : Nat} (hj : j ≠ 2) : remM h c 253 j = h 253 j := by
  unfold remM
  split
  · rw [reaH, hput_k _ _ _ hj, rcH_o _ _ _ _ _ (by decide)]
  · rw [rebH, reaH, hput_k _ _ _ hj, rcH_o _ _ _ _ _ (by decide), rcH_o _ _ _ _ _ (by decide), hput_k _ _ _ hj]
theorem remM_row (h : HP) {c : Nat} (hc : c ≤ 8) {i j : Nat} (hi : i < min (c + 1) 8) (hj : j < 1032) : remM h c 255 (1032 * i + j) = if i + 1 = min (c + 1) 8 then h 254 j else h 255 (1032 * (if c < 8 then i else i + 1) + j) := by
  unfold remM
  by_cases h8 : c < 8
  · rw [if_pos h8, reaH, hput_ne _ _ _ (by decide), rcH_ne _ _ _ _ _ (by decide), if_pos h8]
    by_cases hq : i = c
    · rw [if_pos (by omega), if_pos (by omega), hq]
      congr 1; omega
    · rw [if_neg (by omega), if_neg (by omega)]
  · rw [if_neg h8, rebH, reaH, hput_ne _ _ _ (by decide), rcH_ne _ _ _ _ _ (by decide), rcH_o _ _ _ _ _ (by decide : (254 : Nat) ≠ 255), if_neg h8]
    by_cases hq : i = 7
    · rw [if_pos (by omega), if_pos (by omega), hput_ne _ _ _ (by decide), show 0 + (1032 * i + j - 1032 * 7) = j by omega]
    · rw [if_neg (by omega), if_neg (by omega), rcH_dn _ _ _ _ (by decide), if_pos (by omega), hput_ne _ _ _ (by decide)]
      congr 1; omega
/-- history behind a change -/
theorem InvH_rem {h h' : HP} {k c : Nat} (hk8 : k < 8) (hc8 : c ≤ 8) (hh : HisOk h k c) (hn : Rep h 1 (h 254) ∧ Inv (h 254))
    (e1 : ∀ q, 49 ≤ q → q ≤ 242 → h' q = remH h 1 k c q) (e2 : h' 253 2 = nI (min (c + 1) 8))
    (e3 : ∀ i j, i < min (c + 1) 8 → j < 1032 → h' 255 (1032 * i + j) = if i + 1 = min (c + 1) 8 then h 254 j else h 255 (1032 * (if c < 8 then i else i + 1) + j)) : InvH h' := by
  have e49 := e1 49 (by omega) (by omega)
  refine ⟨(k + 1) % 8, min (c + 1) 8, ⟨by rw [e49]; simp [remH, hput], Nat.mod_lt _ (by decide)⟩, ⟨by rw [e49]; simp [remH, hput], by omega⟩, e2, fun i hi => ?_⟩
  have hlt : ∀ x, x % 8 < 8 := fun x => Nat.mod_lt _ (by decide)
  have ho : ∀ m o, m < 8 → 1 ≤ o → o ≤ 23 → h' (51 + 24 * m + o) = cpS h (51 + 24 * k) 1 (51 + 24 * m + o) := fun m o hm h1 h2 => by
    rw [e1 _ (by omega) (by omega), remH, hput_ne _ _ _ (by omega), hput_ne _ _ _ (by omega)]
  by_cases hl : i + 1 = min (c + 1) 8
  · have hs : ((k + 1) % 8 + 8 - min (c + 1) 8 + i) % 8 = k := by omega
    have hrow : ∀ j, j < 1032 → h' 255 (1032 * i + j) = h 254 j := fun j hj => by rw [e3 i j hi hj, if_pos hl]
    rw [hs]
    exact ⟨(hn.1.cp (p := 51 + 24 * k) (by omega)).congr (fun o h1 h2 => ho k o hk8 h1 h2) hrow, hn.2.congr hrow⟩
  · have hm := hlt (k + 8 - c + (if c < 8 then i else i + 1))
    have hs : ((k + 1) % 8 + 8 - min (c + 1) 8 + i) % 8 = (k + 8 - c + (if c < 8 then i else i + 1)) % 8 := by split <;> omega
    have hne : (k + 8 - c + (if c < 8 then i else i + 1)) % 8 ≠ k := by split <;> omega
    have hrow : ∀ j, j < 1032 → h' 255 (1032 * i + j) = h 255 (1032 * (if c < 8 then i else i + 1) + j) := fun j hj => by rw [e3 i j hi hj, if_neg hl]
    obtain ⟨r1, r2⟩ := hh (if c < 8 then i else i + 1) (by split <;> omega)
    rw [hs]
    refine ⟨r1.congr (fun o h1 h2 => ?_) hrow, r2.congr hrow⟩
    rw [ho _ o hm h1 h2, cpS_o _ _ _ (by omega)]
section JC
variable {l : Launch} {G : GC} {ad : Nat → Nat}
theorem sp_X8_rem {h : HP} {c : Nat} (e : h 253 2 = nI c) (hc : c ≤ 8) : PF l G yX8_remember (.code yX8_remember cX8_remember 2 ((Option.none : Option FieldType))) { frames := 0, cells := 0, slots := 0, locals := 0 } [.ref (ad 253)] SW ad h none (remM h c) := by
  unfold remM
  by_cases h8 : c < 8
  · rw [if_pos h8]; exact sp_X8_remember_ok e h8
  · rw [if_neg h8]; exact sp_X8_remember_full (by rw [e, show c = 8 by omega])
end JC
