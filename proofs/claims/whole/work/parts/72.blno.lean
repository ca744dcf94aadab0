/-! BLEND: what was read is not a blend -/
theorem INV_read {h H : HP} (hI : INV h) (e1 : ∀ q, (1 ≤ q ∧ q ≤ 242) ∨ (254 ≤ q ∧ q ≤ 257) ∨ q = 244 → H q = h q) (e2 : H 243 2 = 0) (e3 : H 253 9 = 0) (e4 : H 253 2 = h 253 2) (e5 : H 253 4 = h 253 4) (e6 : H 0 7 = h 0 7) (e7 : InvR H) (e8 : H 0 9 = H 253 7) : INV H := by
  obtain ⟨hn, hS, hH, hIn, hRe, h9⟩ := hI
  exact ⟨now_c hn (fun q h1 h2 => e1 q (by omega)) (e1 254 (by omega)), InvS_c hS (fun q h1 h2 => e1 q (by omega)) e6 e5 (e1 256 (by omega)),
    InvH_c hH (fun q h1 h2 => e1 q (by omega)) e4 (e1 255 (by omega)), ⟨0, by decide, e2, e3, fun i hi => absurd hi (Nat.not_lt_zero _)⟩, e7, e8⟩
theorem mR_wr12 (B : HP) (p : Nat) (w : Bool) : mR B p w 253 12 = b2i w := by
  unfold mR
  rw [hput_k _ _ _ (by decide), hput_at]
theorem mR_at11 (B : HP) (p : Nat) (w : Bool) : mR B p w 253 11 = nI p := by
  unfold mR
  rw [hput_at]
theorem mR_k (B : HP) (p : Nat) (w : Bool) {j : Nat} (h1 : j ≠ 11) (h2 : j ≠ 12) : mR B p w 253 j = B 253 j := by
  unfold mR
  rw [hput_k _ _ _ h1, hput_k _ _ _ h2]
theorem mR_ne (B : HP) (p : Nat) (w : Bool) {q : Nat} (h1 : q ≠ 253) : mR B p w q = B q := by
  unfold mR
  rw [hput_ne _ _ _ h1, hput_ne _ _ _ h1]
/-- the model's heap after reading, seen from before -/
theorem rdH_o (c : HP) (len : Nat) (x : Int32) : (∀ q, q ≠ 253 → q ≠ 258 → q ≠ 259 → rdH (hput (hput (hput c 253 5 0) 253 10 x) 253 9 0) len q = c q) ∧
    (∀ j, j ≠ 5 → j ≠ 9 → j ≠ 10 → j ≠ 11 → j ≠ 12 → j ≠ 13 → rdH (hput (hput (hput c 253 5 0) 253 10 x) 253 9 0) len 253 j = c 253 j) ∧ rdH (hput (hput (hput c 253 5 0) 253 10 x) 253 9 0) len 253 9 = 0 ∧ rdH (hput (hput (hput c 253 5 0) 253 10 x) 253 9 0) len 253 5 = 0 := by
  obtain ⟨u1, u2⟩ := rdR_o (hput (hput (hput c 253 5 0) 253 10 x) 253 9 0) len
  unfold rdH
  refine ⟨fun q h1 h2 h3 => by rw [mR_ne _ _ _ h1, u1 q h1 h2 h3, hput_ne _ _ _ h1, hput_ne _ _ _ h1, hput_ne _ _ _ h1], fun j h1 h2 h3 h4 h5 h6 => by rw [mR_k _ _ _ h4 h5, u2 j h6, hput_k _ _ _ h2, hput_k _ _ _ h3, hput_k _ _ _ h1],
    by rw [mR_k _ _ _ (by decide) (by decide), u2 9 (by decide), hput_at], by rw [mR_k _ _ _ (by decide) (by decide), u2 5 (by decide), hput_k _ _ _ (by decide), hput_k _ _ _ (by decide), hput_at]⟩
section BL
variable {l : Launch} {G : GC} {ad : Nat → Nat}
/-- the class's heap after reading -/
def rbH (h : HP) (len : Nat) : HP := hput (hI (rbF (h 244) len 4 0 h 0 true false).1 (rbF (h 244) len 4 0 h 0 true false).2.1 ((rbF (h 244) len 4 0 h 0 true false).2.2.1 && (rbF (h 244) len 4 0 h 0 true false).2.2.2)) 243 2 0
theorem rbH_o (h : HP) (len : Nat) : (∀ q, q ≠ 243 → q ≠ 246 → rbH h len q = h q) ∧ rbH h len 243 2 = 0 ∧ rbH h len 243 4 = nI (rbF (h 244) len 4 0 h 0 true false).2.1 := by
  obtain ⟨u1, u2⟩ := rbF_o (t := h 244) (len := len) 4 0 h 0 true false
  unfold rbH hI
  exact ⟨fun q h1 h2 => by rw [hput_ne _ _ _ h1, hput_ne _ _ _ h1, hput_ne _ _ _ h1, u1 q h1 h2], hput_at _ _ _ _, by rw [hput_k _ _ _ (by decide), hput_at]⟩
/-- what is owed of one call -/
def JBl (l : Launch) (G : GC) (ad : Nat → Nat) (h : HP) : Prop := ∃ (k v : Int32) (h1 h2 : HP), PMA l G yL_blend (.codeWith yL_blend cL_blend 3 (some .int) [(0, 8, 11, 13), (0, 8, 14, 15)]) { frames := 8, cells := 2, slots := 12, locals := 162 } [.ref (ad 0), .ref (ad 263)] SW ad h (gR SW ad (some (.int k)) h1) gNo ∧ PF l G yX8_blend (.code yX8_blend cX8_blend 5 ((Option.some FieldType.int))) { frames := 5, cells := 0, slots := 0, locals := 106 } [.ref (ad 253)] SW ad h1 (some (.int v)) h2 ∧ h2 253 5 = k ∧ (k = 0 → h2 263 0 = v) ∧ INV h2
theorem jb_no1 (hfl : l.stackTraces = false) {h : HP} (hI : INV h) {len : Nat} (h40 : len ≤ 40) (i1 : h 243 2 = nI len) (i2 : h 253 9 = nI len) (i3 : ∀ i, i < len → h 244 i = h 257 i)
    (ok : ((rbF (h 244) len 4 0 h 0 true false).2.2.1 && (rbF (h 244) len 4 0 h 0 true false).2.2.2) = false) : JBl l G ad h := by
  obtain ⟨r1, r2, r3⟩ := rbH_o h len
  have c0 : ∀ q, q ≠ 0 → q ≠ 243 → q ≠ 246 → hput (rbH h len) 0 9 (rbH h len 243 4) q = h q := fun q h1 h2 h3 => by rw [hput_ne _ _ _ h1, r1 q h2 h3]
  obtain ⟨g1, g2, g3, g4⟩ := rdH_o (hput (rbH h len) 0 9 (rbH h len 243 4)) len (nI len)
  have ht : ∀ i, i < len → h 244 i = hput (hput (hput (hput (rbH h len) 0 9 (rbH h len 243 4)) 253 5 0) 253 10 (nI len)) 253 9 0 257 i := fun i hi => by
    rw [hput_ne _ _ _ (by decide), hput_ne _ _ _ (by decide), hput_ne _ _ _ (by decide), c0 257 (by decide) (by decide) (by decide)]; exact i3 i hi
  obtain ⟨d1, d2, d3⟩ := rd_eq ht
  rw [ok] at d2
  have e12 : rdH (hput (hput (hput (hput (rbH h len) 0 9 (rbH h len 243 4)) 253 5 0) 253 10 (nI len)) 253 9 0) len 253 12 = 1 := by
    unfold rdH
    rw [mR_wr12]
    have : ((rdR (hput (hput (hput (hput (rbH h len) 0 9 (rbH h len 243 4)) 253 5 0) 253 10 (nI len)) 253 9 0) len).2.2.2 || decide ((rdR (hput (hput (hput (hput (rbH h len) 0 9 (rbH h len 243 4)) 253 5 0) 253 10 (nI len)) 253 9 0) len).2.1 < len)) = true := by
      have := congrArg (fun b => !b) d2
      simp only [Bool.not_not] at this
      exact this.symm
    rw [this]; rfl
  have e11 : rdH (hput (hput (hput (hput (rbH h len) 0 9 (rbH h len 243 4)) 253 5 0) 253 10 (nI len)) 253 9 0) len 253 11 = rbH h len 243 4 := by
    refine Eq.trans ?_ ((congrArg nI d1).symm.trans r3.symm)
    unfold rdH
    rw [mR_at11]
  refine ⟨1, 0, _, _, sp_L_blend_x1 (sp_X7_blend_no1 hfl i1 h40 rfl ok), sp_X8_blend_no1 (len := len) ((congrFun (c0 253 (by decide) (by decide) (by decide)) 9).trans i2) h40 rfl (by
    show ¬ rdH (hput (hput (hput (hput (rbH h len) 0 9 (rbH h len 243 4)) 253 5 0) 253 10 (nI len)) 253 9 0) len 253 12 = 0
    rw [e12]; decide), hput_at _ _ _ _, fun q => absurd q (by decide), ?_⟩
  show INV (faH (hput (rdH (hput (hput (hput (hput (rbH h len) 0 9 (rbH h len 243 4)) 253 5 0) 253 10 (nI len)) 253 9 0) len) 253 7 (rdH (hput (hput (hput (hput (rbH h len) 0 9 (rbH h len 243 4)) 253 5 0) 253 10 (nI len)) 253 9 0) len 253 11)) 1)
  rw [e11]
  refine INV.fa (INV_read hI (fun q hq => ?_) ?_ ?_ ?_ ?_ ?_ ?_ ?_)
  · rw [hput_ne _ _ _ (by omega), g1 q (by omega) (by omega) (by omega), c0 q (by omega) (by omega) (by omega)]
  · rw [hput_ne _ _ _ (by decide), g1 243 (by decide) (by decide) (by decide), hput_ne _ _ _ (by decide)]; exact r2
  · rw [hput_k _ _ _ (by decide)]; exact g3
  · rw [hput_k _ _ _ (by decide), g2 2 (by decide) (by decide) (by decide) (by decide) (by decide) (by decide), c0 253 (by decide) (by decide) (by decide)]
  · rw [hput_k _ _ _ (by decide), g2 4 (by decide) (by decide) (by decide) (by decide) (by decide) (by decide), c0 253 (by decide) (by decide) (by decide)]
  · rw [hput_ne _ _ _ (by decide), g1 0 (by decide) (by decide) (by decide), hput_k _ _ _ (by decide), r1 0 (by decide) (by decide)]
  · refine InvR_c hI.2.2.2.2.1 ?_ ?_
    · rw [hput_ne _ _ _ (by decide), g1 0 (by decide) (by decide) (by decide), hput_k _ _ _ (by decide), r1 0 (by decide) (by decide)]
    · rw [hput_k _ _ _ (by decide), g2 6 (by decide) (by decide) (by decide) (by decide) (by decide) (by decide), c0 253 (by decide) (by decide) (by decide)]
  · rw [hput_ne _ _ _ (by decide), g1 0 (by decide) (by decide) (by decide), hput_at, hput_at]
end BL
