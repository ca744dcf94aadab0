/-! BLEND: what was read is a blend -/
section BM
variable {l : Launch} {G : GC} {ad : Nat → Nat}
/-- the model's heap after reading, behind the class's -/
def mbH (h : HP) (len : Nat) : HP := rdH (hput (hput (hput (rbH h len) 253 5 0) 253 10 (nI len)) 253 9 0) len
theorem rbH_3 (h : HP) (len : Nat) : rbH h len 246 = (rbF (h 244) len 4 0 h 0 true false).1 246 ∧ rbH h len 243 3 = (rbF (h 244) len 4 0 h 0 true false).1 243 3 := by
  unfold rbH hI
  exact ⟨by rw [hput_ne _ _ _ (by decide), hput_ne _ _ _ (by decide), hput_ne _ _ _ (by decide)], by rw [hput_k _ _ _ (by decide), hput_k _ _ _ (by decide), hput_k _ _ _ (by decide)]⟩
theorem jb_ok {h : HP} (hI : INV h) {len : Nat} (h40 : len ≤ 40) (i1 : h 243 2 = nI len) (i2 : h 253 9 = nI len) (i3 : ∀ i, i < len → h 244 i = h 257 i)
    (ok : ((rbF (h 244) len 4 0 h 0 true false).2.2.1 && (rbF (h 244) len 4 0 h 0 true false).2.2.2) = true) :
    rbH h len 253 9 = nI len ∧ mbH h len 253 12 = 0 ∧ (∃ P, 2 ≤ P ∧ P ≤ 4 ∧ RdC (rbH h len) (mbH h len) P ∧ rbH h len 243 3 = nI P ∧ mbH h len 253 13 = nI P) ∧ INV (mbH h len) ∧
      (∀ q, q ≠ 243 → q ≠ 246 → rbH h len q = h q) ∧ (∀ q, q ≠ 253 → q ≠ 258 → q ≠ 259 → mbH h len q = rbH h len q) ∧ mbH h len 253 5 = 0 := by
  obtain ⟨r1, r2, r3⟩ := rbH_o h len
  obtain ⟨g1, g2, g3, g4⟩ := rdH_o (rbH h len) len (nI len)
  have ht : ∀ i, i < len → h 244 i = hput (hput (hput (rbH h len) 253 5 0) 253 10 (nI len)) 253 9 0 257 i := fun i hi => by
    rw [hput_ne _ _ _ (by decide), hput_ne _ _ _ (by decide), hput_ne _ _ _ (by decide), r1 257 (by decide) (by decide)]; exact i3 i hi
  obtain ⟨d1, d2, d3⟩ := rd_eq ht
  obtain ⟨P, p1, p2, p3, p4, p5⟩ := d3 ok
  rw [ok] at d2
  refine ⟨(congrFun (r1 253 (by decide) (by decide)) 9).trans i2, ?_, ⟨P, p1, p2, ?_, ?_, ?_⟩, INV_read hI (fun q hq => ?_) ?_ ?_ ?_ ?_ ?_ ?_ ?_, r1, g1, g4⟩
  · unfold mbH rdH
    rw [mR_wr12]
    have : ((rdR (hput (hput (hput (rbH h len) 253 5 0) 253 10 (nI len)) 253 9 0) len).2.2.2 || decide ((rdR (hput (hput (hput (rbH h len) 253 5 0) 253 10 (nI len)) 253 9 0) len).2.1 < len)) = false := by
      have := congrArg (fun b => !b) d2
      simp only [Bool.not_not] at this
      exact this.symm
    rw [this]; rfl
  · intro k hk
    obtain ⟨x, y, h1, h2, h3, h4, h5, h6⟩ := p3 k hk
    refine ⟨x, y, h1, h2, ?_, ?_, ?_, ?_⟩
    · rw [(rbH_3 h len).1]; exact h3
    · unfold mbH rdH
      rw [mR_ne _ _ _ (by decide)]; exact h4
    · rw [(rbH_3 h len).1]; exact h5
    · unfold mbH rdH
      rw [mR_ne _ _ _ (by decide)]; exact h6
  · rw [(rbH_3 h len).2]; exact p4
  · unfold mbH rdH
    rw [mR_k _ _ _ (by decide) (by decide)]; exact p5
  · show rdH _ len q = _
    rw [g1 q (by omega) (by omega) (by omega), r1 q (by omega) (by omega)]
  · show rdH _ len 243 2 = _
    rw [g1 243 (by decide) (by decide) (by decide)]; exact r2
  · exact g3
  · show rdH _ len 253 2 = _
    rw [g2 2 (by decide) (by decide) (by decide) (by decide) (by decide) (by decide), r1 253 (by decide) (by decide)]
  · show rdH _ len 253 4 = _
    rw [g2 4 (by decide) (by decide) (by decide) (by decide) (by decide) (by decide), r1 253 (by decide) (by decide)]
  · show rdH _ len 0 7 = _
    rw [g1 0 (by decide) (by decide) (by decide), r1 0 (by decide) (by decide)]
  · refine InvR_c hI.2.2.2.2.1 ?_ ?_
    · show rdH _ len 0 8 = _
      rw [g1 0 (by decide) (by decide) (by decide), r1 0 (by decide) (by decide)]
    · show rdH _ len 253 6 = _
      rw [g2 6 (by decide) (by decide) (by decide) (by decide) (by decide) (by decide), r1 253 (by decide) (by decide)]
  · show rdH _ len 0 9 = rdH _ len 253 7
    rw [g1 0 (by decide) (by decide) (by decide), r1 0 (by decide) (by decide), g2 7 (by decide) (by decide) (by decide) (by decide) (by decide) (by decide), r1 253 (by decide) (by decide)]
    exact hI.2.2.2.2.2
theorem jb_no2 (hfl : l.stackTraces = false) {h : HP} (hI : INV h) {len : Nat} (h40 : len ≤ 40) (i1 : h 243 2 = nI len) (i2 : h 253 9 = nI len) (i3 : ∀ i, i < len → h 244 i = h 257 i)
    (ok : ((rbF (h 244) len 4 0 h 0 true false).2.2.1 && (rbF (h 244) len 4 0 h 0 true false).2.2.2) = true) {P : Nat} (p2 : P ≤ 4) (p3 : RdC (rbH h len) (mbH h len) P) (p4 : rbH h len 243 3 = nI P) (p5 : mbH h len 253 13 = nI P)
    (e2 : anyB (fun k => decide (rbH h len 246 (k * 2 + 1) = 0)) P = true) : JBl l G ad h := by
  obtain ⟨b1, b2, b3, b4, b5, b6, b7⟩ := jb_ok hI h40 i1 i2 i3 ok
  have e3 : anyB (fun k => decide (mbH h len 259 k = 0)) P = true := by
    rw [← e2]
    exact anyB_c (fun k hk => by
      obtain ⟨x, y, h1, h2, h3, h4, h5, h6⟩ := p3 k hk
      rw [h5, h6])
  exact ⟨1, 0, _, _, sp_L_blend_x1 (sp_X7_blend_no2 hfl i1 h40 rfl ok p4 p2 e2), sp_X8_blend_no2 (g1 := mbH h len) b1 h40 rfl b2 p5 p2 e3, hput_at _ _ _ _, fun q => absurd q (by decide), b4.fa⟩
/-- the same parts, the same refusal -/
theorem wp_eq {hc hm : HP} {P nL : Nat} (hL : nL ≤ 24) (r : RdC hc hm P) : ∀ k, k < P → wpB (fun k => hc 246 (k * 2 + 0)) (nI nL) k = wmB (fun k => hm 258 k) (nI nL) k := by
  intro k hk
  obtain ⟨x, y, h1, h2, h3, h4, h5, h6⟩ := r k hk
  unfold wpB wmB
  have e1 : anyB (fun o => decide (hc 246 (o * 2 + 0) = hc 246 (k * 2 + 0))) k = anyB (fun o => decide (hm 258 o = hm 258 k)) k := anyB_c (fun o ho => by
    obtain ⟨x', y', g1, g2, g3, g4, g5, g6⟩ := r o (by omega)
    rw [g3, g4, h3, h4])
  have e2 : decide (nI nL ≤ hc 246 (k * 2 + 0)) = !(wiB (hm 258 k) 0 (nI nL - 1)) := by
    rw [h3, h4]
    by_cases c : x < nL
    · rw [wi_ok rfl c (by omega), decide_eq_false (nI_ge c (by omega))]; rfl
    · rw [decide_eq_true (nI_le (show nL ≤ x by omega) (by omega))]
      cases e : wiB (nI x) 0 (nI nL - 1) with
      | false => rfl
      | true =>
        obtain ⟨t, t1, t2⟩ := wi_of rfl (by omega) e
        have := (nI_eq (by omega) (by omega)).mp t2
        omega
  rw [e1, e2]
theorem rf_eq {w g : Bool} {gen : Int32} {nL : Nat} (hL : nL ≤ 24) : refI w g gen (nI nL) = rmI w g gen (nI nL) := by
  unfold refI rmI
  have : (if nI nL < 24 then (0 : Int32) else 4) = if nI nL = 24 then 4 else 0 := by
    by_cases c : nL = 24
    · subst c; decide
    · rw [if_pos (show nI nL < 24 from nI_lt (b := 24) (by omega) (by decide)), if_neg (show ¬ nI nL = 24 from fun q => c ((nI_eq (b := 24) (by omega) (by decide)).mp q))]
  rw [this]
end BM
