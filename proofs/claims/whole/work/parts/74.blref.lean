/-! BLEND: refused -/
section BN
variable {l : Launch} {G : GC} {ad : Nat → Nat}
theorem jb_okX {h c : HP} {len : Nat} (i3 : ∀ i, i < len → h 244 i = h 257 i) (hc : c 257 = h 257)
    (ok : ((rbF (h 244) len 4 0 h 0 true false).2.2.1 && (rbF (h 244) len 4 0 h 0 true false).2.2.2) = true) {P : Nat} (p2 : P ≤ 4) (p4 : rbH h len 243 3 = nI P) :
    rdH (hput (hput (hput c 253 5 0) 253 10 (nI len)) 253 9 0) len 253 12 = 0 ∧ RdC (rbH h len) (rdH (hput (hput (hput c 253 5 0) 253 10 (nI len)) 253 9 0) len) P ∧ rdH (hput (hput (hput c 253 5 0) 253 10 (nI len)) 253 9 0) len 253 13 = nI P := by
  have ht : ∀ i, i < len → h 244 i = hput (hput (hput c 253 5 0) 253 10 (nI len)) 253 9 0 257 i := fun i hi => by
    rw [hput_ne _ _ _ (by decide), hput_ne _ _ _ (by decide), hput_ne _ _ _ (by decide), hc]; exact i3 i hi
  obtain ⟨d1, d2, d3⟩ := rd_eq ht
  obtain ⟨P', p1', p2', p3, p4', p5⟩ := d3 ok
  rw [ok] at d2
  have eP : P' = P := by
    rw [(rbH_3 h len).2] at p4
    exact (nI_eq (by omega) (by omega)).mp (p4'.symm.trans p4)
  subst eP
  refine ⟨?_, ?_, ?_⟩
  · unfold rdH
    rw [mR_wr12]
    have : ((rdR (hput (hput (hput c 253 5 0) 253 10 (nI len)) 253 9 0) len).2.2.2 || decide ((rdR (hput (hput (hput c 253 5 0) 253 10 (nI len)) 253 9 0) len).2.1 < len)) = false := by
      have := congrArg (fun b => !b) d2
      simp only [Bool.not_not] at this
      exact this.symm
    rw [this]; rfl
  · intro k hk
    obtain ⟨x, y, h1, h2, h3, h4, h5, h6⟩ := p3 k hk
    refine ⟨x, y, h1, h2, ?_, ?_, ?_, ?_⟩
    · rw [(rbH_3 h len).1]; exact h3
    · unfold rdH
      rw [mR_ne _ _ _ (by decide)]; exact h4
    · rw [(rbH_3 h len).1]; exact h5
    · unfold rdH
      rw [mR_ne _ _ _ (by decide)]; exact h6
  · unfold rdH
    rw [mR_k _ _ _ (by decide) (by decide)]; exact p5
/-- the told parts are lots -/
theorem tn_ok {hc hm : HP} {P nL : Nat} (hL : nL ≤ 24) (r : RdC hc hm P) (e : anyB (wpB (fun k => hc 246 (k * 2 + 0)) (nI nL)) P = false) : ∀ k, k < P → hc 246 (k * 2 + 0) = nI (nv (hc 246 (k * 2 + 0))) ∧ nv (hc 246 (k * 2 + 0)) < nL := by
  intro k hk
  obtain ⟨x, y, h1, h2, h3, h4, h5, h6⟩ := r k hk
  rw [h3, nv_nI (by omega)]
  refine ⟨rfl, ?_⟩
  rcases Nat.lt_or_ge x nL with q | q
  · exact q
  · have : anyB (wpB (fun k => hc 246 (k * 2 + 0)) (nI nL)) P = true := anyB_iff.mpr ⟨k, hk, by
      unfold wpB
      dsimp only
      have t0 : nI nL ≤ hc 246 (k * 2 + 0) := by rw [h3]; exact nI_le q (by omega)
      rw [decide_eq_true t0]; rfl⟩
    rw [this] at e; cases e
end BN
