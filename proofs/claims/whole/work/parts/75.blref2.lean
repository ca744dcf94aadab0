/-! BLEND: refused, both sides -/
section BQ
variable {l : Launch} {G : GC} {ad : Nat → Nat}
def tnB (h : HP) (len k : Nat) : Nat := nv (rbH h len 246 (k * 2 + 0))
def wrB (h : HP) (len P : Nat) : Int32 := refI (anyB (wpB (fun k => rbH h len 246 (k * 2 + 0)) (nI (nLF (h 254)))) P) (anyB (fun k => decide (rbH h len 4 (tnB h len k * 5 + 1) < rbH h len 246 (k * 2 + 1))) P) (maxF (fun k => rbH h len 4 (tnB h len k * 5 + 3)) P + 1) (nI (nLF (h 254)))
theorem rf_m1 (w g : Bool) (gen c : Int32) : ¬ refI w g gen c = -1 := by
  unfold refI
  split
  · decide
  · split
    · decide
    · split
      · decide
      · split <;> decide
theorem wr_eq {h g : HP} {len P : Nat} (hI : INV h) (p3 : RdC (rbH h len) g P) (eg : g 254 = h 254) :
    rmI (anyB (wmB (fun k => g 258 k) (g 254 0)) P) (anyB (fun k => decide (mL g (tnB h len k) 1 < g 259 k)) P) (maxF (fun k => mL g (tnB h len k) 3) P + 1) (g 254 0) = wrB h len P := by
  have hR := hI.1.1
  have hi := hI.1.2
  have h24 : nLF (h 254) ≤ 24 := hi.1.1.2
  have e0 : g 254 0 = nI (nLF (h 254)) := by rw [eg]; exact hi.1.1.1
  have r4 : ∀ j, rbH h len 4 j = h 4 j := fun j => congrFun ((rbH_o h len).1 4 (by decide) (by decide)) j
  have ew : anyB (wmB (fun k => g 258 k) (nI (nLF (h 254)))) P = anyB (wpB (fun k => rbH h len 246 (k * 2 + 0)) (nI (nLF (h 254)))) P := anyB_c (fun k hk => (wp_eq h24 p3 k hk).symm)
  unfold wrB
  rw [e0, ew, rf_eq h24]
  cases e : anyB (wpB (fun k => rbH h len 246 (k * 2 + 0)) (nI (nLF (h 254)))) P with
  | true =>
    have t1 : ∀ (a : Bool) (b c : Int32), rmI true a b c = 1 := fun _ _ _ => by unfold rmI; rw [if_pos rfl]
    rw [t1, t1]
  | false =>
    have ht := tn_ok h24 p3 e
    have e1 : anyB (fun k => decide (mL g (tnB h len k) 1 < g 259 k)) P = anyB (fun k => decide (rbH h len 4 (tnB h len k * 5 + 1) < rbH h len 246 (k * 2 + 1))) P := anyB_c (fun k hk => by
      obtain ⟨x, y, h1, h2, h3, h4, h5, h6⟩ := p3 k hk
      have hl : tnB h len k < 24 := Nat.lt_of_lt_of_le (ht k hk).2 h24
      rw [h5, h6, r4, hR.lot hl (show 1 < 5 by decide)]
      unfold mL
      rw [eg])
    have e2 : maxF (fun k => mL g (tnB h len k) 3) P = maxF (fun k => rbH h len 4 (tnB h len k * 5 + 3)) P := maxF_c (fun k hk => by
      have hl : tnB h len k < 24 := Nat.lt_of_lt_of_le (ht k hk).2 h24
      rw [r4, hR.lot hl (show 3 < 5 by decide)]
      unfold mL
      rw [eg])
    rw [e1, e2]
theorem jb_no3 (hfl : l.stackTraces = false) {h : HP} (hI : INV h) {len : Nat} (h40 : len ≤ 40) (i1 : h 243 2 = nI len) (i2 : h 253 9 = nI len) (i3 : ∀ i, i < len → h 244 i = h 257 i)
    (ok : ((rbF (h 244) len 4 0 h 0 true false).2.2.1 && (rbF (h 244) len 4 0 h 0 true false).2.2.2) = true) {P : Nat} (p2 : P ≤ 4) (p4 : rbH h len 243 3 = nI P)
    (e2 : anyB (fun k => decide (rbH h len 246 (k * 2 + 1) = 0)) P = false) (e3 : ¬ wrB h len P = 0) : JBl l G ad h := by
  have hi := hI.1.2
  have h24 : nLF (h 254) ≤ 24 := hi.1.1.2
  obtain ⟨r1, r2, r3⟩ := rbH_o h len
  have c0 : ∀ q, q ≠ 0 → q ≠ 243 → q ≠ 246 → hput (rbH h len) 0 8 (wrB h len P) q = h q := fun q h1 h2 h3 => by rw [hput_ne _ _ _ h1, r1 q h2 h3]
  obtain ⟨x1, x2, x3⟩ := jb_okX (c := hput (rbH h len) 0 8 (wrB h len P)) i3 (c0 257 (by decide) (by decide) (by decide)) ok p2 p4
  obtain ⟨g1, g2, g3, g4⟩ := rdH_o (hput (rbH h len) 0 8 (wrB h len P)) len (nI len)
  have eg : rdH (hput (hput (hput (hput (rbH h len) 0 8 (wrB h len P)) 253 5 0) 253 10 (nI len)) 253 9 0) len 254 = h 254 := by rw [g1 254 (by decide) (by decide) (by decide), c0 254 (by decide) (by decide) (by decide)]
  have ew := wr_eq hI x2 eg
  have e2m : anyB (fun k => decide (rdH (hput (hput (hput (hput (rbH h len) 0 8 (wrB h len P)) 253 5 0) 253 10 (nI len)) 253 9 0) len 259 k = 0)) P = false := by
    rw [← e2]
    exact anyB_c (fun k hk => by
      obtain ⟨x, y, h1, h2, h3, h4, h5, h6⟩ := x2 k hk
      rw [h5, h6])
  refine ⟨2, 0, _, _, sp_L_blend_x2 (sp_X7_blend_no3 hfl i1 h40 rfl ok p4 p2 e2 (nL := nLF (h 254)) ((congrFun (r1 2 (by decide) (by decide)) 5).trans (hI.1.1.c0.trans hi.1.1.1)) h24 (tn := tnB h len) (fun e k hk => ⟨(tn_ok h24 x2 e k hk).1, Nat.lt_of_lt_of_le (tn_ok h24 x2 e k hk).2 h24⟩) e3),
    sp_X8_blend_no3 (len := len) ((congrFun (c0 253 (by decide) (by decide) (by decide)) 9).trans i2) h40 rfl x1 x3 p2 e2m (tn := tnB h len) (fun e k hk => ?_) (fun q => e3 (ew.symm.trans q)), hput_at _ _ _ _, fun q => absurd q (by decide), ?_⟩
  · have e0 : rdH (hput (hput (hput (hput (rbH h len) 0 8 (wrB h len P)) 253 5 0) 253 10 (nI len)) 253 9 0) len 254 0 = nI (nLF (h 254)) := by rw [eg]; exact hi.1.1.1
    have e' : anyB (wpB (fun k => rbH h len 246 (k * 2 + 0)) (nI (nLF (h 254)))) P = false := by
      refine (anyB_c (fun k hk => wp_eq h24 x2 k hk)).trans ?_
      rw [← e0]; exact e
    obtain ⟨x, y, h1, h2, h3, h4, h5, h6⟩ := x2 k hk
    obtain ⟨u1, u2⟩ := tn_ok h24 x2 e' k hk
    exact ⟨h4.trans (h3.symm.trans u1), Nat.lt_of_lt_of_le u2 h24⟩
  · refine INV.fa (INV_read hI (fun q hq => ?_) ?_ ?_ ?_ ?_ ?_ (Or.inr ⟨?_, ?_, ?_⟩) ?_)
    · rw [hput_ne _ _ _ (by omega)]; exact (g1 q (by omega) (by omega) (by omega)).trans (c0 q (by omega) (by omega) (by omega))
    · rw [hput_ne _ _ _ (by decide)]; exact (congrFun (g1 243 (by decide) (by decide) (by decide)) 2).trans ((congrFun (hput_ne _ _ _ (by decide)) 2).trans r2)
    · rw [hput_k _ _ _ (by decide)]; exact g3
    · rw [hput_k _ _ _ (by decide)]; exact (g2 2 (by decide) (by decide) (by decide) (by decide) (by decide) (by decide)).trans (congrFun (c0 253 (by decide) (by decide) (by decide)) 2)
    · rw [hput_k _ _ _ (by decide)]; exact (g2 4 (by decide) (by decide) (by decide) (by decide) (by decide) (by decide)).trans (congrFun (c0 253 (by decide) (by decide) (by decide)) 4)
    · rw [hput_ne _ _ _ (by decide)]; exact (congrFun (g1 0 (by decide) (by decide) (by decide)) 7).trans ((hput_k _ _ _ (by decide)).trans (congrFun (r1 0 (by decide) (by decide)) 7))
    · rw [hput_at, hput_ne _ _ _ (by decide)]; exact (congrFun (g1 0 (by decide) (by decide) (by decide)) 8).trans ((hput_at _ _ _ _).trans ew.symm)
    · rw [hput_ne _ _ _ (by decide)]
      exact fun q => rf_m1 _ _ _ _ ((hput_at _ _ _ _).symm.trans ((congrFun (g1 0 (by decide) (by decide) (by decide)) 8).symm.trans q))
    · rw [hput_at]; exact fun q => e3 (ew.symm.trans q)
    · rw [hput_ne _ _ _ (by decide), hput_k _ _ _ (by decide)]
      exact (congrFun (g1 0 (by decide) (by decide) (by decide)) 9).trans ((hput_k _ _ _ (by decide)).trans ((congrFun (r1 0 (by decide) (by decide)) 9).trans (hI.2.2.2.2.2.trans ((congrFun (c0 253 (by decide) (by decide) (by decide)) 7).symm.trans (g2 7 (by decide) (by decide) (by decide) (by decide) (by decide) (by decide)).symm))))
end BQ
