/-! BLEND: all of it -/
section BZ
variable {l : Launch} {G : GC} {ad : Nat → Nat}
theorem jb_yes (hfl : l.stackTraces = false) {h : HP} (hI : INV h) {len : Nat} (h40 : len ≤ 40) (i1 : h 243 2 = nI len) (i2 : h 253 9 = nI len) (i3 : ∀ i, i < len → h 244 i = h 257 i)
    (ok : ((rbF (h 244) len 4 0 h 0 true false).2.2.1 && (rbF (h 244) len 4 0 h 0 true false).2.2.2) = true) {P : Nat} (p1 : 2 ≤ P) (p2 : P ≤ 4) (p4 : rbH h len 243 3 = nI P)
    (e2 : anyB (fun k => decide (rbH h len 246 (k * 2 + 1) = 0)) P = false) (e3 : wrB h len P = 0) : JBl l G ad h := by
  sorry
theorem jp_blend (hfl : l.stackTraces = false) : J_blend l G ad INV := by
  intro h hI
  obtain ⟨len, h40, i1, i2, i3⟩ := hI.2.2.2.1
  have j3 : ∀ i, i < len → h 244 i = h 257 i := fun i hi => (i3 i hi).1
  have key : JBl l G ad h := by
    cases ok : ((rbF (h 244) len 4 0 h 0 true false).2.2.1 && (rbF (h 244) len 4 0 h 0 true false).2.2.2) with
    | false => exact jb_no1 hfl hI h40 i1 i2 j3 ok
    | true =>
      obtain ⟨-, -, ⟨P, p1, p2, p3, p4, p5⟩, -⟩ := jb_ok hI h40 i1 i2 j3 ok
      cases e2 : anyB (fun k => decide (rbH h len 246 (k * 2 + 1) = 0)) P with
      | true => exact jb_no2 hfl hI h40 i1 i2 j3 ok p2 p3 p4 p5 e2
      | false =>
        by_cases e3 : wrB h len P = 0
        · exact jb_yes hfl hI h40 i1 i2 j3 ok p1 p2 p4 e2 e3
        · exact jb_no3 hfl hI h40 i1 i2 j3 ok p2 p4 e2 e3
  exact key
end BZ
