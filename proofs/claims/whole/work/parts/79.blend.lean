/-! BLEND: all of it -/
section BZ
variable {l : Launch} {G : GC} {ad : Nat → Nat}
set_option maxHeartbeats 4000000 in
theorem jb_yes (hfl : l.stackTraces = false) {h : HP} (hI : INV h) {len : Nat} (h40 : len ≤ 40) (i1 : h 243 2 = nI len) (i2 : h 253 9 = nI len) (i3 : ∀ i, i < len → h 244 i = h 257 i)
    (ok : ((rbF (h 244) len 4 0 h 0 true false).2.2.1 && (rbF (h 244) len 4 0 h 0 true false).2.2.2) = true) {P : Nat} (p1 : 2 ≤ P) (p2 : P ≤ 4) (p4 : rbH h len 243 3 = nI P)
    (e2 : anyB (fun k => decide (rbH h len 246 (k * 2 + 1) = 0)) P = false) (e3 : wrB h len P = 0) : JBl l G ad h := by
  have hR := hI.1.1
  have hi := hI.1.2
  have h24 : nLF (h 254) ≤ 24 := hi.1.1.2
  obtain ⟨k, c, ⟨hk, hk8⟩, ⟨hc, hc8⟩, t3, hh⟩ := hI.2.2.1
  obtain ⟨r1, r2, r3⟩ := rbH_o h len
  have rd : RdC (rbH h len) (rdH (hput (hput (hput (rbH h len) 253 5 0) 253 10 (nI len)) 253 9 0) len) P := (jb_okX (c := rbH h len) i3 (r1 257 (by decide) (by decide)) ok p2 p4).2.1
  obtain ⟨w1, w2, w3, w4, w5⟩ := wr_0 hI rd e3
  obtain ⟨nL, hnL⟩ : ∃ n, n = nv (h 254 0) := ⟨_, rfl⟩
  obtain ⟨nH, hnH⟩ : ∃ n, n = nv (h 254 1) := ⟨_, rfl⟩
  have n24 : nL < 24 := by rw [hnL]; exact w1
  have n12 : nH ≤ 12 := by rw [hnH]; exact hi.1.2.1.2
  have eL : h 254 0 = nI nL := by rw [hnL]; exact hi.1.1.1
  have eH : h 254 1 = nI nH := by rw [hnH]; exact hi.1.2.1.1
  have r4 : ∀ j, rbH h len 4 j = h 4 j := fun j => congrFun (r1 4 (by decide) (by decide)) j
  obtain ⟨tn, htn⟩ : ∃ f : Nat → Nat, tnB h len = f := ⟨_, rfl⟩
  have wr : wrB h len P = refI (anyB (wpB (fun k => rbH h len 246 (k * 2 + 0)) (nI nL)) P) (anyB (fun k => decide (rbH h len 4 (tn k * 5 + 1) < rbH h len 246 (k * 2 + 1))) P) (maxF (fun k => rbH h len 4 (tn k * 5 + 3)) P + 1) (nI nL) := by
    unfold wrB nLF
    rw [htn, ← hnL]
  rw [htn] at w2 w3 w4 w5
  have ht : ∀ k, k < P → tn k < nL := fun k hk => by rw [hnL]; exact (w2 k hk).2
  have htl : ∀ k, k < P → rbH h len 246 (k * 2 + 0) = nI (tn k) := fun k hk => (w2 k hk).1
  obtain ⟨y, hyd⟩ : ∃ f : Nat → Nat, f = fun k => nv (rbH h len 246 (k * 2 + 1)) := ⟨_, rfl⟩
  have hy : ∀ k, k < P → rbH h len 246 (k * 2 + 1) = nI (y k) ∧ y k < 10000 ∧ 1 ≤ y k := fun k hk => by
    obtain ⟨x, y', h1, h2, h3, h4, h5, h6⟩ := rd k hk
    have e : y k = y' := by
      rw [hyd]
      show nv (rbH h len 246 (k * 2 + 1)) = y'
      rw [h5]; exact nv_nI (by omega)
    rw [e]
    refine ⟨h5, h2, ?_⟩
    have a1 : decide (rbH h len 246 (k * 2 + 1) = 0) = false := anyB_f e2 k hk
    rcases Nat.eq_zero_or_pos y' with q | q
    · rw [q] at h5
      exact absurd h5 (of_decide_eq_false a1)
    · exact q
  obtain ⟨sv, hsvd⟩ : ∃ f : Nat → Nat → Nat, f = fun k i => nv (h 254 (8 + 25 * tn k + (13 + i))) := ⟨_, rfl⟩
  have hlo : ∀ k, k < P → LotOk (h 254) (tn k) := fun k hk => hi.2.2.1 (tn k) (w2 k hk).2
  have hsv : ∀ k i, k < P → i < 12 → h 254 (8 + 25 * tn k + (13 + i)) = nI (sv k i) ∧ sv k i ≤ 1000 := fun k i hk hi => by
    have := (hlo k hk).2.2.2.2.2.2.2.2.1 i hi
    rw [hsvd]; exact this
  have hsv1 : ∀ k, k < P → sumN (sv k) 12 = 1000 := fun k hk => by
    have := (hlo k hk).2.2.2.2.2.2.2.2.2.1
    rw [nSh_sum] at this
    rw [hsvd]; exact this
  have hsv0 : ∀ k i, k < P → nH ≤ i → i < 12 → sv k i = 0 := fun k i hk h1 h2 => by
    have := (hlo k hk).2.2.2.2.2.2.2.2.2.2 i (by rw [← hnH]; exact h1) h2
    rw [hsvd]
    show nv (h 254 (8 + 25 * tn k + (13 + i))) = 0
    rw [this]; rfl
  obtain ⟨num, hnumd⟩ : ∃ f : Nat → Nat, f = fun i => sumN (fun k => y k * sv k i) P := ⟨_, rfl⟩
  obtain ⟨T, hTd⟩ : ∃ n, n = sumN y P := ⟨_, rfl⟩
  have hT1 : 1 ≤ T := by
    have h1 := (hy 0 (by omega)).2.2
    have h2 := sumN_one (f := y) (i := 0) (n := P) (by omega)
    omega
  have hT2 : T ≤ 39996 := by
    have h2 := sumN_le (g := y) (B := 9999) (n := P) (fun k hk => by have := (hy k hk).2.1; omega)
    omega
  have hnum : ∀ i, i < 12 → num i = sumN (fun k => y k * sv k i) P ∧ num i < 2147483648 := fun i hi => by
    have h2 := sumN_le (g := fun k => y k * sv k i) (B := 9999 * 1000) (n := P) (fun k hk => Nat.mul_le_mul (by have := (hy k hk).2.1; omega) (hsv k i hk hi).2)
    have h3 : num i = sumN (fun k => y k * sv k i) P := by rw [hnumd]
    refine ⟨h3, ?_⟩
    rw [h3]
    omega
  have hsum : sumN num 12 = 1000 * T := by
    have h1 := sumN_sw (fun k i => y k * sv k i) P 12
    have h3 : sumN (fun k => sumN (fun i => y k * sv k i) 12) P = sumN (fun k => 1000 * y k) P := sumN_c (fun k hk => by
      show sumN (fun i => y k * sv k i) 12 = 1000 * y k
      rw [sumN_mul (y k) (sv k) 12, hsv1 k hk, Nat.mul_comm])
    rw [hnumd, hTd]
    exact h1.trans (h3.trans (sumN_mul 1000 y P))
  have hz : ∀ i, nH ≤ i → i < 12 → num i = 0 := fun i h1 h2 => by
    rw [(hnum i h2).1]
    exact (sumN_c (g := fun _ => 0) (fun k hk => by rw [hsv0 k i hk h1 h2, Nat.mul_zero])).trans (sumN_0 P)
  obtain ⟨m, m1, m2, m3⟩ := maxF_is (g := fun k => h 254 (8 + 25 * tn k + 3)) (f := fun k => nv (h 254 (8 + 25 * tn k + 3))) (n := P) (fun k hk => (hlo k hk).2.2.2.1)
  have eG : maxF (fun k => h 254 (8 + 25 * tn k + 3)) P + 1 = nI (m + 1) := by rw [m2, show (1 : Int32) = nI 1 from rfl, nI_add]
  have hG : m + 1 ≤ 4 := by
    rcases Nat.lt_or_ge m 4 with q | q
    · omega
    · rw [eG] at w5
      exact absurd (nI_lt (a := 4) (b := m + 1) (by omega) (by omega)) w5
  -- the class
  have ro : ∀ q, q < 49 ∨ 242 < q → remH (rbH h len) 1 k c q = rbH h len q := fun q hq => remH_o (rbH h len) 1 k c hk8 hq
  have eTc : sumC (fun j => remH (rbH h len) 1 k c 246 (j * 2 + 1)) P = nI T := by
    rw [hTd]
    exact sumC_nI (fun j hj => by rw [ro 246 (Or.inr (by decide))]; exact (hy j hj).1)
  have eGc : maxF (fun j => remH (rbH h len) 1 k c 4 (tn j * 5 + 3)) P + 1 = nI (m + 1) := by
    rw [← eG]
    congr 1
    exact maxF_c (fun j hj => by
      rw [ro 4 (Or.inl (by decide)), r4, hR.lot (by have := ht j hj; omega) (show 3 < 5 by decide)]; rfl)
  have pc := sp_X7_blend_ok (l := l) (G := G) (ad := ad) hfl i1 h40 (h2 := rbH h len) rfl ok p4 p2 e2 (nL := nL) ((congrFun (r1 2 (by decide) (by decide)) 5).trans (hR.c0.trans eL)) (by omega) (tn := tn) (fun _ j hj => ⟨htl j hj, by have := ht j hj; omega⟩) (wr.symm.trans e3)
    (h3 := remH (rbH h len) 1 k c) ((congrFun (r1 49 (by decide) (by decide)) 1).trans hk) hk8 ((congrFun (r1 49 (by decide) (by decide)) 2).trans hc) hc8 rfl ((congrFun (ro 2 (Or.inl (by decide))) 5).trans ((congrFun (r1 2 (by decide) (by decide)) 5).trans (hR.c0.trans eL))) n24 ((congrFun (ro 243 (Or.inr (by decide))) 3).trans p4)
    (fun j hj => ⟨(congrFun (ro 246 (Or.inr (by decide))) _).trans (htl j hj), by have := ht j hj; omega⟩) (by rw [eTc]; exact nI_lt (a := 0) (by omega) (by omega))
  rw [eTc, eGc] at pc
  obtain ⟨C, hC⟩ : ∃ X, X = mixH (hQ (entH (remH (rbH h len) 1 k c) nL (nI T) (nI P) (nI (m + 1)) (-1)) tn (fun j => remH (rbH h len) 1 k c 246 (j * 2 + 0)) (fun j => remH (rbH h len) 1 k c 246 (j * 2 + 1)) nL P) tn P nL (nI T) := ⟨_, rfl⟩
  rw [← hC] at pc
  have oC : ∀ q, q ≠ 2 → q ≠ 4 → q ≠ 6 → q ≠ 8 → q ≠ 10 → q ≠ 250 → C q = remH (rbH h len) 1 k c q := fun q z1 z2 z3 z4 z5 z6 => by
    rw [hC, mixH_o z5 z6, (hQ_is w3 P (Nat.le_refl _)).2.2.2.2.2.2 q z2 z3 z4, (entH_is _ _ _ _ _ _).2.2.2.2.2.2.2.2 q z1 z2]
  have oC2 : ∀ q, 242 < q → q ≠ 243 → q ≠ 246 → q ≠ 250 → C q = h q := fun q z1 z2 z3 z4 => by
    rw [oC q (by omega) (by omega) (by omega) (by omega) (by omega) z4, ro q (Or.inr z1), r1 q z2 z3]
  -- the model
  have hH : ∀ q, q ≠ 263 → hput C 263 0 (nI nL) q = C q := fun q hq => hput_ne _ _ _ hq
  obtain ⟨x1, x2, x3⟩ := jb_okX (c := hput C 263 0 (nI nL)) i3 ((hH 257 (by decide)).trans (oC2 257 (by decide) (by decide) (by decide) (by decide))) ok p2 p4
  obtain ⟨g1, g2, g3, g4⟩ := rdH_o (hput C 263 0 (nI nL)) len (nI len)
  obtain ⟨g, hg⟩ : ∃ X, rdH (hput (hput (hput (hput C 263 0 (nI nL)) 253 5 0) 253 10 (nI len)) 253 9 0) len = X := ⟨_, rfl⟩
  rw [hg] at x1 x2 x3 g1 g2 g3 g4
  have eg : g 254 = h 254 := by rw [g1 254 (by decide) (by decide) (by decide), hH 254 (by decide), oC2 254 (by decide) (by decide) (by decide) (by decide)]
  have eg2 : ∀ j, j ≠ 5 → j ≠ 9 → j ≠ 10 → j ≠ 11 → j ≠ 12 → j ≠ 13 → g 253 j = h 253 j := fun j z1 z2 z3 z4 z5 z6 => by rw [g2 j z1 z2 z3 z4 z5 z6, hH 253 (by decide), oC2 253 (by decide) (by decide) (by decide) (by decide)]
  have ew := wr_eq hI x2 eg
  rw [htn] at ew
  have g8 : ∀ j, j < P → g 258 j = nI (tn j) ∧ g 259 j = nI (y j) := fun j hj => by
    obtain ⟨x, y', h1, h2, h3, h4, h5, h6⟩ := x2 j hj
    exact ⟨h4.trans (h3.symm.trans (htl j hj)), h6.trans (h5.symm.trans (hy j hj).1)⟩
  have e2m : anyB (fun j => decide (g 259 j = 0)) P = false := by
    rw [← e2]
    exact anyB_c (fun j hj => by rw [(g8 j hj).2, (hy j hj).1])
  have oM : ∀ q, q ≠ 253 → q ≠ 255 → remM g c q = g q := fun q z1 z2 => remM_o g c z1 z2
  have eTm : bmT (remM g c) P = nI T := by
    rw [hTd]
    exact sumC_nI (fun j hj => by rw [oM 259 (by decide) (by decide)]; exact (g8 j hj).2)
  have eM : remM g c 254 = h 254 := (oM 254 (by decide) (by decide)).trans eg
  have eGm : maxF (fun j => mL (remM g c) (tn j) 3) P + 1 = nI (m + 1) := by
    rw [← eG]
    congr 1
    exact maxF_c (fun j hj => by unfold mL; rw [eM])
  obtain ⟨b0, b1, b2, b3, b4, b5, b6, b7, b8, b9, b10, b11, b12, b13⟩ := bm2_is (g := remM g c) p2 w3 ht
  rw [eTm] at b1 b2
  rw [eGm] at b4
  have hfs : ∀ i, i < 12 → fsS (bm2 (remM g c) tn P nL) tn nL P i = nI (num i) ∧ num i < 2147483648 := fun i hi => by
    refine ⟨?_, (hnum i hi).2⟩
    rw [(hnum i hi).1]
    refine sumC_nI (fun j hj => ?_)
    have z1 : mL (bm2 (remM g c) tn P nL) nL (9 + j) = nI (y j) := (b8 j hj).trans ((congrFun (oM 259 (by decide) (by decide)) j).trans (g8 j hj).2)
    have z2 : mL (bm2 (remM g c) tn P nL) (tn j) (13 + i) = nI (sv j i) := by
      have h9 := ht j hj
      exact (b12 (8 + 25 * tn j + (13 + i)) (by omega) (by omega) (fun a ha => by omega)).trans ((congrFun eM _).trans (hsv j i hj hi).1)
    rw [z1, z2, pk_mul]
  obtain ⟨M, f1, f2, f3, f4, f5⟩ := fsg_is (h := bm2 (remM g c) tn P nL) (pk := tn) (lot := nL) (nH := nH) hT1 (by omega) p2 hfs (fun j hj => by have := ht j hj; omega) n12 hz hsum
  have pm := sp_X8_blend_ok (l := l) (G := G) (ad := ad) (h := hput C 263 0 (nI nL)) (g1 := g) (len := len) ((congrFun (hH 253 (by decide)) 9).trans ((congrFun (oC2 253 (by decide) (by decide) (by decide) (by decide)) 9).trans i2)) h40 hg x1 x3 p2 e2m (tn := tn) (fun _ j hj => ⟨(g8 j hj).1, by have := ht j hj; omega⟩) (ew.trans e3)
    (h3 := remM g c) (sp_X8_rem ((eg2 2 (by decide) (by decide) (by decide) (by decide) (by decide) (by decide)).trans t3) hc8) (nL := nL) (nH := nH) (M := M) ((remM_k g c (by decide)).trans x3) (fun j hj => ⟨(congrFun (oM 258 (by decide) (by decide)) j).trans (g8 j hj).1, by have := ht j hj; omega⟩) ((congrFun eM 0).trans eL)
    (((qmH_row (g := remM g c) w3 P (Nat.le_refl _)).2 0 (fun j hj => by omega)).trans ((congrFun eM 0).trans eL)) n24 ((b12 1 (by omega) (by omega) (fun j hj => by omega)).trans ((congrFun eM 1).trans eH)) n12 b3 (fun j hj => ⟨(b6 j hj).trans ((congrFun (oM 258 (by decide) (by decide)) j).trans (g8 j hj).1), by have := ht j hj; omega⟩)
    (b1.trans eTm.symm) (by rw [eTm]; exact nI_ne0 (by omega) (by omega)) f1 (by rw [eTm]; exact f2)
  rw [eTm] at pm
  obtain ⟨F, hF⟩ : ∃ X, X = fgH (fsH (bm2 (remM g c) tn P nL) tn nL P (nI T) nH) nL nH M := ⟨_, rfl⟩
  rw [← hF] at pm f3 f4 f5
  have oF : ∀ q, q ≠ 254 → q ≠ 260 → F q = remM g c q := fun q z1 z2 => (f5 q z1 z2).trans (b13 q z1)
  have oF2 : ∀ q, q ≠ 253 → q ≠ 254 → q ≠ 255 → q ≠ 258 → q ≠ 259 → q ≠ 260 → q ≠ 263 → F q = C q := fun q z1 z2 z3 z4 z5 z6 z7 => by
    rw [oF q z2 z6, oM q z1 z3, g1 q z1 z4 z5, hH q z7]
  have oF3 : ∀ j, j ≠ 2 → j ≠ 5 → j ≠ 9 → j ≠ 10 → j ≠ 11 → j ≠ 12 → j ≠ 13 → F 253 j = rbH h len 253 j := fun j z0 z1 z2 z3 z4 z5 z6 => by
    rw [oF 253 (by decide) (by decide), remM_k _ _ z0, eg2 j z1 z2 z3 z4 z5 z6, r1 253 (by decide) (by decide)]
  -- the row
  have s0 : F 254 0 = nI (nL + 1) := (f3 _ (fun i _ => by omega)).trans b0
  have s1 : F 254 (8 + 25 * nL + 0) = nI T := (f3 _ (fun i _ => by omega)).trans b1
  have s2 : F 254 (8 + 25 * nL + 1) = nI T := (f3 _ (fun i _ => by omega)).trans b2
  have s3 : F 254 (8 + 25 * nL + 2) = nI P := (f3 _ (fun i _ => by omega)).trans b3
  have s4 : F 254 (8 + 25 * nL + 3) = nI (m + 1) := (f3 _ (fun i _ => by omega)).trans b4
  have s5 : F 254 (8 + 25 * nL + 4) = -1 := (f3 _ (fun i _ => by omega)).trans b5
  have s6 : ∀ j, j < P → F 254 (8 + 25 * nL + (5 + j)) = nI (tn j) := fun j hj => (f3 _ (fun i _ => by omega)).trans ((b6 j hj).trans ((congrFun (oM 258 (by decide) (by decide)) j).trans (g8 j hj).1))
  have s7 : ∀ j, P ≤ j → j < 4 → F 254 (8 + 25 * nL + (5 + j)) = 0 := fun j h1 h2 => (f3 _ (fun i _ => by omega)).trans (b7 j h1 h2)
  have s8 : ∀ j, j < P → F 254 (8 + 25 * nL + (9 + j)) = nI (y j) := fun j hj => (f3 _ (fun i _ => by omega)).trans ((b8 j hj).trans ((congrFun (oM 259 (by decide) (by decide)) j).trans (g8 j hj).2))
  have s9 : ∀ j, P ≤ j → j < 4 → F 254 (8 + 25 * nL + (9 + j)) = 0 := fun j h1 h2 => (f3 _ (fun i _ => by omega)).trans (b9 j h1 h2)
  have s13 : ∀ j, j < 12 → F 254 (8 + 25 * nL + (13 + j)) = nI (shF num T j) := fun j hj => by
    rcases Nat.lt_or_ge j nH with q | q
    · exact f4 j q
    · rw [f3 _ (fun i hi => by omega), b10 j hj, shF_z hT1 hsum (hz j q hj)]; rfl
  have sq : ∀ j, j < P → F 254 (8 + 25 * tn j + 1) = h 254 (8 + 25 * tn j + 1) - nI (y j) := fun j hj => by
    have h9 := ht j hj
    rw [f3 _ (fun i hi => by omega), b11 j hj, eM, oM 259 (by decide) (by decide), (g8 j hj).2]
  have se : ∀ j, j < 1032 → j ≠ 0 → (j < 8 + 25 * nL ∨ 8 + 25 * nL + 25 ≤ j) → (∀ k, k < P → j ≠ 8 + 25 * tn k + 1) → F 254 j = h 254 j := fun j _ z1 z2 z3 => by
    rw [f3 _ (fun i hi => by omega), b12 j z1 z2 z3, eM]
  have hqy : ∀ j, j < P → y j ≤ nv (h 254 (8 + 25 * tn j + 1)) := fun j hj => by
    have a1 := w4 j hj
    have a2 := (hlo j hj).2.1
    have a3 := (hy j hj).2.1
    have a4 := a2.2
    rcases Nat.lt_or_ge (nv (h 254 (8 + 25 * tn j + 1))) (y j) with q | q
    · rw [(hy j hj).1, a2.1] at a1
      exact absurd (nI_lt q (by omega)) a1
    · exact q
  have sI : Inv (F 254) := hi.blend (nL := nL) (P := P) (T := T) (G := m + 1) (tn := tn) (y := y) (sh := shF num T) hnL.symm n24 p2 w3 ht hqy hT1 hT2 hG (fun j hj => by have : nv (h 254 (8 + 25 * tn j + 3)) ≤ m := m3 j hj; omega) s0 s1 s2 s3 s4 s5 s6 s7 s13 (shF_sum hT1 hsum) (fun j z1 z2 => shF_z hT1 hsum (hz j (by rw [hnH]; exact z1) z2)) sq se
  have hR2 : Rep (remH (rbH h len) 1 k c) 1 (h 254) := hR.congr (fun o z1 z2 => (ro _ (by omega)).trans (r1 _ (by omega) (by omega))) (fun _ _ => rfl)
  have sR : Rep C 1 (F 254) := by
    rw [hC]
    exact hR2.blend (s' := F 254) (y := y) (num := num) (sv := sv) n24 p2 w3 ht (fun j hj => (congrFun (ro 246 (Or.inr (by decide))) _).trans (hy j hj).1) (fun j hj => hi.2.2.2.1 nL j (by rw [hnL]; exact Nat.le_refl _) n24 hj) hT1 (by omega) (fun j i z1 z2 => (hsv j i z1 z2).1) hnum hsum
      s0 s1 s2 s3 s4 s5 (fun j hj => (s6 j hj).trans ((congrFun (ro 246 (Or.inr (by decide))) _).trans (htl j hj)).symm) s7 (fun j hj => (s8 j hj).trans ((congrFun (ro 246 (Or.inr (by decide))) _).trans (hy j hj).1).symm) s9 s13
      (fun j hj => by rw [sq j hj, ro 246 (Or.inr (by decide)), (hy j hj).1]) se
  refine ⟨0, nI nL, _, F, sp_L_blend_ok pc, pm, ?_, fun _ => ?_, INV_bl (h := rbH h len) hk8 hc8 (now_c hI.1 (fun q z1 z2 => r1 q (by omega) (by omega)) (r1 254 (by decide) (by decide)))
    (InvS_c hI.2.1 (fun q z1 z2 => r1 q (by omega) (by omega)) (congrFun (r1 0 (by decide) (by decide)) 7) (congrFun (r1 253 (by decide) (by decide)) 4) (r1 256 (by decide) (by decide)))
    (hh.c (fun q z1 z2 => r1 q (by omega) (by omega)) (r1 255 (by decide) (by decide)))
    (InvR_c hI.2.2.2.2.1 (congrFun (r1 0 (by decide) (by decide)) 8) (congrFun (r1 253 (by decide) (by decide)) 6)) ?_ ⟨?_, sI⟩ (fun q z1 z2 => ?_) (fun q z1 z2 => ?_) ?_ (oF3 4 (by decide) (by decide) (by decide) (by decide) (by decide) (by decide) (by decide))
    (oF3 6 (by decide) (by decide) (by decide) (by decide) (by decide) (by decide) (by decide)) (oF3 7 (by decide) (by decide) (by decide) (by decide) (by decide) (by decide) (by decide)) ?_ ?_ (fun i j z1 z2 => ?_) ?_ ?_⟩
  · rw [oF 253 (by decide) (by decide), remM_k _ _ (by decide)]; exact g4
  · rw [oF 263 (by decide) (by decide), oM 263 (by decide) (by decide), g1 263 (by decide) (by decide) (by decide), hput_at]
  · rw [r1 0 (by decide) (by decide), r1 253 (by decide) (by decide)]; exact hI.2.2.2.2.2
  · exact sR.congr (fun o z1 z2 => oF2 _ (by omega) (by omega) (by omega) (by omega) (by omega) (by omega) (by omega)) (fun _ _ => rfl)
  · rw [oF2 q (by omega) (by omega) (by omega) (by omega) (by omega) (by omega) (by omega), oC q (by omega) (by omega) (by omega) (by omega) (by omega) (by omega), ro q (by omega)]
  · rw [oF2 q (by omega) (by omega) (by omega) (by omega) (by omega) (by omega) (by omega), oC q (by omega) (by omega) (by omega) (by omega) (by omega) (by omega)]
  · rw [oF2 0 (by decide) (by decide) (by decide) (by decide) (by decide) (by decide) (by decide), oC 0 (by decide) (by decide) (by decide) (by decide) (by decide) (by decide), ro 0 (by omega)]
  · rw [oF2 256 (by decide) (by decide) (by decide) (by decide) (by decide) (by decide) (by decide), oC 256 (by decide) (by decide) (by decide) (by decide) (by decide) (by decide), ro 256 (by omega)]
  · rw [oF 253 (by decide) (by decide)]; exact remM_2 g hc8
  · rw [oF 255 (by decide) (by decide), remM_row g hc8 z1 z2, eg, g1 255 (by decide) (by decide) (by decide), hH 255 (by decide), oC2 255 (by decide) (by decide) (by decide) (by decide), r1 254 (by decide) (by decide), r1 255 (by decide) (by decide)]
  · rw [oF2 243 (by decide) (by decide) (by decide) (by decide) (by decide) (by decide) (by decide), oC 243 (by decide) (by decide) (by decide) (by decide) (by decide) (by decide), ro 243 (by omega)]; exact r2
  · rw [oF 253 (by decide) (by decide), remM_k _ _ (by decide)]; exact g3
theorem jp_blend (hfl : l.stackTraces = false) : J_blend l G ad INV := by
  intro h hI
  obtain ⟨len, h40, i1, i2, i3⟩ := hI.2.2.2.1
  have j3 : ∀ i, i < len → h 244 i = h 257 i := fun i hi => (i3 i hi).1
  have key : JBl l G ad h := by
    cases ok : ((rbF (h 244) len 4 0 h 0 true false).2.2.1 && (rbF (h 244) len 4 0 h 0 true false).2.2.2) with
    | false => exact jb_no1 hfl hI h40 i1 i2 j3 ok
    | true =>
      obtain ⟨-, -, ⟨P, p1, p2, p3, p4, p5⟩, -⟩ := jb_ok hI h40 i1 i2 j3 ok
      cases e2 : anyB (fun k => decide (rbH h len 246 (k * 2 + 1) = 0)) P with
      | true => exact jb_no2 hfl hI h40 i1 i2 j3 ok p2 p3 p4 p5 e2
      | false =>
        by_cases e3 : wrB h len P = 0
        · exact jb_yes hfl hI h40 i1 i2 j3 ok p1 p2 p4 e2 e3
        · exact jb_no3 hfl hI h40 i1 i2 j3 ok p2 p4 e2 e3
  exact key
end BZ
