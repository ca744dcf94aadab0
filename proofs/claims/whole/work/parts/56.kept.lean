/-! BOTH SIDES TOGETHER: what is kept, the account, the beginning -/
theorem sumC_add (f g : Nat → Int32) (n : Nat) : sumC (fun k => f k + g k) n = sumC f n + sumC g n := by
  induction n with
  | zero => exact (show (0 : Int32) = 0 + 0 from by decide)
  | succ n ih =>
    rw [sumC, sumC, sumC, ih]
    rw [Int32.add_assoc, Int32.add_assoc, ← Int32.add_assoc (sumC g n), Int32.add_comm (sumC g n) (f n), Int32.add_assoc]
theorem sumC_cat (f : Nat → Int32) (a n : Nat) : sumC f (a + n) = sumC f a + sumC (fun b => f (a + b)) n := by
  induction n with
  | zero => rw [Nat.add_zero, sumC, Int32.add_zero]
  | succ n ih => rw [← Nat.add_assoc, sumC, ih, sumC, Int32.add_assoc]
theorem sumC_z {f : Nat → Int32} {n m : Nat} (hnm : n ≤ m) (h : ∀ k, n ≤ k → k < m → f k = 0) : sumC f m = sumC f n := by
  have : ∀ d, n + d ≤ m → sumC f (n + d) = sumC f n := fun d => by
    induction d with
    | zero => exact fun _ => rfl
    | succ d ih => exact fun hd => by rw [← Nat.add_assoc, sumC, ih (by omega), h (n + d) (by omega) (by omega), Int32.add_zero]
  have h2 := this (m - n) (by omega)
  rw [show n + (m - n) = m by omega] at h2
  exact h2
theorem sumC_dd (F : Nat → Int32) (m : Nat) : sumC (fun b => sumC (fun c => F (16 * c + b)) m) 16 = sumC F (16 * m) := by
  induction m with
  | zero => exact (sumC_c (g := fun _ => 0) (fun _ _ => rfl)).trans (show sumC (fun _ => (0 : Int32)) 16 = 0 from by decide)
  | succ m ih =>
    rw [show 16 * (m + 1) = 16 * m + 16 by omega, sumC_cat, ← ih, ← sumC_add]
    exact sumC_c (fun b _ => rfl)
theorem inS_all : ∀ b, b < 16 → inS (-1) (nI b) = true := by decide
theorem sum_hv {h : HP} (hR : Rep h 1 (h 254)) (hi : Inv (h 254)) : ∀ n, n ≤ nv (h 254 0) → sumC (fun k => if ¬ (h 4 (k * 5 + 4) = -1) then h 4 (k * 5 + 0) else 0) n = sumC (fun k => mHv h k 3) (cntB (hvB (h 254)) n) := by
  intro n
  induction n with
  | zero => exact fun _ => rfl
  | succ n ih =>
    intro hn
    have h24 := hi.1.1.2
    rw [sumC, ih (by omega), cntB, hR.lot (show n < 24 by omega) (show 4 < 5 by decide), hR.lot (show n < 24 by omega) (show 0 < 5 by decide)]
    rcases (hi.2.2.1 n (by omega)).2.2.2.2.1 with q | ⟨q1, q2, -⟩
    · have e : hvB (h 254) n = false := by unfold hvB; rw [decide_eq_true q]; rfl
      rw [e]
      unfold mL
      rw [if_neg (fun c => c q), Int32.add_zero]; rfl
    · have hcl := cntB_le (hvB (h 254)) n
      have q0 : ¬ h 254 (8 + 25 * n + 4) = -1 := by rw [q1]; exact nI_m1 (by omega)
      have e : hvB (h 254) n = true := by unfold hvB; rw [decide_eq_false q0]; rfl
      rw [e]
      unfold mL
      rw [if_pos q0, if_pos rfl, sumC, ← q2]; rfl
section JE
variable {l : Launch} {G : GC} {ad : Nat → Nat}
theorem jp_undo (hfl : l.stackTraces = false) : J_undo l G ad INV := by
  intro h hI
  obtain ⟨k, c, ⟨hk, hk8⟩, ⟨hc, hc8⟩, t3, hh⟩ := hI.2.2.1
  rcases (show c = 0 ∨ ∃ p, c = p + 1 from by rcases c with _ | p; exact Or.inl rfl; exact Or.inr ⟨p, rfl⟩) with rfl | ⟨p, rfl⟩
  · exact ⟨1, 0, h, _, sp_L_undo_x1 (sp_X7_undo_no hfl hc), sp_X8_undo_no t3, rfl, fun q => absurd q (by decide), hI.fa.fa⟩
  · have hm : (k + 7) % 8 < 8 := Nat.mod_lt _ (by decide)
    have o : ∀ q, 24 < q → q ≠ 49 → tkbH h 1 k p q = h q := fun q h1 h2 => by rw [tkbH, cpS_o _ _ _ (by omega), hput_ne _ _ _ h2, hput_ne _ _ _ h2]
    have o0 : tkbH h 1 k p 0 = h 0 := by rw [tkbH, cpS_o _ _ _ (by omega), hput_ne _ _ _ (by decide), hput_ne _ _ _ (by decide)]
    have p1 : tkbH h 1 k p 49 1 = nI ((k + 7) % 8) := by rw [tkbH, cpS_o _ _ _ (by omega), hput_k _ _ _ (by decide), hput_at]
    have p2 : tkbH h 1 k p 49 2 = nI p := by rw [tkbH, cpS_o _ _ _ (by omega), hput_at]
    obtain ⟨hn, hS, hH, hIn, hRe, h9⟩ := hI
    refine ⟨0, _, _, _, sp_L_undo_ok (sp_X7_undo_ok hfl hk hk8 hc (by omega)), sp_X8_undo_ok (p := p) (by rw [hput_ne _ _ _ (by decide), o 253 (by omega) (by omega)]; exact t3) (by omega), ?_, fun _ => ?_, ?_⟩
    · rw [undH, rcH_o _ _ _ _ _ (by decide), hput_k _ _ _ (by decide), faH, hput_at]
    · rw [undH, rcH_o _ _ _ _ _ (by decide), hput_ne _ _ _ (by decide), faH, hput_ne _ _ _ (by decide), hput_at, p2]
    · have e : ∀ q, q ≠ 253 → q ≠ 254 → q ≠ 263 → undH (hput (tkbH h 1 k p) 263 0 (tkbH h 1 k p 49 2)) p q = tkbH h 1 k p q := fun q h1 h2 h3 => by
        rw [undH, rcH_o _ _ _ _ _ h2, hput_ne _ _ _ h1, faH, hput_ne _ _ _ h1, hput_ne _ _ _ h3]
      have em : ∀ j, j ≠ 2 → j ≠ 5 → undH (hput (tkbH h 1 k p) 263 0 (tkbH h 1 k p 49 2)) p 253 j = h 253 j := fun j h1 h2 => by
        rw [undH, rcH_o _ _ _ _ _ (by decide), hput_k _ _ _ h1, faH, hput_k _ _ _ h2, hput_ne _ _ _ (by decide), o 253 (by omega) (by omega)]
      have ro : ∀ j, j < 1032 → undH (hput (tkbH h 1 k p) 263 0 (tkbH h 1 k p 49 2)) p 254 j = h 255 (1032 * p + j) := fun j hj => by
        rw [undH, rcH_ne _ _ _ _ _ (by decide), if_pos (by omega), hput_ne _ _ _ (by decide), faH, hput_ne _ _ _ (by decide), hput_ne _ _ _ (by decide), o 255 (by omega) (by omega), Nat.sub_zero]
      have e0 : undH (hput (tkbH h 1 k p) 263 0 (tkbH h 1 k p 49 2)) p 0 = h 0 := (e 0 (by decide) (by decide) (by decide)).trans o0
      have e2 : ∀ q, 24 < q → q ≠ 49 → q ≠ 253 → q ≠ 254 → q ≠ 263 → undH (hput (tkbH h 1 k p) 263 0 (tkbH h 1 k p 49 2)) p q = h q := fun q h1 h2 h3 h4 h5 => (e q h3 h4 h5).trans (o q h1 h2)
      obtain ⟨r1, r2⟩ := hh p (by omega)
      rw [show (k + 8 - (p + 1) + p) % 8 = (k + 7) % 8 by omega] at r1
      refine ⟨⟨?_, r2.congr ro⟩, InvS_c hS (fun q h1 h2 => e2 q (by omega) (by omega) (by omega) (by omega) (by omega)) (by rw [e0]) (em 4 (by decide) (by decide)) (e2 256 (by omega) (by omega) (by omega) (by omega) (by omega)),
        ⟨(k + 7) % 8, p, ⟨by rw [e 49 (by decide) (by decide) (by decide)]; exact p1, hm⟩, ⟨by rw [e 49 (by decide) (by decide) (by decide)]; exact p2, by omega⟩, ?_, fun i hi => ?_⟩,
        InvI_c hIn (by rw [e2 243 (by omega) (by omega) (by omega) (by omega) (by omega)]) (em 9 (by decide) (by decide)) (e2 244 (by omega) (by omega) (by omega) (by omega) (by omega)) (e2 257 (by omega) (by omega) (by omega) (by omega) (by omega)),
        InvR_c hRe (by rw [e0]) (em 6 (by decide) (by decide)), by rw [e0, em 7 (by decide) (by decide)]; exact h9⟩
      · have r3 : Rep (hput (hput h 49 1 (nI ((k + 7) % 8))) 49 2 (nI p)) (51 + 24 * ((k + 7) % 8)) (fun j => h 255 (1032 * p + j)) := r1.congr (fun a h1 h2 => by rw [hput_ne _ _ _ (by omega), hput_ne _ _ _ (by omega)]) (fun _ _ => rfl)
        exact (r3.cp (p := 1) (by omega)).congr (fun a h1 h2 => e _ (by omega) (by omega) (by omega)) ro
      · rw [undH, rcH_o _ _ _ _ _ (by decide), hput_at]
      · obtain ⟨r1, r2⟩ := hh i (by omega)
        rw [e2 255 (by omega) (by omega) (by omega) (by omega) (by omega), show ((k + 7) % 8 + 8 - p + i) % 8 = (k + 8 - (p + 1) + i) % 8 by omega]
        have hm2 : (k + 8 - (p + 1) + i) % 8 < 8 := Nat.mod_lt _ (by decide)
        exact ⟨r1.congr (fun a h1 h2 => e2 _ (by omega) (by omega) (by omega) (by omega) (by omega)) (fun _ _ => rfl), r2⟩
theorem jp_save (hfl : l.stackTraces = false) : J_save l G ad INV := by
  intro h hI
  have hR := hI.1.1
  obtain ⟨hn, hS, hH, hIn, hRe, h9⟩ := hI
  have o : ∀ q, q ≠ 0 → (q < 25 ∨ 48 < q) → hput (cpS h 25 1) 0 7 1 q = h q := fun q h1 h2 => by rw [hput_ne _ _ _ h1, cpS_o _ _ _ (by omega)]
  have ev : cpS h 25 1 2 5 = (hput (cpS h 25 1) 0 7 1) 254 0 := by rw [o 254 (by decide) (by omega), cpS_o _ _ _ (by omega)]; exact hR.c0
  refine ⟨cpS h 25 1 2 5, _, savH (hput (cpS h 25 1) 0 7 1), sp_X7_save_ok hfl, by rw [ev]; exact sp_X8_save, ?_⟩
  have e : ∀ q, q ≠ 253 → q ≠ 256 → savH (hput (cpS h 25 1) 0 7 1) q = hput (cpS h 25 1) 0 7 1 q := fun q h1 h2 => by
    rw [savH, rcH_o _ _ _ _ _ h2, hput_ne _ _ _ h1, faH, hput_ne _ _ _ h1]
  have e2 : ∀ q, q ≠ 0 → (q < 25 ∨ 48 < q) → q ≠ 253 → q ≠ 256 → savH (hput (cpS h 25 1) 0 7 1) q = h q := fun q h1 h2 h3 h4 => (e q h3 h4).trans (o q h1 h2)
  have e0 : ∀ j, j ≠ 7 → savH (hput (cpS h 25 1) 0 7 1) 0 j = h 0 j := fun j hj => by rw [e 0 (by decide) (by decide), hput_k _ _ _ hj, cpS_o _ _ _ (by omega)]
  have em : ∀ j, j ≠ 4 → j ≠ 5 → savH (hput (cpS h 25 1) 0 7 1) 253 j = h 253 j := fun j h1 h2 => by
    rw [savH, rcH_o _ _ _ _ _ (by decide), hput_k _ _ _ h1, faH, hput_k _ _ _ h2, o 253 (by decide) (by omega)]
  have ro : ∀ j, j < 1032 → savH (hput (cpS h 25 1) 0 7 1) 256 j = h 254 j := fun j hj => by
    rw [savH, rcH_ne _ _ _ _ _ (by decide), if_pos (by omega), hput_ne _ _ _ (by decide), faH, hput_ne _ _ _ (by decide), o 254 (by decide) (by omega), Nat.zero_add, Nat.sub_zero]
  refine ⟨now_c hn (fun q h1 h2 => e2 q (by omega) (by omega) (by omega) (by omega)) (e2 254 (by omega) (by omega) (by omega) (by omega)), Or.inr ⟨?_, ?_, ?_, hn.2.congr ro⟩,
    InvH_c hH (fun q h1 h2 => e2 q (by omega) (by omega) (by omega) (by omega)) (em 2 (by decide) (by decide)) (e2 255 (by omega) (by omega) (by omega) (by omega)),
    InvI_c hIn (by rw [e2 243 (by omega) (by omega) (by omega) (by omega)]) (em 9 (by decide) (by decide)) (e2 244 (by omega) (by omega) (by omega) (by omega)) (e2 257 (by omega) (by omega) (by omega) (by omega)),
    InvR_c hRe (e0 8 (by decide)) (em 6 (by decide) (by decide)), by rw [e0 9 (by decide), em 7 (by decide) (by decide)]; exact h9⟩
  · rw [e 0 (by decide) (by decide), hput_at]
  · rw [savH, rcH_o _ _ _ _ _ (by decide), hput_at]
  · exact (hR.cp (p := 25) (by omega)).congr (fun a h1 h2 => by rw [e _ (by omega) (by omega), hput_ne _ _ _ (by omega)]) ro
theorem jp_restore (hfl : l.stackTraces = false) : J_restore l G ad INV := by
  intro h hI
  rcases hI.2.1 with ⟨a1, a2⟩ | ⟨a1, a2, a3, a4⟩
  · exact ⟨1, 0, h, _, sp_L_restore_x1 (sp_X7_restore_no hfl a1), sp_X8_restore_no a2, rfl, fun q => absurd q (by decide), hI.fa.fa⟩
  · obtain ⟨hn, hS, ⟨k, c, ⟨hk, hk8⟩, ⟨hc, hc8⟩, t3, hh⟩, hIn, hRe, h9⟩ := hI
    have o : ∀ q, q ≠ 49 → (q < 1 ∨ 24 < q) → hput (cpS h 1 25) 49 2 0 q = h q := fun q h1 h2 => by rw [hput_ne _ _ _ h1, cpS_o _ _ _ (by omega)]
    have cp := a3.cp (p := 1) (by omega)
    refine ⟨0, _, _, _, sp_L_restore_ok (sp_X7_restore_ok hfl (by rw [a1]; decide)), sp_X8_restore_ok (by rw [hput_ne _ _ _ (by decide), o 253 (by decide) (by omega), a2]; decide), ?_, fun _ => ?_, ?_⟩
    · rw [resH, hput_k _ _ _ (by decide), rcH_o _ _ _ _ _ (by decide), faH, hput_at]
    · rw [resH, hput_ne _ _ _ (by decide), rcH_o _ _ _ _ _ (by decide), faH, hput_ne _ _ _ (by decide), hput_at, hput_ne _ _ _ (by decide), o 256 (by decide) (by omega)]
      exact cp.1.1
    · have e : ∀ z, ∀ q, q ≠ 253 → q ≠ 254 → q ≠ 263 → resH (hput (hput (cpS h 1 25) 49 2 0) 263 0 z) q = hput (cpS h 1 25) 49 2 0 q := fun z q h1 h2 h3 => by
        rw [resH, hput_ne _ _ _ h1, rcH_o _ _ _ _ _ h2, faH, hput_ne _ _ _ h1, hput_ne _ _ _ h3]
      have e2 : ∀ z, ∀ q, q ≠ 49 → (q < 1 ∨ 24 < q) → q ≠ 253 → q ≠ 254 → q ≠ 263 → resH (hput (hput (cpS h 1 25) 49 2 0) 263 0 z) q = h q := fun z q h1 h2 h3 h4 h5 => (e z q h3 h4 h5).trans (o q h1 h2)
      have em : ∀ z, ∀ j, j ≠ 2 → j ≠ 5 → resH (hput (hput (cpS h 1 25) 49 2 0) 263 0 z) 253 j = h 253 j := fun z j h1 h2 => by
        rw [resH, hput_k _ _ _ h1, rcH_o _ _ _ _ _ (by decide), faH, hput_k _ _ _ h2, hput_ne _ _ _ (by decide), o 253 (by decide) (by omega)]
      have ro : ∀ z, ∀ j, j < 1032 → resH (hput (hput (cpS h 1 25) 49 2 0) 263 0 z) 254 j = h 256 j := fun z j hj => by
        rw [resH, hput_ne _ _ _ (by decide), rcH_ne _ _ _ _ _ (by decide), if_pos (by omega), faH, hput_ne _ _ _ (by decide), hput_ne _ _ _ (by decide), o 256 (by decide) (by omega), Nat.zero_add, Nat.sub_zero]
      refine ⟨⟨cp.congr (fun a h1 h2 => by rw [e _ _ (by omega) (by omega) (by omega), hput_ne _ _ _ (by omega)]) (ro _), a4.congr (ro _)⟩,
        InvS_c hS (fun q h1 h2 => e2 _ q (by omega) (by omega) (by omega) (by omega) (by omega)) (by rw [e2 _ 0 (by omega) (by omega) (by omega) (by omega) (by omega)]) (em _ 4 (by decide) (by decide)) (e2 _ 256 (by omega) (by omega) (by omega) (by omega) (by omega)),
        ⟨k, 0, ⟨?_, hk8⟩, ⟨?_, by omega⟩, ?_, fun i hi => absurd hi (by omega)⟩,
        InvI_c hIn (by rw [e2 _ 243 (by omega) (by omega) (by omega) (by omega) (by omega)]) (em _ 9 (by decide) (by decide)) (e2 _ 244 (by omega) (by omega) (by omega) (by omega) (by omega)) (e2 _ 257 (by omega) (by omega) (by omega) (by omega) (by omega)),
        InvR_c hRe (by rw [e2 _ 0 (by omega) (by omega) (by omega) (by omega) (by omega)]) (em _ 6 (by decide) (by decide)), by rw [e2 _ 0 (by omega) (by omega) (by omega) (by omega) (by omega), em _ 7 (by decide) (by decide)]; exact h9⟩
      · rw [e _ 49 (by decide) (by decide) (by decide), hput_k _ _ _ (by decide), cpS_o _ _ _ (by omega)]; exact hk
      · rw [e _ 49 (by decide) (by decide) (by decide), hput_at]; rfl
      · rw [resH, hput_at]; rfl
theorem jp_feed (hfl : l.stackTraces = false) : J_feed l G ad INV := by
  intro h x0 ⟨y, hy⟩ hI
  obtain ⟨len, h40, i1, i2, i3⟩ := hI.2.2.2.1
  rcases Nat.lt_or_ge len 40 with q | q
  · obtain ⟨hn, hS, hH, hIn, hRe, h9⟩ := hI
    have ex : vp_nar .char x0 = nI (y.toBitVec.toNat % 65536) := by rw [hy, pk_vc, pk_char]
    have hlt : y.toBitVec.toNat % 65536 < 65536 := Nat.mod_lt _ (by decide)
    have o : ∀ q, q ≠ 243 → q ≠ 244 → hput (hput h 244 len (vp_nar .char x0)) 243 2 (nI (len + 1)) q = h q := fun q h1 h2 => by rw [hput_ne _ _ _ h1, hput_ne _ _ _ h2]
    refine ⟨0, _, _, _, sp_L_feed_ok (sp_X7_feed_ok hfl i1 q), sp_X8_feed_ok (len := len) (by rw [hput_ne _ _ _ (by decide), o 253 (by decide) (by decide)]; exact i2) q, ?_, fun _ => ?_, ?_⟩
    · rw [hput_k _ _ _ (by decide), hput_ne _ _ _ (by decide), faH, hput_at]
    · rw [hput_ne _ _ _ (by decide), hput_ne _ _ _ (by decide), faH, hput_ne _ _ _ (by decide), hput_at]
    · have e : ∀ z, ∀ q, q ≠ 243 → q ≠ 244 → q ≠ 253 → q ≠ 257 → q ≠ 263 → hput (hput (faH (hput (hput (hput h 244 len (vp_nar .char x0)) 243 2 (nI (len + 1))) 263 0 z) 0) 257 len (vp_nar .char x0)) 253 9 (nI (len + 1)) q = h q := fun z q h1 h2 h3 h4 h5 => by
        rw [hput_ne _ _ _ h3, hput_ne _ _ _ h4, faH, hput_ne _ _ _ h3, hput_ne _ _ _ h5, o q h1 h2]
      have em : ∀ z, ∀ j, j ≠ 5 → j ≠ 9 → hput (hput (faH (hput (hput (hput h 244 len (vp_nar .char x0)) 243 2 (nI (len + 1))) 263 0 z) 0) 257 len (vp_nar .char x0)) 253 9 (nI (len + 1)) 253 j = h 253 j := fun z j h1 h2 => by
        rw [hput_k _ _ _ h2, hput_ne _ _ _ (by decide), faH, hput_k _ _ _ h1, hput_ne _ _ _ (by decide), o 253 (by decide) (by decide)]
      refine ⟨now_c hn (fun q h1 h2 => e _ q (by omega) (by omega) (by omega) (by omega) (by omega)) (e _ 254 (by omega) (by omega) (by omega) (by omega) (by omega)),
        InvS_c hS (fun q h1 h2 => e _ q (by omega) (by omega) (by omega) (by omega) (by omega)) (by rw [e _ 0 (by omega) (by omega) (by omega) (by omega) (by omega)]) (em _ 4 (by decide) (by decide)) (e _ 256 (by omega) (by omega) (by omega) (by omega) (by omega)),
        InvH_c hH (fun q h1 h2 => e _ q (by omega) (by omega) (by omega) (by omega) (by omega)) (em _ 2 (by decide) (by decide)) (e _ 255 (by omega) (by omega) (by omega) (by omega) (by omega)),
        ⟨len + 1, q, ?_, ?_, fun i hi => ?_⟩, InvR_c hRe (by rw [e _ 0 (by omega) (by omega) (by omega) (by omega) (by omega)]) (em _ 6 (by decide) (by decide)), by rw [e _ 0 (by omega) (by omega) (by omega) (by omega) (by omega), em _ 7 (by decide) (by decide)]; exact h9⟩
      · rw [hput_ne _ _ _ (by decide), hput_ne _ _ _ (by decide), faH, hput_ne _ _ _ (by decide), hput_ne _ _ _ (by decide), hput_at]
      · rw [hput_at]
      · rw [hput_ne _ _ _ (by decide : (244 : Nat) ≠ 253), hput_ne _ _ _ (by decide : (244 : Nat) ≠ 257), faH, hput_ne _ _ _ (by decide : (244 : Nat) ≠ 253), hput_ne _ _ _ (by decide : (244 : Nat) ≠ 263), hput_ne _ _ _ (by decide : (244 : Nat) ≠ 243),
          hput_ne _ _ _ (by decide : (257 : Nat) ≠ 253)]
        by_cases r : i = len
        · subst r
          rw [hput_at, hput_at, ex]
          exact ⟨rfl, bd_nI (by omega) (by decide)⟩
        · rw [hput_k _ _ _ r, hput_k _ _ _ r, hput_ne _ _ _ (by decide : (257 : Nat) ≠ 253), hput_ne _ _ _ (by decide : (257 : Nat) ≠ 263), hput_ne _ _ _ (by decide : (257 : Nat) ≠ 243), hput_ne _ _ _ (by decide : (257 : Nat) ≠ 244)]
          exact i3 i (by omega)
  · have : len = 40 := by omega
    subst this
    exact ⟨1, 0, h, _, sp_L_feed_x1 (sp_X7_feed_no hfl i1), sp_X8_feed_no i2, rfl, fun q => absurd q (by decide), hI.fa.fa⟩
theorem jp_account (hfl : l.stackTraces = false) : J_account l G ad INV := by
  intro h x0 hI
  have hR := hI.1.1
  have hi := hI.1.2
  have hw := hi.WF hR
  have h24 : nLF (h 254) ≤ 24 := hi.1.1.2
  have h16 : nBF (h 254) ≤ 16 := hi.1.2.2.1.2
  have hm : ∀ z, MW (hput h 263 0 z) _ _ _ _ _ _ _ := fun z => MW_o hi.MW (hput_ne h 0 z (by decide))
  cases e0 : wiB x0 0 11 with
  | false => exact ⟨1, 0, h, _, sp_L_account_x1 (sp_X7_account_no hfl e0), sp_X8_account_no e0, rfl, fun q => absurd q (by decide), hI.fa.fa⟩
  | true =>
    obtain ⟨j, hj, rfl⟩ := wi_in (N := 11) (by decide) e0
    obtain ⟨k, c, ⟨hk, hk8⟩, ⟨hc, hc8⟩, t3, hh⟩ := hI.2.2.1
    obtain ⟨len, h40, i1, i2, i3⟩ := hI.2.2.2.1
    rcases (show j = 0 ∨ j = 1 ∨ j = 2 ∨ j = 3 ∨ j = 4 ∨ j = 5 ∨ j = 6 ∨ j = 7 ∨ j = 8 ∨ j = 9 ∨ j = 10 ∨ j = 11 by omega) with rfl | rfl | rfl | rfl | rfl | rfl | rfl | rfl | rfl | rfl | rfl | rfl
    · exact ⟨0, _, _, _, sp_L_account_ok (sp_X7_account_k0 hfl hw), sp_X8_account_k0 (hm _), rfl, fun _ => (sum_hv hR hi _ (Nat.le_refl _)).trans (by rw [hi.2.2.2.2.1]; rfl), hI.o3.fa⟩
    · refine ⟨0, _, _, _, sp_L_account_ok (sp_X7_account_k1 hfl hw), sp_X8_account_k1 (hm _), rfl, fun _ => ?_, hI.o3.fa⟩
      refine (sumC_c (g := fun k => mL h k 1) (fun k hk => hR.lot hk (by decide))).trans ?_
      exact sumC_z h24 (fun k h1 h2 => hi.2.2.2.1 k 1 h1 h2 (by decide))
    · refine ⟨0, _, _, _, sp_L_account_ok (sp_X7_account_k2 hfl hw), sp_X8_account_k2 (hm _), rfl, fun _ => ?_, hI.o3.fa⟩
      show sumC _ 16 * 3 = 3 * sumC (fun k => mB h k 1) _
      rw [Int32.mul_comm, sumC_c (g := fun k => mB h k 1) (fun k hk => hR.bo hk (by decide))]
      exact congrArg (fun x => 3 * x) (sumC_z (f := fun k => mB h k 1) h16 (fun k h1 h2 => hi.2.2.2.2.2.2.1 k 1 h1 h2 (by decide)))
    · exact ⟨0, _, _, _, sp_L_account_ok (sp_X7_account_k3 hfl hw), sp_X8_account_k3 (hm _), rfl, fun _ => hR.c4, hI.o3.fa⟩
    · refine ⟨0, _, _, _, sp_L_account_ok (sp_X7_account_k4 hfl hw), sp_X8_account_k4 (hm _), rfl, fun _ => ?_, hI.o3.fa⟩
      exact sumC_c (fun b hb => by rw [if_pos (inS_all b (by omega))]; exact hR.bo (by omega) (by decide))
    · refine ⟨0, _, _, _, sp_L_account_ok (sp_X7_account_k5 hfl hw), sp_X8_account_k5 (hm _), rfl, fun _ => ?_, hI.o3.fa⟩
      refine (sumC_c (g := fun b => sumC (fun c => h 254 (776 + (16 * c + b))) 8) (fun b hb => sumC_c (fun c hc => (hR.hd hc hb).trans (by unfold mHd; rw [Nat.add_assoc])))).trans ?_
      exact sumC_dd (fun k => h 254 (776 + k)) 8
    · exact ⟨0, _, _, _, sp_L_account_ok (sp_X7_account_k6 hfl hw), sp_X8_account_k6 (hm _), rfl, fun _ => hR.c0, hI.o3.fa⟩
    · exact ⟨0, _, _, _, sp_L_account_ok (sp_X7_account_k7 hfl hw), sp_X8_account_k7 (hm _), rfl, fun _ => hR.c1, hI.o3.fa⟩
    · exact ⟨0, _, _, _, sp_L_account_ok (sp_X7_account_k8 hfl hw), sp_X8_account_k8 (hm _), rfl, fun _ => hR.c2, hI.o3.fa⟩
    · exact ⟨0, _, _, _, sp_L_account_ok (sp_X7_account_k9 hfl hw), sp_X8_account_k9 (hm _), rfl, fun _ => hR.c3, hI.o3.fa⟩
    · exact ⟨0, _, _, _, sp_L_account_ok (sp_X7_account_k10 hfl hw), sp_X8_account_k10 (hm _), rfl, fun _ => hc.trans t3.symm, hI.o3.fa⟩
    · exact ⟨0, _, _, _, sp_L_account_ok (sp_X7_account_k11 hfl hw), sp_X8_account_k11 (hm _), rfl, fun _ => i1.trans i2.symm, hI.o3.fa⟩
end JE
theorem h00_m (j : Nat) : h00 254 j = if j = 7 then 750 else if j = 6 then 850 else if j = 5 then 850 else 0 := by
  have z := boo_z 254 (by decide) j
  unfold h00 modH
  rw [hput_u, hput_u, hput_u, hput_ne _ _ _ (by decide : (254 : Nat) ≠ 253)]
  unfold upR
  rw [z]
theorem h00_c : ∀ q j, 1 ≤ q → q ≤ 24 → h00 q j = if q = 24 then (if j = 2 then 750 else if j = 1 then 850 else if j = 0 then 850 else 0) else 0 := fun q j h1 h2 => by
  unfold h00 modH booH hisH stH
  rw [hput_ne _ _ _ (by omega), hput_ne _ _ _ (by omega), hput_ne _ _ _ (by omega), hput_ne _ _ _ (by omega), hput_ne _ _ _ (by omega), hput_ne _ _ _ (by omega), hput_ne _ _ _ (by omega)]
  by_cases q24 : q = 24
  · subst q24
    simp [hput, hZ]
  · rw [if_neg q24]
    simp only [hput, hZ]
    repeat rw [if_neg (by omega)]
theorem INV_0 : INV h00 := by
  have e0 : ∀ i, 8 ≤ i → h00 254 i = 0 := fun i hi => by rw [h00_m, if_neg (by omega), if_neg (by omega), if_neg (by omega)]
  have e1 : ∀ i, i < 5 → h00 254 i = 0 := fun i hi => by rw [h00_m, if_neg (by omega), if_neg (by omega), if_neg (by omega)]
  have c0 : ∀ q j, 1 ≤ q → q < 24 → h00 q j = 0 := fun q j h1 h2 => by rw [h00_c q j h1 (by omega), if_neg (by omega)]
  have n0 : nv (h00 254 0) = 0 := by rw [e1 0 (by omega)]; rfl
  have n1 : nv (h00 254 1) = 0 := by rw [e1 1 (by omega)]; rfl
  have n2 : nv (h00 254 2) = 0 := by rw [e1 2 (by omega)]; rfl
  have n3 : nv (h00 254 3) = 0 := by rw [e1 3 (by omega)]; rfl
  have b0 : ∀ i B, i < 5 ∨ 8 ≤ i → bd (h00 254 i) B := fun i B hi => by
    rcases hi with q | q
    · rw [e1 i q]; exact bd_0 B
    · rw [e0 i q]; exact bd_0 B
  refine ⟨⟨⟨⟨?_, ?_, ?_, ?_, ?_⟩, fun k j hk hj => ?_, fun k j hk hj => ?_, fun k j hk hj => ?_, fun k j hk hj => ?_, fun k j hk hj => ?_, fun k j hk hj => ?_, fun c hc => ?_, fun c b hc hb => ?_, fun c b hc hb => ?_, fun j hj => ?_⟩,
    ⟨b0 _ _ (by omega), b0 _ _ (by omega), b0 _ _ (by omega), b0 _ _ (by omega)⟩, fun j hj => ?_, fun k hk => absurd hk (by rw [n0]; omega), fun k j _ _ _ => e0 _ (by omega), by rw [n0, n1]; rfl, fun b hb => absurd hb (by rw [n2]; omega), fun b j _ _ _ => e0 _ (by omega),
    fun c _ => b0 _ _ (by omega), fun c b _ _ => ⟨b0 _ _ (by omega), b0 _ _ (by omega)⟩, fun c b _ _ _ => ⟨e0 _ (by omega), e0 _ (by omega)⟩, fun c _ _ => e0 _ (by omega)⟩, Or.inl ⟨by decide, by decide⟩,
    ⟨0, 0, ⟨by decide, by decide⟩, ⟨by decide, by decide⟩, by decide, fun i hi => absurd hi (by omega)⟩, ⟨0, by decide, by decide, by decide, fun i hi => absurd hi (by omega)⟩, Or.inl ⟨by decide, by decide⟩, by decide⟩
  · rw [c0 _ _ (by omega) (by omega), e1 _ (by omega)]
  · rw [c0 _ _ (by omega) (by omega), e1 _ (by omega)]
  · rw [c0 _ _ (by omega) (by omega), e1 _ (by omega)]
  · rw [c0 _ _ (by omega) (by omega), e1 _ (by omega)]
  · rw [c0 _ _ (by omega) (by omega), e1 _ (by omega)]
  · rw [c0 _ _ (by omega) (by omega), e0 _ (by omega)]
  · rw [c0 _ _ (by omega) (by omega), e0 _ (by omega)]
  · rw [c0 _ _ (by omega) (by omega), e0 _ (by omega)]
  · rw [c0 _ _ (by omega) (by omega), e0 _ (by omega)]
  · rw [c0 _ _ (by omega) (by omega), e0 _ (by omega)]
  · rw [c0 _ _ (by omega) (by omega), e0 _ (by omega)]
  · rw [c0 _ _ (by omega) (by omega), e0 _ (by omega)]
  · rw [c0 _ _ (by omega) (by omega), e0 _ (by omega)]
  · rw [c0 _ _ (by omega) (by omega), e0 _ (by omega)]
  · rw [h00_c _ _ (by omega) (by omega), if_pos rfl, h00_m]
    rcases (show j = 0 ∨ j = 1 ∨ j = 2 by omega) with rfl | rfl | rfl <;> rfl
  · rw [h00_m]
    rcases (show j = 0 ∨ j = 1 ∨ j = 2 by omega) with rfl | rfl | rfl <;> exact ⟨by decide, by decide⟩
