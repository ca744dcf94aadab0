/-! HOW MANY BITS -/
theorem an_n {a b : Nat} (ha : a < 2147483648) (hb : b < 2147483648) : nI a &&& nI b = nI (a &&& b) := by
  apply Int32.toBitVec_inj.mp
  apply BitVec.eq_of_toNat_eq
  have := Nat.and_le_left (n := a) (m := b)
  rw [Int32.toBitVec_and, BitVec.toNat_and, pk_tn (by omega), pk_tn (by omega), pk_tn (by omega)]
theorem or_nn {a b : Nat} (ha : a < 16777216) (hb : b < 16777216) : nI a ||| nI b = nI (a ||| b) := by
  apply Int32.toBitVec_inj.mp
  apply BitVec.eq_of_toNat_eq
  have : a ||| b < 2 ^ 24 := Nat.or_lt_two_pow ha hb
  rw [Int32.toBitVec_or, BitVec.toNat_or, pk_tn (by omega), pk_tn (by omega), pk_tn (by omega)]
def nA (m x : Nat) : Nat := x - (x / 2 &&& m)
def nB2 (m x : Nat) : Nat := (x &&& m) + (x / 4 &&& m)
def nC3 (m x : Nat) : Nat := (x + x / 16) &&& m
theorem land_split {a y m M : Nat} (ha : a < 256) (hm : m < 256) : (a + 256 * y) &&& (m + 256 * M) = (a &&& m) + 256 * (y &&& M) := by
  have h1 : ((a + 256 * y) &&& (m + 256 * M)) % 2 ^ 8 = a &&& m := by
    rw [Nat.and_mod_two_pow, show (a + 256 * y) % 2 ^ 8 = a by omega, show (m + 256 * M) % 2 ^ 8 = m by omega]
  have h2 : ((a + 256 * y) &&& (m + 256 * M)) / 2 ^ 8 = y &&& M := by
    rw [Nat.and_div_two_pow, show (a + 256 * y) / 2 ^ 8 = y by omega, show (m + 256 * M) / 2 ^ 8 = M by omega]
  have h3 := Nat.mod_add_div ((a + 256 * y) &&& (m + 256 * M)) (2 ^ 8)
  rw [h1, h2] at h3
  exact h3.symm
theorem by_A : ∀ a, a < 256 → ∀ e, e < 2 → (a / 2 + 128 * e) &&& 85 = a / 2 &&& 85 := by decide +kernel
theorem by_B : ∀ a, a < 256 → ∀ e, e < 4 → (a / 4 + 64 * e) &&& 51 = a / 4 &&& 51 := by decide +kernel
theorem nA_s {a y M : Nat} (ha : a < 256) : nA (85 + 256 * M) (a + 256 * y) = nA 85 a + 256 * nA M y := by
  unfold nA
  have e : (a + 256 * y) / 2 = (a / 2 + 128 * (y % 2)) + 256 * (y / 2) := by omega
  rw [e, land_split (by omega) (by decide), by_A a ha _ (by omega)]
  have h1 := Nat.and_le_left (n := a / 2) (m := 85)
  have h2 := Nat.and_le_left (n := y / 2) (m := M)
  omega
theorem nB_s {a y M : Nat} (ha : a < 256) : nB2 (51 + 256 * M) (a + 256 * y) = nB2 51 a + 256 * nB2 M y := by
  unfold nB2
  have e : (a + 256 * y) / 4 = (a / 4 + 64 * (y % 4)) + 256 * (y / 4) := by omega
  rw [e, land_split ha (by decide), land_split (by omega) (by decide), by_B a ha _ (by omega)]
  omega
theorem nC_s {a y M : Nat} (ha : a % 16 ≤ 4 ∧ a / 16 ≤ 4) (hy : y % 16 ≤ 4) : nC3 (15 + 256 * M) (a + 256 * y) = nC3 15 a + 256 * nC3 M y := by
  unfold nC3
  have e : (a + 256 * y) + (a + 256 * y) / 16 = (a + a / 16 + 16 * (y % 16)) + 256 * (y + y / 16) := by omega
  rw [e, land_split (by omega) (by decide)]
  have h1 : ∀ x, x &&& 15 = x % 16 := fun x => Nat.and_two_pow_sub_one_eq_mod x 4
  rw [h1, h1]
  omega
def pcB (a : Nat) : Nat := nC3 15 (nB2 51 (nA 85 a))
theorem pc_1 : ∀ a, a < 256 → nA 85 a < 256 ∧ (nB2 51 (nA 85 a)) % 16 ≤ 4 ∧ (nB2 51 (nA 85 a)) / 16 ≤ 4 ∧ pcB a ≤ 8 := by decide +kernel
theorem pc_2 : ∀ a, a < 256 → nA 21845 a = nA 85 a ∧ nB2 13107 a = nB2 51 a := by decide +kernel
theorem pc_3 : ∀ a, a < 100 → nC3 3855 a = nC3 15 a := by decide +kernel
theorem pc_8 : ∀ p0 p1 p2 p3 p4 p5 p6 p7 : Bool, pcB (p0.toNat + 2 * p1.toNat + 4 * p2.toNat + 8 * p3.toNat + 16 * p4.toNat + 32 * p5.toNat + 64 * p6.toNat + 128 * p7.toNat) = p0.toNat + p1.toNat + p2.toNat + p3.toNat + p4.toNat + p5.toNat + p6.toNat + p7.toNat := by decide +kernel
theorem fin63 {p q r : Nat} (hp : p ≤ 8) (hq : q ≤ 8) (hr : r ≤ 8) : (p + 256 * (q + 256 * r) + (p + 256 * (q + 256 * r)) / 2 ^ 8 + (p + 256 * (q + 256 * r) + (p + 256 * (q + 256 * r)) / 2 ^ 8) / 2 ^ 16) % 64 = p + q + r := by
  have d1 : (p + 256 * (q + 256 * r)) / 2 ^ 8 = q + 256 * r := by omega
  have d2 : (p + 256 * (q + 256 * r) + (q + 256 * r)) / 2 ^ 16 = r := by omega
  rw [d1, d2]
  omega
theorem bc_n {a b c : Nat} (ha : a < 256) (hb : b < 256) (hc : c < 256) : bcI (nI (a + 256 * (b + 256 * c))) = nI (pcB a + pcB b + pcB c) := by
  obtain ⟨a1, a2, a3, a4⟩ := pc_1 a ha
  obtain ⟨b1, b2, b3, b4⟩ := pc_1 b hb
  obtain ⟨c1, c2, c3, c4⟩ := pc_1 c hc
  have s1 : nA 1431655765 (a + 256 * (b + 256 * c)) = nA 85 a + 256 * (nA 85 b + 256 * nA 85 c) := by
    rw [show 1431655765 = 85 + 256 * (85 + 256 * 21845) from rfl, nA_s ha, nA_s hb, (pc_2 c hc).1]
  have s2 : nB2 858993459 (nA 85 a + 256 * (nA 85 b + 256 * nA 85 c)) = nB2 51 (nA 85 a) + 256 * (nB2 51 (nA 85 b) + 256 * nB2 51 (nA 85 c)) := by
    rw [show 858993459 = 51 + 256 * (51 + 256 * 13107) from rfl, nB_s a1, nB_s b1, (pc_2 _ c1).2]
  have s3 : nC3 252645135 (nB2 51 (nA 85 a) + 256 * (nB2 51 (nA 85 b) + 256 * nB2 51 (nA 85 c))) = pcB a + 256 * (pcB b + 256 * pcB c) := by
    rw [show 252645135 = 15 + 256 * (15 + 256 * 3855) from rfl, nC_s ⟨a2, a3⟩ (by omega), nC_s ⟨b2, b3⟩ c2, pc_3 _ (by omega)]
    rfl
  have hx1 : bc1 (nI (a + 256 * (b + 256 * c))) = nI (nA 85 a + 256 * (nA 85 b + 256 * nA 85 c)) := by
    rw [← s1]
    unfold bc1 usI
    rw [pk_ushrN (by omega) 1 1 (by decide), show (1431655765 : Int32) = nI 1431655765 from rfl, an_n (by omega) (by decide)]
    refine pk_sub ?_
    exact Nat.le_trans Nat.and_le_left (by omega)
  have hx2 : bc2 (nI (nA 85 a + 256 * (nA 85 b + 256 * nA 85 c))) = nI (nB2 51 (nA 85 a) + 256 * (nB2 51 (nA 85 b) + 256 * nB2 51 (nA 85 c))) := by
    rw [← s2]
    unfold bc2 usI
    rw [pk_ushrN (by omega) 2 2 (by decide), show (858993459 : Int32) = nI 858993459 from rfl, an_n (by omega) (by decide), an_n (by omega) (by decide), nI_add]
    rfl
  have hx3 : bc3 (nI (nB2 51 (nA 85 a) + 256 * (nB2 51 (nA 85 b) + 256 * nB2 51 (nA 85 c)))) = nI (pcB a + 256 * (pcB b + 256 * pcB c)) := by
    rw [← s3]
    unfold bc3 usI
    rw [pk_ushrN (by omega) 4 4 (by decide), show (252645135 : Int32) = nI 252645135 from rfl, nI_add, an_n (by omega) (by decide)]
    rfl
  unfold bcI
  rw [hx1, hx2, hx3]
  unfold bc5 bc4 usI
  rw [pk_ushrN (by omega) 8 8 (by decide), nI_add, pk_ushrN (by omega) 16 16 (by decide), nI_add, show (63 : Int32) = nI 63 from rfl, an_n (by omega) (by decide)]
  have h63 : ∀ x, x &&& 63 = x % 64 := fun x => Nat.and_two_pow_sub_one_eq_mod x 6
  rw [h63]
  exact congrArg nI (fin63 a4 b4 c4)
def vN (P : Nat → Bool) : Nat → Nat
  | 0 => 0
  | n + 1 => vN P n + 2 ^ n * (P n).toNat
theorem vN_lt (P : Nat → Bool) : ∀ n, vN P n < 2 ^ n
  | 0 => Nat.one_pos
  | n + 1 => by
      have := vN_lt P n
      rw [vN, Nat.pow_succ]
      cases P n with
      | false => show vN P n + 2 ^ n * 0 < _; omega
      | true => show vN P n + 2 ^ n * 1 < _; omega
theorem bit_n : ∀ n, n < 24 → bit1 n = nI (2 ^ n) := by decide +kernel
theorem orI_v (P : Nat → Bool) : ∀ n, n ≤ 24 → orI (fun b => ifOr (P b) (bit1 b)) n = nI (vN P n)
  | 0, _ => rfl
  | n + 1, hn => by
      have h1 := vN_lt P n
      have h2 : 2 ^ n ≤ 2 ^ 23 := Nat.pow_le_pow_right (by decide) (by omega)
      rw [orI, vN, orI_v P n (by omega)]
      unfold ifOr
      cases P n with
      | false =>
        rw [if_neg (by decide)]
        show nI (vN P n) ||| nI 0 = nI (vN P n + 2 ^ n * 0)
        rw [or_nn (by omega) (by decide), Nat.or_zero]; rfl
      | true =>
        rw [if_pos rfl, bit_n n (by omega), or_nn (by omega) (by omega)]
        have := Nat.two_pow_add_eq_or_of_lt h1 1
        show nI (vN P n ||| 2 ^ n) = nI (vN P n + 2 ^ n * 1)
        rw [Nat.or_comm, Nat.add_comm (vN P n), this, Nat.mul_one]
theorem orI_ext {g : Nat → Int32} {n m : Nat} (hnm : n ≤ m) (h : ∀ k, n ≤ k → k < m → g k = 0) : orI g m = orI g n := by
  have : ∀ d, n + d ≤ m → orI g (n + d) = orI g n := fun d => by
    induction d with
    | zero => exact fun _ => rfl
    | succ d ih => exact fun hd => by rw [← Nat.add_assoc, orI, ih (by omega), h (n + d) (by omega) (by omega), Int32.or_zero]
  have h2 := this (m - n) (by omega)
  rw [show n + (m - n) = m by omega] at h2
  exact h2
theorem cnt_toNat (P : Nat → Bool) (n : Nat) : cntB P (n + 1) = cntB P n + (P n).toNat := by
  rw [cntB]
  cases P n <;> rfl
theorem bc_orI (P : Nat → Bool) : bcI (orI (fun b => ifOr (P b) (bit1 b)) 24) = nI (cntB P 24) := by
  have e := orI_v P 24 (by decide)
  have hv : vN P 24 = ((P 0).toNat + 2 * (P 1).toNat + 4 * (P 2).toNat + 8 * (P 3).toNat + 16 * (P 4).toNat + 32 * (P 5).toNat + 64 * (P 6).toNat + 128 * (P 7).toNat) + 256 * (((P 8).toNat + 2 * (P 9).toNat + 4 * (P 10).toNat + 8 * (P 11).toNat + 16 * (P 12).toNat + 32 * (P 13).toNat + 64 * (P 14).toNat + 128 * (P 15).toNat) + 256 * ((P 16).toNat + 2 * (P 17).toNat + 4 * (P 18).toNat + 8 * (P 19).toNat + 16 * (P 20).toNat + 32 * (P 21).toNat + 64 * (P 22).toNat + 128 * (P 23).toNat)) := by
    simp only [vN]
    omega
  have hb : ∀ i, (P i).toNat ≤ 1 := fun i => by cases P i <;> decide
  have b0 := hb 0
  have b1 := hb 1
  have b2 := hb 2
  have b3 := hb 3
  have b4 := hb 4
  have b5 := hb 5
  have b6 := hb 6
  have b7 := hb 7
  have b8 := hb 8
  have b9 := hb 9
  have b10 := hb 10
  have b11 := hb 11
  have b12 := hb 12
  have b13 := hb 13
  have b14 := hb 14
  have b15 := hb 15
  have b16 := hb 16
  have b17 := hb 17
  have b18 := hb 18
  have b19 := hb 19
  have b20 := hb 20
  have b21 := hb 21
  have b22 := hb 22
  have b23 := hb 23
  rw [e, hv, bc_n (by omega) (by omega) (by omega), pc_8, pc_8, pc_8]
  congr 1
  simp only [cnt_toNat, show cntB P 0 = 0 from rfl]
  omega
theorem bc_eq {h : HP} (hi : Inv (h 254)) (h24 : nLF (h 254) ≤ 24) {g : HP} {lot : Nat} (hlot : lot < 24) (hg : g 254 = h 254 := by (first | rfl | simp [hput])) :
    bcI (blI (npF (h 254)) (plF (h 254)) (nLF (h 254)) lot) = nI (cntB (fun b => ipB g (nI lot) b (npF (h 254) b)) (nLF (h 254))) := by
  have hbl : ∀ b, b < nLF (h 254) → blP (npF (h 254)) (plF (h 254)) lot b = ipB g (nI lot) b (npF (h 254) b) := fun b hb => by
    refine b_eq ?_
    have hp := hi.PaOk b hb
    unfold ipB
    rw [anyB_iff]
    have hmL : ∀ k, k < npF (h 254) b → mL g b (5 + k) = nI (plF (h 254) b k) := fun k hk => by
      unfold mL
      rw [hg]
      exact (hi.pl (by omega) (by omega)).1
    unfold blP
    rw [Bool.and_eq_true, inS_ps hi.PaOk h24 hb hlot, decide_eq_true_iff]
    constructor
    · rintro ⟨_, k, h2, h3⟩
      exact ⟨k, h2, decide_eq_true (by rw [hmL k h2, h3])⟩
    · rintro ⟨k, h2, h3⟩
      have h4 := of_decide_eq_true h3
      have h5 := (hp.2.2 k h2).1
      rw [hmL k h2] at h4
      have h6 := (nI_eq (by omega) (by omega)).mp h4
      exact ⟨by omega, k, h2, h6⟩
  have e1 : blI (npF (h 254)) (plF (h 254)) (nLF (h 254)) lot = orI (fun b => ifOr ((fun b => decide (b < nLF (h 254)) && ipB g (nI lot) b (npF (h 254) b)) b) (bit1 b)) 24 := by
    unfold blI
    refine (orI_c (fun b hb => ?_)).trans (orI_ext h24 (fun b h1 h2 => ?_)).symm
    · show ifOr _ _ = ifOr _ _
      rw [hbl b hb]
      dsimp only
      rw [decide_eq_true hb, Bool.true_and]
    · show ifOr _ _ = 0
      dsimp only
      rw [decide_eq_false (show ¬ b < nLF (h 254) by omega)]; rfl
  rw [e1, bc_orI]
  congr 1
  refine (cntB_ext h24 (fun b h1 h2 => ?_)).trans (cntB_c (fun b hb => ?_))
  · rw [decide_eq_false (show ¬ b < nLF (h 254) by omega)]; rfl
  · rw [decide_eq_true hb, Bool.true_and]
section JK
variable {l : Launch} {G : GC} {ad : Nat → Nat}
theorem jp_lot (hfl : l.stackTraces = false) : J_lot l G ad INV := by
  intro h x0 x1 hI
  have hR := hI.1.1
  have hi := hI.1.2
  have hw := hi.WF hR
  have h24 : nLF (h 254) ≤ 24 := hi.1.1.2
  have hm : ∀ z, MW (hput h 263 0 z) _ _ _ _ _ _ _ := fun z => MW_o hi.MW (hput_ne h 0 z (by decide))
  cases e0 : wiB x0 0 (h 2 5 - 1) with
  | false => exact ⟨1, 0, h, _, sp_L_lot_x1 (sp_X7_lot_no1 hfl e0), sp_X8_lot_no1 (by rw [← hR.c0]; exact e0), rfl, fun q => absurd q (by decide), hI.fa.fa⟩
  | true =>
    obtain ⟨lot, hlot, rfl⟩ := wi_of hw.1.1 (by have := hw.1.2; omega) e0
    cases e1 : wiB x1 0 6 with
    | false =>
      have hno : ∀ n, n ≤ 6 → x1 ≠ nI n := fun n hn q => by
        have := wi_no (N := 6) (by decide) (n := n) (by omega) e1 q; omega
      exact ⟨2, 0, h, _, sp_L_lot_x2 (sp_X7_lot_no2 hfl hw hlot e1), sp_X8_lot_no2 hi.MW hlot (wi_nin (N := 4) (by decide) (fun n hn => hno n (by omega))) (hno 5 (by decide)) (hno 6 (by decide)), rfl, fun q => absurd q (by decide), hI.fa.fa⟩
    | true =>
      obtain ⟨j, hj, rfl⟩ := wi_in (N := 6) (by decide) e1
      rcases Nat.lt_or_ge j 5 with q | q
      · exact ⟨0, _, _, _, sp_L_lot_ok (sp_X7_lot_k hfl hw hlot q), sp_X8_lot_k (hm _) hlot q, rfl, fun _ => hR.lot (by omega) q, hI.o3.fa⟩
      · rcases (show j = 5 ∨ j = 6 by omega) with rfl | rfl
        · refine ⟨0, _, _, _, sp_L_lot_ok (sp_X7_lot_k5 hfl hw hlot), sp_X8_lot_k5 (hm _) hlot, rfl, fun _ => ?_, hI.o3.fa⟩
          have h12 := hw.2.1.2
          exact congrArg nI (cntB_c (fun k hk => congrArg (fun x => decide (0 < x)) (hR.sh (by omega) (by omega))))
        · refine ⟨0, _, _, _, sp_L_lot_ok (sp_X7_lot_k6 hfl hw hlot), sp_X8_lot_k6 (hm _) hlot, rfl, fun _ => ?_, hI.o3.fa⟩
          exact bc_eq hi h24 (by omega)
end JK
