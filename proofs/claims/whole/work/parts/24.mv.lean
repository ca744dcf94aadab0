/-! CONSTANTS, THE NUMBER OF BITS, THE MEAN VINTAGE -/
section PWK
variable {l : Launch} {G : GC} {cc : ByteArray} {own : String} {nL : Nat} {ret : Option FieldType} {hh : List (Nat × Nat × Nat × Nat)} {R : Room} {CX : gCtx} {E : gEnd}
variable {pc : Nat} {L : List (Option Value)} {rest : List Value} {S : List Sh} {ad : Nat → Nat} {h : HP} {cells slots : Nat}
theorem pw_ldcw {idx : Nat} {v : Int32} (hd : decode cc pc = .ok (.ldc_w idx, 3)) (hk : Cond.constant own idx v ∈ gUW)
    (k : PW l G cc own nL ret hh R CX E (pc + 3) L (.int v :: rest) S ad h cells slots) : PW l G cc own nL ret hh R CX E pc L rest S ad h cells slots := by
  intro p e s m args below meth c A H locs ls F hP hD hS hl
  obtain ⟨⟨hx, hb, hml, hown, hts⟩, hr, hlk, htab, hA, hE, hcx⟩ := id F
  exact lv_ldcw hx hb hown (hts _ hk) hd (k p e s m args below meth c A H locs ls F hP hD hS hl)
theorem pw_ldc2 {idx : Nat} {v : UInt64} (hd : decode cc pc = .ok (.ldc2_w idx, 3)) (hk : Cond.constantDouble own idx v ∈ gUW)
    (k : PW l G cc own nL ret hh R CX E (pc + 3) L (.double v :: rest) S ad h cells slots) : PW l G cc own nL ret hh R CX E pc L rest S ad h cells slots := by
  intro p e s m args below meth c A H locs ls F hP hD hS hl
  obtain ⟨⟨hx, hb, hml, hown, hts⟩, hr, hlk, htab, hA, hE, hcx⟩ := id F
  exact lv_ldc2d hx hb hown (hts _ hk) hd (k p e s m args below meth c A H locs ls F hP hD hS hl)
theorem pw_dretT {v : UInt64} {o : Option Value ⊕ String} {h1 : HP} {mc ms : Nat} (hd : decode cc pc = .ok (.dreturn, 1)) (hret : ret = some .double) (hc : (Nat.ble cells mc && Nat.ble slots ms) = true)
    (hv : o = .inl (some (.double v))) (hhh : h = h1) : PW l G cc own nL ret hh R CX (gME G S ad (gRX S ad o h1) (gXX o h1) mc ms) pc L [.double v] S ad h cells slots := by
  rw [Bool.and_eq_true] at hc
  exact pw_dreturn hd hret (Nat.le_of_ble_eq_true hc.1) (Nat.le_of_ble_eq_true hc.2) ⟨hv, rfl, rfl, hhh⟩
theorem pw_dretF {v v1 : UInt64} {h1 : HP} {mc ms : Nat} (hd : decode cc pc = .ok (.dreturn, 1)) (hret : ret = some .double) (hc : (Nat.ble cells mc && Nat.ble slots ms) = true)
    (hv : v = v1) (hhh : h = h1) : PW l G cc own nL ret hh R CX (gME G S ad (gR S ad (some (.double v1)) h1) gNo mc ms) pc L [.double v] S ad h cells slots := by
  rw [Bool.and_eq_true] at hc
  exact pw_dreturn hd hret (Nat.le_of_ble_eq_true hc.1) (Nat.le_of_ble_eq_true hc.2) ⟨by rw [hv], rfl, rfl, hhh⟩
end PWK
theorem n64_of {r : UInt64} (h : FP.Core.dIsNaN r = false) : vf_n64 r := by
  have h1 : ¬ 9218868437227405312 < r.toNat % 2 ^ 63 := fun q => by
    have := (FP.Core.isNaN_bits r).mpr q
    rw [h] at this; cases this
  show r &&& 0x7fffffffffffffff ≤ 0x7ff0000000000000
  rw [UInt64.le_iff_toNat_le, UInt64.toNat_and]
  rw [show (0x7fffffffffffffff : UInt64).toNat = 2 ^ 63 - 1 from rfl, Nat.and_two_pow_sub_one_eq_mod, show (0x7ff0000000000000 : UInt64).toNat = 9218868437227405312 from rfl]
  omega
/-- the number over a thousand -/
def mil (x : Int32) : UInt64 := FP.ddiv (FP.i2d x) 4652007308841189376
theorem mil_n64 (x : Int32) : vf_n64 (FP.ddiv (FP.i2d x) 4652007308841189376) := n64_of (FP.Core.ddiv_out (FP.Core.DFin.notNaN (FP.Core.i2d_fin x)) ((FP.Core.fin_bits _).mpr (by decide)) (fun q => absurd ((FP.Core.zero_bits2 _).mp q) (by decide)))
def us (x : Int32) (n : Int32) : Int32 := (x.toUInt32 >>> (n &&& 31).toUInt32).toInt32
theorem lk_X7_194 : Cond.constantDouble RX7 194 4652007308841189376 ∈ gUW := (gmem (tb_3 (List.mem_of_getElem? (i := 155) (by decide +kernel))) rfl)
theorem lk_X8_153 : Cond.constantDouble RX8 153 4652007308841189376 ∈ gUW := (gmem (tb_5 (List.mem_of_getElem? (i := 175) (by decide +kernel))) rfl)
theorem lk_J6_265 : Cond.constant RJ6 265 1431655765 ∈ gUW := (gmem (tb_3 (List.mem_of_getElem? (i := 87) (by decide +kernel))) rfl)
theorem lk_J6_266 : Cond.constant RJ6 266 858993459 ∈ gUW := (gmem (tb_3 (List.mem_of_getElem? (i := 88) (by decide +kernel))) rfl)
theorem lk_J6_267 : Cond.constant RJ6 267 252645135 ∈ gUW := (gmem (tb_3 (List.mem_of_getElem? (i := 89) (by decide +kernel))) rfl)
set_option maxRecDepth 100000 in
set_option maxHeartbeats 4000000 in
theorem sp_X7_meanVintage_no1 {l : Launch} {G : GC} {ad : Nat → Nat} (hfl : l.stackTraces = false) {h : HP} {n : Int32} (e1 : wiB n 0 (h 2 5 - 1) = false) : PT l G yX7_meanVintage (.code yX7_meanVintage cX7_meanVintage 2 ((Option.some FieldType.double))) { frames := 8, cells := 1, slots := 6, locals := 132 } [.ref (ad 0), .int (n)] SW ad (h) (.inr "java/lang/IndexOutOfBoundsException") (h) := by
  refine PT.mk (L0 := [some (.ref (ad 0)), some (.int (n))]) RX7 "meanVintage" 1 6 (by decide +kernel) rfl rfl ⟨rfl, rfl⟩ (by simp [Value.category]) (Nat.le_of_ble_eq_true rfl) rfl ?_
  refine pw_aload_n dX7_meanVintage_0 rfl ?_
  refine pw_iload_n dX7_meanVintage_1 rfl ?_
  refine pw_flV dX7_meanVintage_2 (sp_X7_requireLot_no hfl e1) mi_X7_requireLot mv_X7_requireLot ml_X7_122 sh_0 rfl rfl rfl rfl rfl rfl ?_
  exact px_outT rfl rfl rfl rfl

set_option maxRecDepth 100000 in
set_option maxHeartbeats 4000000 in
theorem sp_X7_meanVintage_ok {l : Launch} {G : GC} {ad : Nat → Nat} (hfl : l.stackTraces = false) {h : HP} {nL nH nB nC : Nat} {np : Nat → Nat} {pl : Nat → Nat → Nat} (hw : WF h nL nH nB nC np pl) {lot : Nat} (hlot : lot < nL)  : PT l G yX7_meanVintage (.code yX7_meanVintage cX7_meanVintage 2 ((Option.some FieldType.double))) { frames := 8, cells := 1, slots := 6, locals := 132 } [.ref (ad 0), .int (nI lot)] SW ad (h) (.inl (some (.double (mil (sumC (fun k => h 10 (lot * 12 + k) * h 12 (k * 3 + 0)) nH))))) (h) := by
  refine PT.mk (L0 := [some (.ref (ad 0)), some (.int (nI lot))]) RX7 "meanVintage" 1 6 (by decide +kernel) rfl rfl ⟨rfl, rfl⟩ (by simp [Value.category]) (Nat.le_of_ble_eq_true rfl) rfl ?_
  have hb1 := hw.1.2
  have hlot24 : lot < 24 := by omega
  refine pw_aload_n dX7_meanVintage_0 rfl ?_
  refine pw_iload_n dX7_meanVintage_1 rfl ?_
  refine pw_okV dX7_meanVintage_2 (sp_X7_requireLot_ok hfl (wi_ok hw.1.1 hlot (by have := hw.1.2; omega))) mi_X7_requireLot mv_X7_requireLot ml_X7_122 sh_0 rfl rfl rfl rfl rfl rfl ?_
  refine pw_aload_n dX7_meanVintage_5 rfl ?_
  refine pw_getr dX7_meanVintage_6 lf_X7_10 sh_0 rfl ?_
  refine pw_getr dX7_meanVintage_9 lf_X7_63 sh_1 rfl ?_
  refine pw_iload_n dX7_meanVintage_12 rfl ?_
  refine pw_cV dX7_meanVintage_13 (sp_X4_vintageSum hw hlot24) mi_X4_vintageSum mv_X4_vintageSum ml_X7_191 sh_2 rfl rfl rfl rfl ⟨rfl, rfl⟩ rfl rfl ?_
  refine pw_i2d dX7_meanVintage_16 ?_
  refine pw_ldc2 dX7_meanVintage_17 lk_X7_194 ?_
  refine pw_ddiv dX7_meanVintage_20 (mil_n64 _) ?_
  exact pw_dretT dX7_meanVintage_21 rfl rfl rfl rfl

