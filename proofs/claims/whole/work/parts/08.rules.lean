/-! more rows: copies of rows of numbers, ends of methods with one answer -/
section PWP
variable {l : Launch} {G : GC} {cc : ByteArray} {own : String} {nL : Nat} {ret : Option FieldType} {hh : List (Nat × Nat × Nat × Nat)} {R : Room} {CX : gCtx} {E : gEnd}
variable {pc : Nat} {L : List (Option Value)} {rest : List Value} {S : List Sh} {ad : Nat → Nat} {h : HP} {cells slots : Nat}
def hcpy (h : HP) (a b sp dp n : Nat) : HP := fun q => if q = b then va_cpy (h a) (h b) sp dp n else h q
theorem pw_copy {idx a b n0 n1 : Nat} {sp dp n : Int32} (hd : decode cc pc = .ok (.invokestatic idx, 3)) (hk : Cond.methodLink own idx arraycopyName ∈ gUW) (hw : Cond.native arraycopyName ∈ gUW ∧ Cond.static arraycopyName ∈ gUW ∧ Cond.initialized "java/lang/System" ∈ gUW)
    (hSa : S[a]? = some (.inl (0, n0))) (hSb : S[b]? = some (.inl (0, n1))) (h1 : ¬ sp < 0) (h2 : ¬ dp < 0) (h3 : ¬ n < 0) (h4 : sp.toNatClampNeg + n.toNatClampNeg ≤ n0) (h5 : dp.toNatClampNeg + n.toNatClampNeg ≤ n1)
    (hR : 1 ≤ R.frames ∧ (rest.map fun v => v.category).sum + (nativeFrameWords "java/lang/System" "arraycopy" 5 + 11) ≤ R.locals)
    (kk : PW l G cc own nL ret hh R CX E (pc + 3) L rest S ad (hcpy h a b sp.toNatClampNeg dp.toNatClampNeg n.toNatClampNeg) cells slots) :
    PW l G cc own nL ret hh R CX E pc L (.int n :: .int dp :: .ref (ad b) :: .int sp :: .ref (ad a) :: rest) S ad h cells slots := by
  intro p e s m args below meth c A H locs ls F hP hD hS' hl'
  obtain ⟨⟨hx, hb, hml, hown, hts⟩, hr, hlk, htab, hA, hE, hcx⟩ := id F
  refine va_copyi (ty := .int) hx hb (by rw [hml, hl'.1]) hown (hts _ hk) (hts _ hw.1) (hts _ hw.2.1) (hts _ hw.2.2) hE.1 hP hD hS' a b 0 0 (gW_at hSa) (gW_at hSb) rfl rfl rfl h1 h2 h3 h4 h5 (fun _ _ => rfl) hR.1 hR.2 hd (fun H1 locs1 g1 g2 g3 => ?_)
  have e9 : (gW ad G.2.1 S h).set b (ad b, .inl (G.2.1 0, n1, .inl (va_cpy (h a) (h b) sp.toNatClampNeg dp.toNatClampNeg n.toNatClampNeg))) = gW ad G.2.1 S (hcpy h a b sp.toNatClampNeg dp.toNatClampNeg n.toNatClampNeg) := by
    have e8 : hcpy h a b sp.toNatClampNeg dp.toNatClampNeg n.toNatClampNeg b = va_cpy (h a) (h b) sp.toNatClampNeg dp.toNatClampNeg n.toNatClampNeg := by simp [hcpy]
    rw [← gW_set (h := h) (h' := hcpy h a b sp.toNatClampNeg dp.toNatClampNeg n.toNatClampNeg) hSb (fun q hq => by simp [hcpy, hq]), e8]
    rfl
  rw [e9] at g1 g2
  exact kk p e s m args below meth c A H1 locs1 ls F g1 g2 g3 hl'
theorem pw_iretF {v v1 : Int32} {h1 : HP} {ty : FieldType} {mc ms : Nat} (hd : decode cc pc = .ok (.ireturn, 1)) (hret : ret = some ty) (hn : narrow ty (.int v) = .int v) (hc : (Nat.ble cells mc && Nat.ble slots ms) = true)
    (hv : v = v1) (hhh : h = h1) : PW l G cc own nL ret hh R CX (gME G S ad (gR S ad (some (.int v1)) h1) gNo mc ms) pc L [.int v] S ad h cells slots := by
  rw [Bool.and_eq_true] at hc
  exact pw_ireturn hd hret hn (Nat.le_of_ble_eq_true hc.1) (Nat.le_of_ble_eq_true hc.2) ⟨by rw [hv], rfl, rfl, hhh⟩
theorem pw_retF {h1 : HP} {mc ms : Nat} (hd : decode cc pc = .ok (.return_, 1)) (hret : ret = none) (hc : (Nat.ble cells mc && Nat.ble slots ms) = true) (hhh : h = h1) : PW l G cc own nL ret hh R CX (gME G S ad (gR S ad none h1) gNo mc ms) pc L [] S ad h cells slots := by
  rw [Bool.and_eq_true] at hc
  exact pw_return hd hret (Nat.le_of_ble_eq_true hc.1) (Nat.le_of_ble_eq_true hc.2) ⟨rfl, rfl, rfl, hhh⟩
theorem pw_iretT {v : Int32} {o : Option Value ⊕ String} {h1 : HP} {ty : FieldType} {mc ms : Nat} (hd : decode cc pc = .ok (.ireturn, 1)) (hret : ret = some ty) (hn : narrow ty (.int v) = .int v) (hc : (Nat.ble cells mc && Nat.ble slots ms) = true)
    (hv : o = .inl (some (.int v))) (hhh : h = h1) : PW l G cc own nL ret hh R CX (gME G S ad (gRX S ad o h1) (gXX o h1) mc ms) pc L [.int v] S ad h cells slots := by
  rw [Bool.and_eq_true] at hc
  exact pw_ireturn hd hret hn (Nat.le_of_ble_eq_true hc.1) (Nat.le_of_ble_eq_true hc.2) ⟨hv, rfl, rfl, hhh⟩
theorem pw_retT {o : Option Value ⊕ String} {h1 : HP} {mc ms : Nat} (hd : decode cc pc = .ok (.return_, 1)) (hret : ret = none) (hc : (Nat.ble cells mc && Nat.ble slots ms) = true) (hv : o = .inl none) (hhh : h = h1) : PW l G cc own nL ret hh R CX (gME G S ad (gRX S ad o h1) (gXX o h1) mc ms) pc L [] S ad h cells slots := by
  rw [Bool.and_eq_true] at hc
  exact pw_return hd hret (Nat.le_of_ble_eq_true hc.1) (Nat.le_of_ble_eq_true hc.2) ⟨hv, rfl, rfl, hhh⟩
theorem px_outT {Ex : String} {st : List Value} {o : Option Value ⊕ String} {h1 : HP} {mc ms : Nat} (hhe : hh = []) (hc : (Nat.ble cells mc && Nat.ble slots ms) = true) (hv : o = .inr Ex) (hhh : h = h1) : PX l G cc own nL ret hh R CX (gME G S ad (gRX S ad o h1) (gXX o h1) mc ms) pc L st S ad h cells slots Ex := by
  rw [Bool.and_eq_true] at hc
  exact px_out hhe ⟨hv, hhh⟩ (Nat.le_of_ble_eq_true hc.1) (Nat.le_of_ble_eq_true hc.2)
theorem pw_tabOut {dflt lo hi : Int} {offs : Array Int} {len : Nat} {x : Int32} {tgt : Nat} (hd : decode cc pc = .ok (.tableswitch dflt lo hi offs, len)) (h1 : x.toInt < lo ∨ hi < x.toInt) (ht : (pc : Int) + dflt = (tgt : Int)) (k : PW l G cc own nL ret hh R CX E tgt L rest S ad h cells slots) : PW l G cc own nL ret hh R CX E pc L (.int x :: rest) S ad h cells slots := by
  intro p e s m args below meth c A H locs ls F hP hD hS hl
  obtain ⟨⟨hx, hb, hml, hown, hts⟩, hr, hlk, htab, hA, hE, hcx⟩ := id F
  exact lv_tableOut hx hb hd h1 ht (k p e s m args below meth c A H locs ls F hP hD hS hl)
theorem pw_lookup {dflt : Int} {ps : Array (Int × Int)} {len : Nat} {x : Int32} {off : Int} {tgt : Nat} (hd : decode cc pc = .ok (.lookupswitch dflt ps, len)) (hp : (ps.toList.zip (ps.toList.drop 1)).all (fun (a, next) => a.1 < next.1) = true) (ho : Op.lookupswitch.offset ps.toList dflt x.toInt = off) (ht : (pc : Int) + off = (tgt : Int)) (k : PW l G cc own nL ret hh R CX E tgt L rest S ad h cells slots) : PW l G cc own nL ret hh R CX E pc L (.int x :: rest) S ad h cells slots := by
  intro p e s m args below meth c A H locs ls F hP hD hS hl
  obtain ⟨⟨hx, hb, hml, hown, hts⟩, hr, hlk, htab, hA, hE, hcx⟩ := id F
  exact lv_lookup hx hb hd hp ho ht (k p e s m args below meth c A H locs ls F hP hD hS hl)
/-- numbers as a loop counts them -/
theorem nI_cl {n : Nat} (h : n < 2147483648) : (nI n).toNatClampNeg = n := nI_clamp h
theorem vpin {n N : Nat} (h : n < N) (hN : N < 2147483648) : vp_in (nI n) N := vp_in_nI h hN
end PWP
theorem PF.mk {l : Launch} {G : GC} {S : List Sh} {ad : Nat → Nat} {h : HP} {y : MethodName} {cc : ByteArray} {nL : Nat} {ret : Option FieldType} {rm : Room} {avs : List Value} {v : Option Value} {h1 : HP} {L0 : List (Option Value)} (own nm : String) (mc ms : Nat)
    (hy : plainName own = true) (ho : y.cls = own) (hnm : y.name = nm) (hm : rm.cells = mc ∧ rm.slots = ms) (h1' : ∀ v ∈ avs, v.category = 1) (hn : avs.length ≤ nL) (hL : avs.map some ++ List.replicate (nL - avs.length) none = L0)
    (k : PW l G cc own nL ret [] rm (gNm nm) (gME G S ad (gR S ad v h1) gNo mc ms) 0 L0 [] S ad h 0 0) :
    PF l G y (.code y cc nL ret) rm avs S ad h v h1 := by
  subst ho; subst hnm; subst hL
  obtain ⟨rfl, rfl⟩ := hm
  exact PM.of hy h1' hn k
theorem PT.mk {l : Launch} {G : GC} {S : List Sh} {ad : Nat → Nat} {h : HP} {y : MethodName} {cc : ByteArray} {nL : Nat} {ret : Option FieldType} {rm : Room} {avs : List Value} {o : Option Value ⊕ String} {h1 : HP} {L0 : List (Option Value)} (own nm : String) (mc ms : Nat)
    (hy : plainName own = true) (ho : y.cls = own) (hnm : y.name = nm) (hm : rm.cells = mc ∧ rm.slots = ms) (h1' : ∀ v ∈ avs, v.category = 1) (hn : avs.length ≤ nL) (hL : avs.map some ++ List.replicate (nL - avs.length) none = L0)
    (k : PW l G cc own nL ret [] rm (gNm nm) (gME G S ad (gRX S ad o h1) (gXX o h1) mc ms) 0 L0 [] S ad h 0 0) :
    PT l G y (.code y cc nL ret) rm avs S ad h o h1 := by
  subst ho; subst hnm; subst hL
  obtain ⟨rfl, rfl⟩ := hm
  exact PM.of hy h1' hn k
