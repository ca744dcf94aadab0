/-! ===== BEGIN a constructor that throws (launches without stack traces) ===== -/
section VXIA
variable {p : Program} {l : Launch} {e : Env} {R : Room} {s : State} {m : MethodId} {args : Array Value} {below : List Frame} {meth : Method} {c : Code} {T : State} {locs : List Loc} {cells slots : Nat}
theorem vx_callI (X : Stand p l e R s m args below meth c T locs cells slots) (hexec : p.tables.exec = Jvm.exec) {own : String} {index : Nat} {y : MethodName} {bytes : ByteArray} {maxL : Nat}
    (hown : s.vm.findClass own = some m.cls) (hy1 : y.name = "<init>") (hlink : (Cond.methodLink own index y).before args s = true) (hinst : (Cond.instanceMethod y).before args s = true)
    (hcode : (Cond.code y bytes maxL none).before args s = true) (hy : y.cls ≠ "java/lang/invoke/MethodHandle" ∧ y.cls ≠ "java/lang/invoke/VarHandle")
    {W9 : Nat} {Pre : Pt → Array Value → Prop} {Post : Pt → Array Value → Option Value → Pt → Prop} {PostX : Pt → Array Value → Addr → Pt → Prop} (hK : vx_Back l R p e below s args y 3 W9 Pre Post PostX)
    {g : JFrame} (hg : g.method = m) (hsize : g.locals.size = c.maxLocals) {a : Addr} {argsL rest : List Value} (hlen : ∀ sig, parseMethodDescriptor y.desc = some sig → argsL.length = sig.parameters.length)
    (hstack : g.stack = argsL.reverse ++ .ref a :: rest) (hW : 2 * g.monitorRoom + (rest.map fun v => v.category).sum ≤ W9) (hdg : decode c.code g.pc = .ok (.invokespecial index, 3))
    (hpre : ∀ vm₁, s.WarmedH vm₁ → Pre ⟨T.setVm vm₁, locs, cells, slots⟩ (Value.ref a :: argsL).toArray) :
    (∃ (v : Option Value) (vm₁ : Vm) (B : Pt), s.WarmedH vm₁ ∧ Stand p l e R s m args below meth c B.U B.locs B.cells B.slots ∧ Post ⟨T.setVm vm₁, locs, cells, slots⟩ (Value.ref a :: argsL).toArray v B ∧
      ∀ target, Steps p.tables e below (B.U.setTop { g with pc := g.pc + 3, stack := v.toList ++ rest }) target → Steps p.tables e below (T.setTop g) target) ∨
    (∃ (q : Addr) (vm₁ : Vm) (B : Pt), s.WarmedH vm₁ ∧ Stand p l e R s m args below meth c B.U B.locs B.cells B.slots ∧ PostX ⟨T.setVm vm₁, locs, cells, slots⟩ (Value.ref a :: argsL).toArray q B ∧
      Steps p.tables e below (T.setTop g) ((B.U.setTop { g with stack := rest }).pushFrame (.throwing q))) := by
  subst hg
  have hpl : e.platform.magicAccessors = ({} : Platform).magicAccessors := by rw [X.admits.platform]
  obtain ⟨mk, methM, cM, kP, vm₁, hnamed, hmethM, hcodeM, -, hlocalsM, -, hkP, -, hW₁, hstep₁⟩ := Steps.initColdArgs (e := e) X.here hexec X.warmed hpl hown hy1 hy hlink hinst hcode (f := g) rfl hlen hstack hdg
  have X₁ := X.noted hW₁
  rcases hK g.method meth c ⟨T.setVm vm₁, locs, cells, slots⟩ { g with stack := rest } (.invokespecial index) mk (Value.ref a :: argsL).toArray X₁ rfl hsize hdg hW (X₁.named hnamed) (hpre vm₁ X₁.warmed) with ⟨v, B, X', hpost, hsteps⟩ | ⟨q, B, X', hpost, hsteps⟩
  · exact Or.inl ⟨v, vm₁, B, X₁.warmed, X', hpost, fun target h => hstep₁ _ fun acts => by rw [doInvoke_state]; exact hsteps.trans h⟩
  · exact Or.inr ⟨q, vm₁, B, X₁.warmed, X', hpost, hstep₁ _ fun acts => by rw [doInvoke_state]; exact hsteps⟩
end VXIA
section VXIB
variable {p : Program} {l : Launch} {e : Env} {R : Room} {s : State} {m : MethodId} {args : Array Value} {below : List Frame} {meth : Method} {c : Code} {H : Heap} {locs : List Loc} {cells slots : Nat}
variable {y : MethodName} {bytes cc : ByteArray} {maxL nL mc ms n index : Nat} {ret : Option FieldType} {ws : List Cond} {rm : Room} {Pc : Array Value → State → Prop} {Qc : Array Value → State → Outcome → State → Prop} {XC : String → State → State → Prop} {free : Addr → Prop} {Ts : List Cond} {own C : String} {b : Addr} {As rest : List Value} {g : JFrame}
theorem vx_runI (S : CallFix p m c cc nL s args Ts own) (hM : vx_Met l y ws rm Pc Qc XC mc ms free) (cw : CallB R s args own index y bytes maxL none ws rm mc ms n ∧ y.name = "<init>" ∧ (Cond.instanceMethod y).before args s = true) (hp : PreS s H Pc (.ref b :: As))
    (hg : g.method = m) (hn : As.length = n) (hsize : g.locals.size = nL) (hstack : g.stack = As.reverse ++ .ref b :: rest) (hW : 2 * g.monitorRoom + (rest.map fun v => v.category).sum ≤ 8) (hdg : decode cc g.pc = .ok (.invokespecial index, 3)) (hf : cells + mc ≤ R.cells ∧ slots + ms ≤ R.slots) :
    vx_Run p l e R s m args below meth c H locs cells slots mc ms g rest (Qc (Value.ref b :: As).toArray) XC free := by
  have hK : vx_Back l R p e below s args y 3 8 (PreOf R mc ms Pc) (PostOf Qc mc ms free) (vx_Post XC mc ms free) := vx_callBack cw.1 hM hp.1
  obtain ⟨⟨-, -, -, -, -, -, hcode, -, hy, hlen, hl⟩, hy1, hin⟩ := cw
  obtain ⟨hx, hb, hml, ho, -⟩ := S
  have hPc := hp.2
  intro T hT X
  rcases vx_callI X hx (bytes := bytes) (maxL := maxL) ho hy1 hl hin hcode hy hK hg (hsize.trans hml.symm) (a := b) (argsL := As) (rest := rest) (fun sig h => hn.trans (hlen sig h)) hstack hW (by rw [hb]; exact hdg)
    (fun vm₁ hW₁ => ⟨hf.1, hf.2, hPc (T.setVm vm₁) hT hW₁⟩) with ⟨v, vm₁, ⟨U', l2, c2, s2⟩, hW₁, X', ⟨g', mk, t, L, e1, e2, hq, h1, hL, h2, h3⟩, st⟩ | ⟨q, vm₁, ⟨U', l2, c2, s2⟩, hW₁, X', ⟨g', mk, t, L, E, ce, e1, e2, hq, hce, hcv, hcl, h1, hL, h2, h3⟩, st⟩
  · dsimp only [Pt.U, Pt.locs, Pt.cells, Pt.slots] at X' e1 e2 h1 h2 h3 st
    subst h1; subst h2; subst h3
    exact Or.inl ⟨v, (T.setVm vm₁).calling g' mk (Value.ref b :: As).toArray, t, U', L, hT, X', hL, e1, e2, hq, st⟩
  · dsimp only [Pt.U, Pt.locs, Pt.cells, Pt.slots] at X' e1 e2 h1 h2 h3 st hcl
    subst h1; subst h2; subst h3
    exact Or.inr ⟨q, (T.setVm vm₁).calling g' mk (Value.ref b :: As).toArray, t, U', L, E, ce, hT, X', hL, e1, e2, hq, hce, hcv, vx_cls hW₁ hcl, st⟩
end VXIB
/-! ===== END ===== -/
/-! ===== BEGIN a private constructor of a nest mate that throws ===== -/
section VXIC
variable {p : Program} {l : Launch} {e : Env} {R : Room} {s : State} {m : MethodId} {args : Array Value} {below : List Frame} {meth : Method} {c : Code} {T : State} {locs : List Loc} {cells slots : Nat}
theorem vx_callIN (X : Stand p l e R s m args below meth c T locs cells slots) (hexec : p.tables.exec = Jvm.exec) {own : String} {index : Nat} {host : String} {y : MethodName} {bytes : ByteArray} {maxL : Nat}
    (hown : s.vm.findClass own = some m.cls) (hy1 : y.name = "<init>") (hlink : (Cond.methodLinkNest own index y host).before args s = true) (hinst : (Cond.instanceMethod y).before args s = true)
    (hcode : (Cond.code y bytes maxL none).before args s = true) (hy : y.cls ≠ "java/lang/invoke/MethodHandle" ∧ y.cls ≠ "java/lang/invoke/VarHandle")
    {W9 : Nat} {Pre : Pt → Array Value → Prop} {Post : Pt → Array Value → Option Value → Pt → Prop} {PostX : Pt → Array Value → Addr → Pt → Prop} (hK : vx_Back l R p e below s args y 3 W9 Pre Post PostX)
    {g : JFrame} (hg : g.method = m) (hsize : g.locals.size = c.maxLocals) {a : Addr} {argsL rest : List Value} (hlen : ∀ sig, parseMethodDescriptor y.desc = some sig → argsL.length = sig.parameters.length)
    (hstack : g.stack = argsL.reverse ++ .ref a :: rest) (hW : 2 * g.monitorRoom + (rest.map fun v => v.category).sum ≤ W9) (hdg : decode c.code g.pc = .ok (.invokespecial index, 3))
    (hpre : ∀ vm₁, s.WarmedH vm₁ → Pre ⟨T.setVm vm₁, locs, cells, slots⟩ (Value.ref a :: argsL).toArray) :
    (∃ (v : Option Value) (vm₁ : Vm) (B : Pt), s.WarmedH vm₁ ∧ Stand p l e R s m args below meth c B.U B.locs B.cells B.slots ∧ Post ⟨T.setVm vm₁, locs, cells, slots⟩ (Value.ref a :: argsL).toArray v B ∧
      ∀ target, Steps p.tables e below (B.U.setTop { g with pc := g.pc + 3, stack := v.toList ++ rest }) target → Steps p.tables e below (T.setTop g) target) ∨
    (∃ (q : Addr) (vm₁ : Vm) (B : Pt), s.WarmedH vm₁ ∧ Stand p l e R s m args below meth c B.U B.locs B.cells B.slots ∧ PostX ⟨T.setVm vm₁, locs, cells, slots⟩ (Value.ref a :: argsL).toArray q B ∧
      Steps p.tables e below (T.setTop g) ((B.U.setTop { g with stack := rest }).pushFrame (.throwing q))) := by
  subst hg
  have hpl : e.platform.magicAccessors = ({} : Platform).magicAccessors := by rw [X.admits.platform]
  obtain ⟨mk, methM, cM, kP, vm₁, hnamed, hmethM, hcodeM, -, hlocalsM, -, hkP, -, hW₁, hstep₁⟩ := Steps.initColdArgsNest (e := e) X.here hexec X.warmed hpl hown hy1 hy hlink hinst hcode (f := g) rfl hlen hstack hdg
  have X₁ := X.noted hW₁
  rcases hK g.method meth c ⟨T.setVm vm₁, locs, cells, slots⟩ { g with stack := rest } (.invokespecial index) mk (Value.ref a :: argsL).toArray X₁ rfl hsize hdg hW (X₁.named hnamed) (hpre vm₁ X₁.warmed) with ⟨v, B, X', hpost, hsteps⟩ | ⟨q, B, X', hpost, hsteps⟩
  · exact Or.inl ⟨v, vm₁, B, X₁.warmed, X', hpost, fun target h => hstep₁ _ fun acts => by rw [doInvoke_state]; exact hsteps.trans h⟩
  · exact Or.inr ⟨q, vm₁, B, X₁.warmed, X', hpost, hstep₁ _ fun acts => by rw [doInvoke_state]; exact hsteps⟩
end VXIC
section VXID
variable {p : Program} {l : Launch} {e : Env} {R : Room} {s : State} {m : MethodId} {args : Array Value} {below : List Frame} {meth : Method} {c : Code} {H : Heap} {locs : List Loc} {cells slots : Nat}
theorem vx_runIN {y : MethodName} {bytes cc : ByteArray} {maxL nL mc ms n index : Nat} {ws : List Cond} {rm : Room} {Pc : Array Value → State → Prop} {Qc : Array Value → State → Outcome → State → Prop} {XC : String → State → State → Prop} {free : Addr → Prop} {Ts : List Cond} {own host : String} {b : Addr} {As rest : List Value} {g : JFrame}
    (S : CallFix p m c cc nL s args Ts own) (hM : vx_Met l y ws rm Pc Qc XC mc ms free) (cw : va_CN R s args own index y host bytes maxL none ws rm mc ms n ∧ y.name = "<init>" ∧ (Cond.instanceMethod y).before args s = true) (hp : PreS s H Pc (.ref b :: As))
    (hg : g.method = m) (hn : As.length = n) (hsize : g.locals.size = nL) (hstack : g.stack = As.reverse ++ .ref b :: rest) (hW : 2 * g.monitorRoom + (rest.map fun v => v.category).sum ≤ 8) (hdg : decode cc g.pc = .ok (.invokespecial index, 3)) (hf : cells + mc ≤ R.cells ∧ slots + ms ≤ R.slots) :
    vx_Run p l e R s m args below meth c H locs cells slots mc ms g rest (Qc (Value.ref b :: As).toArray) XC free := by
  obtain ⟨⟨⟨hrc, hrs, hfr, hlo, hws, hcw⟩, hcode, hini, hy, hlen, hl⟩, hx1, hx2⟩ := cw
  have hK : vx_Back l R p e below s args y 3 8 (PreOf R mc ms Pc) (PostOf Qc mc ms free) (vx_Post XC mc ms free) := vx_back (bytes := bytes) (maxL := maxL) (ret := none) hM hp.1 hrc hrs hfr hlo hws hcw (fun a' U hW => word_at hW (Or.inl (by first | rfl | simp [Cond.onTables, Cond.keeps, Cond.steady])) hini)
  obtain ⟨hx, hb, hml, ho, -⟩ := S
  have hPc := hp.2
  intro T hT X
  rcases vx_callIN X hx (bytes := bytes) (maxL := maxL) ho hx1 hl hx2 hcode hy hK hg (hsize.trans hml.symm) (a := b) (argsL := As) (rest := rest) (fun sig h => hn.trans (hlen sig h)) hstack hW (by rw [hb]; exact hdg)
    (fun vm₁ hW₁ => ⟨hf.1, hf.2, hPc (T.setVm vm₁) hT hW₁⟩) with ⟨v, vm₁, ⟨U', l2, c2, s2⟩, hW₁, X', ⟨g', mk, t, L, e1, e2, hq, h1, hL, h2, h3⟩, st⟩ | ⟨q, vm₁, ⟨U', l2, c2, s2⟩, hW₁, X', ⟨g', mk, t, L, E, ce, e1, e2, hq, hce, hcv, hcl, h1, hL, h2, h3⟩, st⟩
  · dsimp only [Pt.U, Pt.locs, Pt.cells, Pt.slots] at X' e1 e2 h1 h2 h3 st
    subst h1; subst h2; subst h3
    exact Or.inl ⟨v, (T.setVm vm₁).calling g' mk (Value.ref b :: As).toArray, t, U', L, hT, X', hL, e1, e2, hq, st⟩
  · dsimp only [Pt.U, Pt.locs, Pt.cells, Pt.slots] at X' e1 e2 h1 h2 h3 st hcl
    subst h1; subst h2; subst h3
    exact Or.inr ⟨q, (T.setVm vm₁).calling g' mk (Value.ref b :: As).toArray, t, U', L, E, ce, hT, X', hL, e1, e2, hq, hce, hcv, vx_cls hW₁ hcl, st⟩
end VXID
/-! ===== END ===== -/
/-! MAKING: a new object or array is a place more -/
def shB (n : Nat) (sh : Sh) : Bool := match sh with
  | .inl _ => true
  | .inr (.inl o) => o.2.all (fun f => match f with
    | .inr (some (some q)) => decide (q < n)
    | _ => true)
  | .inr (.inr qs) => qs.all (fun x => match x with
    | some q => decide (q < n)
    | none => true)
def clB (S : List Sh) : Bool := S.all (shB S.length)
theorem shB_mono {n m : Nat} {sh : Sh} (hnm : n ≤ m) (h : shB n sh = true) : shB m sh = true := by
  rcases sh with a | o | qs
  · rfl
  · show List.all _ _ = true
    have h' : List.all _ _ = true := h
    rw [List.all_eq_true] at h' ⊢
    intro f hf
    have := h' f hf
    rcases f with v | _ | _ | q
    · rfl
    · rfl
    · rfl
    · simp only [decide_eq_true_eq] at this ⊢
      omega
  · show List.all _ _ = true
    have h' : List.all _ _ = true := h
    rw [List.all_eq_true] at h' ⊢
    intro f hf
    have := h' f hf
    rcases f with _ | q
    · rfl
    · simp only [decide_eq_true_eq] at this ⊢
      omega
theorem clB_app {S T : List Sh} {n : Nat} (hS : clB S = true) (hn : S.length = n) (hT : T.all (shB (n + T.length)) = true) : clB (S ++ T) = true := by
  unfold clB at *
  rw [List.all_append, Bool.and_eq_true, List.length_append, hn]
  refine ⟨?_, hT⟩
  rw [List.all_eq_true] at hS ⊢
  exact fun sh h => shB_mono (by omega) (hS sh h)
theorem clB_nil : clB [] = true := rfl
theorem gEnt_same {ad ad' : Nat → Nat} {tyC : Nat → ClassId} {f : Nat → Int32} {sh : Sh} {n : Nat} (h : shB n sh = true) (ha : ∀ q, q < n → ad' q = ad q) : gEnt ad' tyC f sh = gEnt ad tyC f sh := by
  rcases sh with a | o | qs
  · rfl
  · show Sum.inr (o.1, _) = Sum.inr (o.1, _)
    have h' : List.all _ _ = true := h
    rw [List.all_eq_true] at h'
    congr 2
    apply List.ext_getElem?
    intro j
    rw [List.getElem?_mapIdx, List.getElem?_mapIdx]
    cases hj : o.2[j]? with
    | none => rfl
    | some x =>
      have := h' x (List.mem_of_getElem? hj)
      rcases x with v | _ | _ | q
      · rfl
      · rfl
      · rfl
      · simp only [decide_eq_true_eq] at this
        simp only [Option.map_some, gFv]
        rw [ha q this]
  · show Sum.inl (tyC 4, qs.length, _) = Sum.inl (tyC 4, qs.length, _)
    have h' : List.all _ _ = true := h
    rw [List.all_eq_true] at h'
    congr 7
    funext i
    cases hj : qs[i]? with
    | none => rfl
    | some x =>
      have := h' x (List.mem_of_getElem? hj)
      rcases x with _ | q
      · rfl
      · simp only [decide_eq_true_eq] at this
        simp only [Option.join_some, Option.map_some]
        rw [ha q this]
theorem gW_push {ad ad' : Nat → Nat} {tyC : Nat → ClassId} {S : List Sh} {h : HP} {sh : Sh} {n : Nat} (hn : S.length = n) (hc : clB S = true) (ha : ∀ q, q < n → ad' q = ad q) : gW ad' tyC (S ++ [sh]) h = gW ad tyC S h ++ [(ad' n, gEnt ad' tyC (h n) sh)] := by
  subst hn
  have hl : (gW ad tyC S h).length = S.length := by unfold gW; simp
  unfold clB at hc
  rw [List.all_eq_true] at hc
  apply List.ext_getElem?
  intro j
  rcases Nat.lt_trichotomy j S.length with hj | hj | hj
  · have e1 : S[j]? = some S[j] := List.getElem?_eq_getElem hj
    rw [gW_at (sh := S[j]) (by rw [List.getElem?_append_left hj]; exact e1), List.getElem?_append_left (by rw [hl]; exact hj), gW_at e1, ha j hj, gEnt_same (hc _ (List.mem_of_getElem? e1)) ha]
  · subst hj
    rw [gW_at (sh := sh) (by rw [List.getElem?_append_right (Nat.le_refl _), Nat.sub_self]; rfl), List.getElem?_append_right (by rw [hl]; exact Nat.le_refl _), hl, Nat.sub_self]
    rfl
  · rw [List.getElem?_eq_none (by unfold gW; simp; omega), List.getElem?_eq_none (by simp [hl]; omega)]
theorem gFs_putC {ad : Nat → Nat} {f : Nat → Int32} {fs : List Fk} {k : Nat} {v : Int32} (hk : k < fs.length) : (fs.mapIdx fun k x => gFv ad (f k) x).set k (.int v) = ((fs.set k (.inl v)).mapIdx fun j x => gFv ad (f j) x) := by
  apply List.ext_getElem?
  intro j
  by_cases hj : j = k
  · subst hj
    rw [List.getElem?_set_self (by simpa using hk), List.getElem?_mapIdx, List.getElem?_set_self hk]
    rfl
  · rw [List.getElem?_set_ne (Ne.symm hj), List.getElem?_mapIdx, List.getElem?_mapIdx, List.getElem?_set_ne (Ne.symm hj)]
theorem apx {S T : List Sh} {n j : Nat} {x : Sh} (hn : S.length = n) (h : T[j]? = some x) : (S ++ T)[n + j]? = some x := by
  rw [List.getElem?_append_right (by omega), hn, Nat.add_sub_cancel_left]; exact h
theorem apset {S T T' : List Sh} {n j : Nat} {x : Sh} (hn : S.length = n) (h : T.set j x = T') : (S ++ T).set (n + j) x = S ++ T' := by
  rw [List.set_append_right _ _ (by omega), hn, Nat.add_sub_cancel_left, h]
theorem aplen {S T : List Sh} {n m : Nat} (hn : S.length = n) (h : n + T.length = m) : (S ++ T).length = m := by rw [List.length_append, hn]; exact h
/-- the end of a constructor: these shapes, these contents; the addresses up to n as they were -/
def gC (n : Nat) (ad : Nat → Nat) (S1 : List Sh) (h1 : HP) : gPost := fun v S' ad' h' => v = none ∧ S' = S1 ∧ (∀ q, q ≤ n → ad' q = ad q) ∧ h' = h1
def gNW (own : String) (idx ci N : Nat) (fs : List Fk) : Prop := ∃ (r : vw_C) (ty : Nat → FieldType), vwCl[ci]? = some r ∧ r.2.2 = N ∧ Cond.classLink own idx r.1 ∈ gUW ∧ Cond.instantiable r.1 r.2.2 ∈ gUW ∧ Cond.initialized r.1 ∈ gUW ∧ (∀ w ∈ u_ws r.1 r.2.1 r.2.2, w ∈ gUW) ∧
  (∀ j, j < r.2.2 → parseFieldDescriptor (r.2.1 j).2.2.1 = some (ty j)) ∧ (∀ j, j < r.2.2 → defaultValue (ty j) = vp_V (fs.mapIdx fun _ x => gFv (fun _ => 0) 0 x) j) ∧ shB 0 (.inr (.inl (ci, fs))) = true
def gLFo (own : String) (idx ci k : Nat) (fty : FieldType) : Prop := ∃ (r : vw_C) (ty : Nat → FieldType), vwCl[ci]? = some r ∧ (∀ w ∈ u_ws r.1 r.2.1 r.2.2, w ∈ gUW) ∧ k < r.2.2 ∧ (r.2.1 k).1 = r.1 ∧ Cond.fieldLink own idx r.1 (r.2.1 k).2.1 (r.2.1 k).2.2.1 ∈ gUW ∧ r.1 = own ∧
  (∀ j, j < r.2.2 → parseFieldDescriptor (r.2.1 j).2.2.1 = some (ty j)) ∧ (∀ a, a < r.2.2 → ∀ b, b < r.2.2 → a ≠ b → (r.2.1 a).2.1 ≠ (r.2.1 b).2.1) ∧ (r.2.1 k).2.2.2 = true ∧ ty k = fty
abbrev gAO : String := "BottlingBook$State"
/-- what is known of a launch besides: the array class of states; which exceptions aren't which -/
def gNCs : List (String × String) := [("java/lang/IllegalArgumentException", "java/lang/IllegalStateException"), ("java/lang/IllegalArgumentException", "java/lang/IndexOutOfBoundsException"), ("java/lang/IllegalArgumentException", "java/util/NoSuchElementException"), ("java/lang/IllegalStateException", "java/lang/IllegalArgumentException"), ("java/lang/IllegalStateException", "java/lang/IndexOutOfBoundsException"), ("java/lang/IllegalStateException", "java/util/NoSuchElementException"), ("java/lang/IndexOutOfBoundsException", "java/lang/IllegalArgumentException"), ("java/lang/IndexOutOfBoundsException", "java/lang/IllegalStateException"), ("java/lang/IndexOutOfBoundsException", "java/util/NoSuchElementException"), ("java/util/NoSuchElementException", "java/lang/IllegalArgumentException"), ("java/util/NoSuchElementException", "java/lang/IllegalStateException"), ("java/util/NoSuchElementException", "java/lang/IndexOutOfBoundsException")]
def gXt (U : State) : Prop := va_AO gAO U ∧ ∀ q ∈ gNCs, va_Nc q.1 q.2 U
theorem gXt.moved {u U : State} (hvm : u.vm.Alike U.vm) (h : gXt u) : gXt U := ⟨h.1.moved hvm, fun q hq => (h.2 q hq).moved hvm⟩
def gNmA (nm : String) : gCtx := fun s _ meth _ => meth.name = nm ∧ gXt s
theorem kz0 : FP.ddiv (FP.i2d 0) k1000 = 0 := by decide +kernel
section PWN
variable {l : Launch} {G : GC} {cc : ByteArray} {own : String} {nL : Nat} {ret : Option FieldType} {hh : List (Nat × Nat × Nat × Nat)} {R : Room} {CX : gCtx} {E : gEnd}
variable {pc : Nat} {L : List (Option Value)} {rest : List Value} {S : List Sh} {ad : Nat → Nat} {h : HP} {cells slots : Nat}
theorem pw_objI {idx a : Nat} (hd : decode cc pc = .ok (.invokespecial idx, 3)) (hk : Cond.methodLink own idx Lib.objectInit ∈ gUW) (hw : Cond.instanceMethod Lib.objectInit ∈ gUW ∧ Cond.code Lib.objectInit ⟨#[0xb1]⟩ 1 none ∈ gUW)
    (hR : 1 ≤ R.frames ∧ (rest.map fun v => v.category).sum + 12 ≤ R.locals)
    (k : PW l G cc own nL ret hh R CX E (pc + 3) L rest S ad h cells slots) : PW l G cc own nL ret hh R CX E pc L (.ref a :: rest) S ad h cells slots := by
  intro p e s m args below meth c A H locs ls F hP hD hS hl
  obtain ⟨⟨hx, hb, hml, hown, hts⟩, hr, hlk, htab, hA, hE, hcx⟩ := id F
  exact W.objInit (g := F0 m pc ls (.ref a :: rest)) hx hb hown (hts _ hk) (hts _ hw.1) (hts _ hw.2) rfl (by show ls.size = c.maxLocals; rw [hl.1, hml]) rfl hd hR.1 (by show 2 * 0 + _ + 12 ≤ R.locals; omega) (k p e s m args below meth c A H locs ls F hP hD hS hl)
theorem pw_new {idx ci N n : Nat} {fs : List Fk} {S' : List Sh} (hd : decode cc pc = .ok (.new idx, 3)) (hN : gNW own idx ci N fs) (hn : S.length = n) (hcl : clB S = true) (hz : ∀ k, h n k = 0) (hR : cells + 1 ≤ R.cells ∧ slots + N ≤ R.slots) (hS' : S ++ [.inr (.inl (ci, fs))] = S')
    (kk : ∀ ad' : Nat → Nat, (∀ q, q < n → ad' q = ad q) → PW l G cc own nL ret hh R CX E (pc + 3) L (.ref (ad' n) :: rest) S' ad' h (cells + 1) (slots + N)) : PW l G cc own nL ret hh R CX E pc L rest S ad h cells slots := by
  intro p e s m args below meth c A H locs ls F hP hD hS hl
  obtain ⟨⟨hx, hb, hml, hown, hts⟩, hr, hlk, htab, hA, hE, hcx⟩ := id F
  obtain ⟨⟨C, T, N9⟩, ty, hc, rfl, hk, hi, hini, hin, hty, hfs, hsb⟩ := hN
  subst hS'
  refine va_new hx hb hts hin ty hty hown (hts _ hk) (hts _ hi) (hts _ hini) hE.1 hP hD hS hA hc (fs := fs.mapIdx fun _ x => gFv (fun _ => 0) 0 x) hfs hR.1 hR.2 hd (fun q H1 g1 g2 g3 => ?_)
  have ha : ∀ z, z < n → (fun x => if x = n then q else ad x) z = ad z := fun z hz9 => if_neg (by omega)
  have hz9 : h n = fun _ => 0 := funext hz
  have e9 : gW ad G.2.1 S h ++ [(q, .inr (ci, fs.mapIdx fun _ x => gFv (fun _ => 0) 0 x))] = gW (fun x => if x = n then q else ad x) G.2.1 (S ++ [.inr (.inl (ci, fs))]) h := by
    rw [gW_push hn hcl ha, hz9, gEnt_same (ad := fun _ => 0) hsb (fun z hz => absurd hz (Nat.not_lt_zero z))]
    simp only [if_true]
    rfl
  rw [e9] at g1 g2
  have k9 := kk (fun x => if x = n then q else ad x) ha p e s m args below meth c A H1 locs ls F g1 g2 g3 hl
  simpa using k9
theorem pw_newaI {x : Int32} {n N : Nat} {S' : List Sh} (hd : decode cc pc = .ok (.newarray .int, 2)) (harr : Cond.arrayClass .int ∈ gUW) (hx0 : ¬ x < 0) (hxN : x.toNatClampNeg = N) (hN9 : N < 1000000) (hn : S.length = n) (hcl : clB S = true) (hz : ∀ k, h n k = 0) (hR : cells + 1 ≤ R.cells ∧ slots + N ≤ R.slots) (hS' : S ++ [.inl (0, N)] = S')
    (kk : ∀ ad' : Nat → Nat, (∀ q, q < n → ad' q = ad q) → PW l G cc own nL ret hh R CX E (pc + 2) L (.ref (ad' n) :: rest) S' ad' h (cells + 1) (slots + N)) : PW l G cc own nL ret hh R CX E pc L (.int x :: rest) S ad h cells slots := by
  intro p e s m args below meth c A H locs ls F hP hD hS hl
  obtain ⟨⟨hx, hb, hml, hown, hts⟩, hr, hlk, htab, hA, hE, hcx⟩ := id F
  subst hS'
  refine va_newa (atype := .int) (ty := .int) hx hb (hts _ harr) rfl hE.1 hP hD hS hA (a0 := (N, .inl (fun _ => 0))) (fun cA => rfl) hx0 hxN (by have e : componentBytes FieldType.int = 4 := rfl; rw [e]; omega) hR.1 hR.2 hd (fun q cA H1 k1 g1 g2 g3 => ?_)
  have hcA : cA = G.2.1 0 := by
    have a1 := (k1.2 5 (cA, .int) rfl).2
    have a2 := (hE.1.2 0 (G.2.1 0, .int) rfl).2
    exact Option.some.inj ((show s.vm.findClass _ = some cA from a1).symm.trans (show s.vm.findClass _ = some (G.2.1 0) from a2))
  subst hcA
  have ha : ∀ z, z < n → (fun x => if x = n then q else ad x) z = ad z := fun z hz9 => if_neg (by omega)
  have hz9 : h n = fun _ => 0 := funext hz
  have e9 : gW ad G.2.1 S h ++ [(q, .inl (G.2.1 0, (N, .inl (fun _ => 0))))] = gW (fun x => if x = n then q else ad x) G.2.1 (S ++ [.inl (0, N)]) h := by
    rw [gW_push hn hcl ha, hz9]
    simp only [if_true]
    have e8 : gEnt (fun x => if x = n then q else ad x) G.2.1 (fun _ => 0) (.inl (0, N)) = Sum.inl (G.2.1 0, (N, .inl (fun _ => 0))) := rfl
    rw [e8]
  rw [e9] at g1 g2
  have k9 := kk (fun x => if x = n then q else ad x) ha p e s m args below meth c A H1 locs ls F g1 g2 g3 hl
  simpa using k9
theorem pw_newaC {x : Int32} {n N : Nat} {S' : List Sh} (hd : decode cc pc = .ok (.newarray .char, 2)) (harr : Cond.arrayClass .char ∈ gUW) (hx0 : ¬ x < 0) (hxN : x.toNatClampNeg = N) (hN9 : N < 1000000) (hn : S.length = n) (hcl : clB S = true) (hz : ∀ k, h n k = 0) (hR : cells + 1 ≤ R.cells ∧ slots + N ≤ R.slots) (hS' : S ++ [.inl (1, N)] = S')
    (kk : ∀ ad' : Nat → Nat, (∀ q, q < n → ad' q = ad q) → PW l G cc own nL ret hh R CX E (pc + 2) L (.ref (ad' n) :: rest) S' ad' h (cells + 1) (slots + N)) : PW l G cc own nL ret hh R CX E pc L (.int x :: rest) S ad h cells slots := by
  intro p e s m args below meth c A H locs ls F hP hD hS hl
  obtain ⟨⟨hx, hb, hml, hown, hts⟩, hr, hlk, htab, hA, hE, hcx⟩ := id F
  subst hS'
  refine va_newa (atype := .char) (ty := .char) hx hb (hts _ harr) rfl hE.1 hP hD hS hA (a0 := (N, .inl (fun _ => 0))) (fun cA => rfl) hx0 hxN (by have e : componentBytes FieldType.char = 2 := rfl; rw [e]; omega) hR.1 hR.2 hd (fun q cA H1 k1 g1 g2 g3 => ?_)
  have hcA : cA = G.2.1 1 := by
    have a1 := (k1.2 5 (cA, .char) rfl).2
    have a2 := (hE.1.2 1 (G.2.1 1, .char) rfl).2
    exact Option.some.inj ((show s.vm.findClass _ = some cA from a1).symm.trans (show s.vm.findClass _ = some (G.2.1 1) from a2))
  subst hcA
  have ha : ∀ z, z < n → (fun x => if x = n then q else ad x) z = ad z := fun z hz9 => if_neg (by omega)
  have hz9 : h n = fun _ => 0 := funext hz
  have e9 : gW ad G.2.1 S h ++ [(q, .inl (G.2.1 1, (N, .inl (fun _ => 0))))] = gW (fun x => if x = n then q else ad x) G.2.1 (S ++ [.inl (1, N)]) h := by
    rw [gW_push hn hcl ha, hz9]
    simp only [if_true]
    have e8 : gEnt (fun x => if x = n then q else ad x) G.2.1 (fun _ => 0) (.inl (1, N)) = Sum.inl (G.2.1 1, (N, .inl (fun _ => 0))) := rfl
    rw [e8]
  rw [e9] at g1 g2
  have k9 := kk (fun x => if x = n then q else ad x) ha p e s m args below meth c A H1 locs ls F g1 g2 g3 hl
  simpa using k9
theorem pw_newaJ {x : Int32} {n N : Nat} {S' : List Sh} (hd : decode cc pc = .ok (.newarray .long, 2)) (harr : Cond.arrayClass .long ∈ gUW) (hx0 : ¬ x < 0) (hxN : x.toNatClampNeg = N) (hN9 : N < 1000000) (hn : S.length = n) (hcl : clB S = true) (hz : ∀ k, h n k = 0) (hR : cells + 1 ≤ R.cells ∧ slots + N ≤ R.slots) (hS' : S ++ [.inl (2, N)] = S')
    (kk : ∀ ad' : Nat → Nat, (∀ q, q < n → ad' q = ad q) → PW l G cc own nL ret hh R CX E (pc + 2) L (.ref (ad' n) :: rest) S' ad' h (cells + 1) (slots + N)) : PW l G cc own nL ret hh R CX E pc L (.int x :: rest) S ad h cells slots := by
  intro p e s m args below meth c A H locs ls F hP hD hS hl
  obtain ⟨⟨hx, hb, hml, hown, hts⟩, hr, hlk, htab, hA, hE, hcx⟩ := id F
  subst hS'
  refine va_newa (atype := .long) (ty := .long) hx hb (hts _ harr) rfl hE.1 hP hD hS hA (a0 := (N, .inr (.inl (fun _ => 0)))) (fun cA => rfl) hx0 hxN (by have e : componentBytes FieldType.long = 8 := rfl; rw [e]; omega) hR.1 hR.2 hd (fun q cA H1 k1 g1 g2 g3 => ?_)
  have hcA : cA = G.2.1 2 := by
    have a1 := (k1.2 5 (cA, .long) rfl).2
    have a2 := (hE.1.2 2 (G.2.1 2, .long) rfl).2
    exact Option.some.inj ((show s.vm.findClass _ = some cA from a1).symm.trans (show s.vm.findClass _ = some (G.2.1 2) from a2))
  subst hcA
  have ha : ∀ z, z < n → (fun x => if x = n then q else ad x) z = ad z := fun z hz9 => if_neg (by omega)
  have hz9 : h n = fun _ => 0 := funext hz
  have e9 : gW ad G.2.1 S h ++ [(q, .inl (G.2.1 2, (N, .inr (.inl (fun _ => 0)))))] = gW (fun x => if x = n then q else ad x) G.2.1 (S ++ [.inl (2, N)]) h := by
    rw [gW_push hn hcl ha, hz9]
    simp only [if_true]
    have e8 : gEnt (fun x => if x = n then q else ad x) G.2.1 (fun _ => 0) (.inl (2, N)) = Sum.inl (G.2.1 2, (N, .inr (.inl (fun _ => 0)))) := rfl
    rw [e8]
  rw [e9] at g1 g2
  have k9 := kk (fun x => if x = n then q else ad x) ha p e s m args below meth c A H1 locs ls F g1 g2 g3 hl
  simpa using k9
theorem pw_newaD {x : Int32} {n N : Nat} {S' : List Sh} (hd : decode cc pc = .ok (.newarray .double, 2)) (harr : Cond.arrayClass .double ∈ gUW) (hx0 : ¬ x < 0) (hxN : x.toNatClampNeg = N) (hN9 : N < 1000000) (hn : S.length = n) (hcl : clB S = true) (hz : ∀ k, h n k = 0) (hR : cells + 1 ≤ R.cells ∧ slots + N ≤ R.slots) (hS' : S ++ [.inl (3, N)] = S')
    (kk : ∀ ad' : Nat → Nat, (∀ q, q < n → ad' q = ad q) → PW l G cc own nL ret hh R CX E (pc + 2) L (.ref (ad' n) :: rest) S' ad' h (cells + 1) (slots + N)) : PW l G cc own nL ret hh R CX E pc L (.int x :: rest) S ad h cells slots := by
  intro p e s m args below meth c A H locs ls F hP hD hS hl
  obtain ⟨⟨hx, hb, hml, hown, hts⟩, hr, hlk, htab, hA, hE, hcx⟩ := id F
  subst hS'
  refine va_newa (atype := .double) (ty := .double) hx hb (hts _ harr) rfl hE.1 hP hD hS hA (a0 := (N, .inr (.inr (.inr (.inl (fun _ => 0)))))) (fun cA => rfl) hx0 hxN (by have e : componentBytes FieldType.double = 8 := rfl; rw [e]; omega) hR.1 hR.2 hd (fun q cA H1 k1 g1 g2 g3 => ?_)
  have hcA : cA = G.2.1 3 := by
    have a1 := (k1.2 5 (cA, .double) rfl).2
    have a2 := (hE.1.2 3 (G.2.1 3, .double) rfl).2
    exact Option.some.inj ((show s.vm.findClass _ = some cA from a1).symm.trans (show s.vm.findClass _ = some (G.2.1 3) from a2))
  subst hcA
  have ha : ∀ z, z < n → (fun x => if x = n then q else ad x) z = ad z := fun z hz9 => if_neg (by omega)
  have hz9 : h n = fun _ => 0 := funext hz
  have e9 : gW ad G.2.1 S h ++ [(q, .inl (G.2.1 3, (N, .inr (.inr (.inr (.inl (fun _ => 0)))))))] = gW (fun x => if x = n then q else ad x) G.2.1 (S ++ [.inl (3, N)]) h := by
    rw [gW_push hn hcl ha, hz9]
    simp only [if_true]
    have e8 : gEnt (fun x => if x = n then q else ad x) G.2.1 (fun _ => 0) (.inl (3, N)) = Sum.inl (G.2.1 3, (N, .inr (.inr (.inr (.inl (fun _ => 0)))))) := (by show (Sum.inl (G.2.1 3, N, Sum.inr (Sum.inr (Sum.inr (Sum.inl fun _ => FP.ddiv (FP.i2d 0) k1000)))) : va_E) = _; rw [kz0])
    rw [e8]
  rw [e9] at g1 g2
  have k9 := kk (fun x => if x = n then q else ad x) ha p e s m args below meth c A H1 locs ls F g1 g2 g3 hl
  simpa using k9
theorem pw_newq {idx : Nat} {x : Int32} {n N : Nat} {S' : List Sh} (hd : decode cc pc = .ok (.anewarray idx, 3)) (hk : Cond.classLink own idx gAO ∈ gUW) (hAO : ∀ s args meth A, CX s args meth A → gXt s) (hx0 : ¬ x < 0) (hxN : x.toNatClampNeg = N) (hN9 : N < 1000000) (hn : S.length = n) (hcl : clB S = true) (hR : cells + 1 ≤ R.cells ∧ slots + N ≤ R.slots) (hS' : S ++ [.inr (.inr (List.replicate N none))] = S')
    (kk : ∀ ad' : Nat → Nat, (∀ q, q < n → ad' q = ad q) → PW l G cc own nL ret hh R CX E (pc + 3) L (.ref (ad' n) :: rest) S' ad' h (cells + 1) (slots + N)) : PW l G cc own nL ret hh R CX E pc L (.int x :: rest) S ad h cells slots := by
  intro p e s m args below meth c A H locs ls F hP hD hS hl
  obtain ⟨⟨hx, hb, hml, hown, hts⟩, hr, hlk, htab, hA, hE, hcx⟩ := id F
  subst hS'
  refine va_newq hx hb hown (hts _ hk) (hAO _ _ _ _ hcx).1 hE.1 hP hD hS hA hx0 hxN (by omega) hR.1 hR.2 hd (fun q cA H1 k1 g1 g2 g3 => ?_)
  have hcA : cA = G.2.1 4 := by
    obtain ⟨kA1, comp1, -, -, -, a1⟩ := (show va_RA s cA (.object gAO) from (k1.2 5 (cA, .object gAO) rfl).2)
    obtain ⟨kA2, comp2, -, -, -, a2⟩ := (show va_RA s (G.2.1 4) (.object gAO) from (hE.1.2 4 (G.2.1 4, .object RX5) rfl).2)
    exact Option.some.inj (a1.symm.trans a2)
  subst hcA
  have ha : ∀ z, z < n → (fun x => if x = n then q else ad x) z = ad z := fun z hz9 => if_neg (by omega)
  have e9 : gW ad G.2.1 S h ++ [(q, .inl (G.2.1 4, N, .inr (.inr (.inr (.inr (fun _ => none))))))] = gW (fun x => if x = n then q else ad x) G.2.1 (S ++ [.inr (.inr (List.replicate N none))]) h := by
    rw [gW_push hn hcl ha]
    simp only [if_true]
    have e8 : gEnt (fun x => if x = n then q else ad x) G.2.1 (h n) (.inr (.inr (List.replicate N none))) = Sum.inl (G.2.1 4, N, .inr (.inr (.inr (.inr (fun _ => none))))) := by
      show Sum.inl (G.2.1 4, (List.replicate N (none : Option Nat)).length, _) = _
      rw [List.length_replicate]
      congr 7
      funext i
      rw [List.getElem?_replicate]
      split <;> rfl
    rw [e8]
  rw [e9] at g1 g2
  have k9 := kk (fun x => if x = n then q else ad x) ha p e s m args below meth c A H1 locs ls F g1 g2 g3 hl
  simpa using k9
/-- a final field gets a place -/
theorem pw_putR {idx ci k p : Nat} {q : Nat} {fs : List Fk} {fty : FieldType} {S' : List Sh} (hd : decode cc pc = .ok (.putfield idx, 3)) (hl : gLFo own idx ci k fty) (hCX : ∀ s args meth A, CX s args meth A → meth.name = "<init>") (hS : S[p]? = some (.inr (.inl (ci, fs)))) (hk : k < fs.length)
    (hn : narrow fty (.ref (ad q)) = (.ref (ad q))) (hfit : fits fty (.ref (ad q)) = true) (hS' : S.set p (.inr (.inl (ci, fs.set k (.inr (some (some q)))))) = S')
    (kk : PW l G cc own nL ret hh R CX E (pc + 3) L rest S' ad h cells slots) : PW l G cc own nL ret hh R CX E pc L (.ref (ad q) :: .ref (ad p) :: rest) S ad h cells slots := by
  intro p' e s m args below meth c A H locs ls F hP hD hS9 hl'
  obtain ⟨⟨hx, hb, hml, hown, hts⟩, hr, hlk, htab, hA, hE, hcx⟩ := id F
  obtain ⟨⟨C, T, N⟩, ty, hc, hin, hkN, hself, hlink, ho, hty, hnm, hfin, hft⟩ := hl
  subst hft; subst hS'
  have hat := gW_at (ad := ad) (tyC := G.2.1) (h := h) hS
  have hlen : k < (fs.mapIdx fun k x => gFv ad (h p k) x).length := by simpa using hk
  have e9 : (gW ad G.2.1 S h).set p (ad p, .inr (ci, (fs.mapIdx fun k x => gFv ad (h p k) x).set k (.ref (ad q)))) = gW ad G.2.1 (S.set p (.inr (.inl (ci, fs.set k (.inr (some (some q))))))) h := by
    rw [gFs_putR hk, ← gW_setS (h := h) (List.getElem?_eq_some_iff.mp hS).1]; rfl
  refine va_putF (ref := C) hx hb hts hin ty hty hnm hown hE.1 hP hD hS9 p hat hc k hkN (hts _ hlink) (fun x hx9 => by rw [← (show (T k).1 = C from hself)]; exact hx9) hfin (hCX _ _ _ _ hcx) (hself.trans ho) (hty k hkN) hn hfit hlen hd (fun H1 locs1 g1 g2 g3 => ?_)
  rw [e9] at g1 g2
  exact kk p' e s m args below meth c A H1 locs1 ls F g1 g2 g3 hl'
/-- a final field gets a number -/
theorem pw_putC {idx ci k p : Nat} {v : Int32} {fs : List Fk} {fty : FieldType} {S' : List Sh} (hd : decode cc pc = .ok (.putfield idx, 3)) (hl : gLFo own idx ci k fty) (hCX : ∀ s args meth A, CX s args meth A → meth.name = "<init>") (hS : S[p]? = some (.inr (.inl (ci, fs)))) (hk : k < fs.length)
    (hn : narrow fty (.int v) = (.int v)) (hfit : fits fty (.int v) = true) (hS' : S.set p (.inr (.inl (ci, fs.set k (.inl v)))) = S')
    (kk : PW l G cc own nL ret hh R CX E (pc + 3) L rest S' ad h cells slots) : PW l G cc own nL ret hh R CX E pc L (.int v :: .ref (ad p) :: rest) S ad h cells slots := by
  intro p' e s m args below meth c A H locs ls F hP hD hS9 hl'
  obtain ⟨⟨hx, hb, hml, hown, hts⟩, hr, hlk, htab, hA, hE, hcx⟩ := id F
  obtain ⟨⟨C, T, N⟩, ty, hc, hin, hkN, hself, hlink, ho, hty, hnm, hfin, hft⟩ := hl
  subst hft; subst hS'
  have hat := gW_at (ad := ad) (tyC := G.2.1) (h := h) hS
  have hlen : k < (fs.mapIdx fun k x => gFv ad (h p k) x).length := by simpa using hk
  have e9 : (gW ad G.2.1 S h).set p (ad p, .inr (ci, (fs.mapIdx fun k x => gFv ad (h p k) x).set k (.int v))) = gW ad G.2.1 (S.set p (.inr (.inl (ci, fs.set k (.inl v))))) h := by
    rw [gFs_putC hk, ← gW_setS (h := h) (List.getElem?_eq_some_iff.mp hS).1]; rfl
  refine va_putF (ref := C) hx hb hts hin ty hty hnm hown hE.1 hP hD hS9 p hat hc k hkN (hts _ hlink) (fun x hx9 => by rw [← (show (T k).1 = C from hself)]; exact hx9) hfin (hCX _ _ _ _ hcx) (hself.trans ho) (hty k hkN) hn hfit hlen hd (fun H1 locs1 g1 g2 g3 => ?_)
  rw [e9] at g1 g2
  exact kk p' e s m args below meth c A H1 locs1 ls F g1 g2 g3 hl'
theorem pw_aast {p q : Nat} {i : Int32} {k : Nat} {qs : List (Option Nat)} {fs : List Fk} {S' : List Sh} (hd : decode cc pc = .ok (.aastore, 1)) (hS : S[p]? = some (.inr (.inr qs))) (hSq : S[q]? = some (.inr (.inl (5, fs)))) (hi : i.toNatClampNeg = k) (hin : vp_in i qs.length) (hS' : S.set p (.inr (.inr (qs.set k (some q)))) = S')
    (kk : PW l G cc own nL ret hh R CX E (pc + 1) L rest S' ad h cells slots) : PW l G cc own nL ret hh R CX E pc L (.ref (ad q) :: .int i :: .ref (ad p) :: rest) S ad h cells slots := by
  intro p' e s m args below meth c A H locs ls F hP hD hS9 hl'
  obtain ⟨⟨hx, hb, hml, hown, hts⟩, hr, hlk, htab, hA, hE, hcx⟩ := id F
  subst hS'
  have hk : k < qs.length := by rw [← hi]; exact Nat.not_le.mp fun z => hin (Or.inr z)
  refine va_astq hx hb hE.1 hP hD hS9 p 4 q 5 (r := (RX5, TX5, 4)) (gW_at hS) rfl (gW_at hSq) rfl hin hd (fun H1 locs1 g1 g2 g3 => ?_)
  have e9 : (gW ad G.2.1 S h).set p (ad p, .inl (G.2.1 4, qs.length, .inr (.inr (.inr (.inr (va_up (fun i => (qs[i]?.join).map ad) i.toNatClampNeg (some (ad q)))))))) = gW ad G.2.1 (S.set p (.inr (.inr (qs.set k (some q))))) h := by
    rw [← gW_setS (h := h) (List.getElem?_eq_some_iff.mp hS).1]
    have e8 : gEnt ad G.2.1 (h p) (.inr (.inr (qs.set k (some q)))) = Sum.inl (G.2.1 4, qs.length, .inr (.inr (.inr (.inr (va_up (fun i => (qs[i]?.join).map ad) i.toNatClampNeg (some (ad q))))))) := by
      show Sum.inl (G.2.1 4, (qs.set k (some q)).length, _) = _
      rw [List.length_set]
      congr 7
      funext j
      rw [hi]
      by_cases hj : j = k
      · subst hj
        rw [List.getElem?_set_self hk]; simp [va_up]
      · rw [List.getElem?_set_ne (Ne.symm hj)]; simp [va_up, hj]
    rw [e8]
  rw [e9] at g1 g2
  exact kk p' e s m args below meth c A H1 locs1 ls F g1 g2 g3 hl'
/-- the same shapes, by another name -/
theorem pw_seq {st : List Value} {S' : List Sh} (e : S = S') (k : PW l G cc own nL ret hh R CX E pc L st S' ad h cells slots) : PW l G cc own nL ret hh R CX E pc L st S ad h cells slots := e ▸ k
theorem pw_endC {n : Nat} {ad0 : Nat → Nat} {S0 S1 : List Sh} {h1 : HP} {mc ms : Nat} (hd : decode cc pc = .ok (.return_, 1)) (hret : ret = none) (hc : cells ≤ mc) (hs : slots ≤ ms) (hS : S = S1) (ha : ∀ q, q ≤ n → ad q = ad0 q) (hh1 : h = h1) : PW l G cc own nL ret hh R CX (gME G S0 ad0 (gC n ad0 S1 h1) gNo mc ms) pc L [] S ad h cells slots :=
  pw_return hd hret hc hs ⟨rfl, hS, ha, hh1⟩
end PWN
/-! constructors over launches where the array class of states is known -/
def gPcA (G : GC) (ad : Nat → Nat) (S : List Sh) (h : HP) (sz : Nat) (avs : List Value) : Array Value → State → Prop := fun a U => gPc G ad S h sz avs a U ∧ gXt U
def PMA (l : Launch) (G : GC) (y : MethodName) (ccw : Cond) (rm : Room) (avs : List Value) (S : List Sh) (ad : Nat → Nat) (h : HP) (Q : gPost) (X : String → HP → Prop) : Prop :=
  ∀ sz : Nat, vx_Met l y (ccw :: gUW) rm (gPcA G ad S h sz avs) (gQ G (gA ad S sz) Q) (gX G (gA ad S sz) S ad X) rm.cells rm.slots (gA ad S sz)
theorem gPcA_blind {G : GC} {ad : Nat → Nat} {S : List Sh} {h : HP} {sz : Nat} {avs : List Value} : FrameBlind (gPcA G ad S h sz avs) := fun a U g mk q => ⟨gPc_blind a U g mk q.1, gXt.moved (u := U) (Vm.Alike.refl _) q.2⟩
theorem PMA.of {l : Launch} {G : GC} {y : MethodName} {cc : ByteArray} {nL : Nat} {ret : Option FieldType} {rm : Room} {avs : List Value} {S : List Sh} {ad : Nat → Nat} {h : HP} {Q : gPost} {X : String → HP → Prop}
    (hy : plainName y.cls = true) (h1 : ∀ v ∈ avs, v.category = 1) (hn : avs.length ≤ nL)
    (k : PW l G cc y.cls nL ret [] rm (gNmA y.name) (gME G S ad Q X rm.cells rm.slots) 0 (avs.map some ++ List.replicate (nL - avs.length) none) [] S ad h 0 0) :
    PMA l G y (.code y cc nL ret) rm avs S ad h Q X := by
  intro sz
  refine vx_ofW (cc := cc) (maxL := nL) (ret := ret) hy rfl ?_
  intro p e s m args below meth c s₁ B hml htb hv
  obtain ⟨⟨rfl, hsz, hE, hP, hD⟩, hAO⟩ := hv
  subst hsz
  have hts : ∀ w ∈ gUW, w.before avs.toArray s = true := fun w hw => atoms_spec (ws := Cond.code y cc nL ret :: gUW) B.pre w (List.mem_cons_of_mem _ hw)
  have hl := gL_entry avs (n := nL) h1 hn
  rw [lg_entry_eq]
  have htb' : c.exceptionTable.toList = tableOf [] := by
    cases hc : c.exceptionTable.toList with
    | nil => rfl
    | cons a b => exact (htb a (by rw [hc]; exact List.mem_cons_self)).elim
  exact k p e s m _ below meth c (gA ad S s.heap.size) s.heap [] _ ⟨⟨B.exec, B.bytes, hml, findClass_of_methodNamed B.named, hts⟩, B.returns, B.notSynchronized, htb', fun q hq => Or.inr hq, hE, (name_of_methodNamed B.named B.method).1, hAO⟩ hP hD va_S.rf hl
section PWI
variable {l : Launch} {G : GC} {cc : ByteArray} {own : String} {nL : Nat} {ret : Option FieldType} {hh : List (Nat × Nat × Nat × Nat)} {R : Room} {CX : gCtx} {E : gEnd}
variable {pc : Nat} {L : List (Option Value)} {rest : List Value} {S : List Sh} {ad : Nat → Nat} {h : HP} {cells slots : Nat}
theorem pw_callI {idx n b : Nat} {y : MethodName} {cc1 : ByteArray} {nL1 : Nat} {rm : Room} {avs st0 : List Value} {Q : gPost} {X : String → HP → Prop}
    (hd : decode cc pc = .ok (.invokespecial idx, 3)) (hM : PM l G y (.code y cc1 nL1 none) rm (.ref (ad b) :: avs) S ad h Q X) (hi : gMI y cc1 nL1 none n) (hy1 : y.name = "<init>") (hin : Cond.instanceMethod y ∈ gUW) (hk : gML own idx y) (hn : avs.length = n)
    (hR : rm.frames + 1 ≤ R.frames ∧ 8 + (nL1 + 11) + rm.locals ≤ R.locals) (hcs : cells + rm.cells ≤ R.cells ∧ slots + rm.slots ≤ R.slots)
    (hst : st0 = avs.reverse ++ .ref (ad b) :: rest) (hW : (rest.map fun v => v.category).sum ≤ 8)
    (kx : ∀ Ex h', X Ex h' → PX l G cc own nL ret hh R CX E pc L rest S ad h' (cells + rm.cells) (slots + rm.slots) Ex)
    (kk : ∀ v S' ad' h', Q v S' ad' h' → PW l G cc own nL ret hh R CX E (pc + 3) L (v.toList ++ rest) S' ad' h' (cells + rm.cells) (slots + rm.slots)) :
    PW l G cc own nL ret hh R CX E pc L st0 S ad h cells slots := by
  intro p e s m args below meth c A H locs ls F hP hD hS' hl'
  obtain ⟨⟨hx, hb, hml, hown, hts⟩, hr, hlk, htab, hA, hE, hcx⟩ := id F
  obtain ⟨hi1, hi2, hi3⟩ := hi
  have hG : GoodIn gUW (Cond.code y cc1 nL1 none :: gUW) := gUW_in (fun w hw => (List.mem_cons.mp hw).elim (fun q => q ▸ hi1) id)
  have hp : PreS s H (gPc G ad S h H.size (.ref (ad b) :: avs)) (.ref (ad b) :: avs) := ⟨gPc_blind, fun U hU hW => gPcU F hP hD hS' hU hW⟩
  subst hst
  refine gRun (st0 := avs.reverse ++ .ref (ad b) :: rest) (a := (Value.ref (ad b) :: avs).toArray) ?_ F hD hS' hl' kx kk
  rcases hk with hk | ⟨host, hk⟩
  · exact vx_runI ⟨hx, hb, hml, hown, hts⟩ (hM H.size) ⟨callB_of n hts hG rfl rfl rfl (hts _ hi2) (hts _ hk) hi3 hR, hy1, hts _ hin⟩ hp rfl hn hl'.1 rfl (by show 2 * 0 + _ ≤ 8; omega) hd hcs
  · exact vx_runIN ⟨hx, hb, hml, hown, hts⟩ (hM H.size) ⟨va_cnB n hts hG rfl rfl rfl (hE.2.1 _ hk) (hts _ hi2) hi3 hR, hy1, hts _ hin⟩ hp rfl hn hl'.1 rfl (by show 2 * 0 + _ ≤ 8; omega) hd hcs
/-- a constructor's call -/
theorem pw_cI {idx n b : Nat} {y : MethodName} {cc1 : ByteArray} {nL1 : Nat} {rm : Room} {avs st0 : List Value} {S1 S' : List Sh} {h1 : HP}
    (hd : decode cc pc = .ok (.invokespecial idx, 3)) (hM : PM l G y (.code y cc1 nL1 none) rm (.ref (ad b) :: avs) S ad h (gC b ad S1 h1) gNo) (hi : gMI y cc1 nL1 none n) (hy1 : y.name = "<init>") (hin : Cond.instanceMethod y ∈ gUW) (hk : gML own idx y) (hn : avs.length = n)
    (hR : rm.frames + 1 ≤ R.frames ∧ 8 + (nL1 + 11) + rm.locals ≤ R.locals) (hcs : cells + rm.cells ≤ R.cells ∧ slots + rm.slots ≤ R.slots)
    (hst : st0 = avs.reverse ++ .ref (ad b) :: rest) (hW : gCat rest = true) (hS' : S1 = S')
    (kk : ∀ ad' : Nat → Nat, (∀ q, q ≤ b → ad' q = ad q) → PW l G cc own nL ret hh R CX E (pc + 3) L rest S' ad' h1 (cells + rm.cells) (slots + rm.slots)) :
    PW l G cc own nL ret hh R CX E pc L st0 S ad h cells slots := by
  refine pw_callI hd hM hi hy1 hin hk hn hR hcs hst (gCat_spec hW) (fun _ _ q => q.elim) (fun v' S9 ad' h' q => ?_)
  obtain ⟨rfl, rfl, ha, rfl⟩ := q
  subst hS'
  exact kk ad' ha
theorem pw_callIA {idx n b : Nat} {y : MethodName} {cc1 : ByteArray} {nL1 : Nat} {rm : Room} {avs st0 : List Value} {Q : gPost} {X : String → HP → Prop}
    (hd : decode cc pc = .ok (.invokespecial idx, 3)) (hM : PMA l G y (.code y cc1 nL1 none) rm (.ref (ad b) :: avs) S ad h Q X) (hAO : ∀ s args meth A, CX s args meth A → gXt s) (hi : gMI y cc1 nL1 none n) (hy1 : y.name = "<init>") (hin : Cond.instanceMethod y ∈ gUW) (hk : gML own idx y) (hn : avs.length = n)
    (hR : rm.frames + 1 ≤ R.frames ∧ 8 + (nL1 + 11) + rm.locals ≤ R.locals) (hcs : cells + rm.cells ≤ R.cells ∧ slots + rm.slots ≤ R.slots)
    (hst : st0 = avs.reverse ++ .ref (ad b) :: rest) (hW : (rest.map fun v => v.category).sum ≤ 8)
    (kx : ∀ Ex h', X Ex h' → PX l G cc own nL ret hh R CX E pc L rest S ad h' (cells + rm.cells) (slots + rm.slots) Ex)
    (kk : ∀ v S' ad' h', Q v S' ad' h' → PW l G cc own nL ret hh R CX E (pc + 3) L (v.toList ++ rest) S' ad' h' (cells + rm.cells) (slots + rm.slots)) :
    PW l G cc own nL ret hh R CX E pc L st0 S ad h cells slots := by
  intro p e s m args below meth c A H locs ls F hP hD hS' hl'
  obtain ⟨⟨hx, hb, hml, hown, hts⟩, hr, hlk, htab, hA, hE, hcx⟩ := id F
  obtain ⟨hi1, hi2, hi3⟩ := hi
  have hG : GoodIn gUW (Cond.code y cc1 nL1 none :: gUW) := gUW_in (fun w hw => (List.mem_cons.mp hw).elim (fun q => q ▸ hi1) id)
  have hp : PreS s H (gPcA G ad S h H.size (.ref (ad b) :: avs)) (.ref (ad b) :: avs) := ⟨gPcA_blind, fun U hU hW => ⟨gPcU F hP hD hS' hU hW, gXt.moved hW.alike (hAO _ _ _ _ hcx)⟩⟩
  subst hst
  refine gRun (st0 := avs.reverse ++ .ref (ad b) :: rest) (a := (Value.ref (ad b) :: avs).toArray) ?_ F hD hS' hl' kx kk
  rcases hk with hk | ⟨host, hk⟩
  · exact vx_runI ⟨hx, hb, hml, hown, hts⟩ (hM H.size) ⟨callB_of n hts hG rfl rfl rfl (hts _ hi2) (hts _ hk) hi3 hR, hy1, hts _ hin⟩ hp rfl hn hl'.1 rfl (by show 2 * 0 + _ ≤ 8; omega) hd hcs
  · exact vx_runIN ⟨hx, hb, hml, hown, hts⟩ (hM H.size) ⟨va_cnB n hts hG rfl rfl rfl (hE.2.1 _ hk) (hts _ hi2) hi3 hR, hy1, hts _ hin⟩ hp rfl hn hl'.1 rfl (by show 2 * 0 + _ ≤ 8; omega) hd hcs
/-- a constructor's call -/
theorem pw_cIA {idx n b : Nat} {y : MethodName} {cc1 : ByteArray} {nL1 : Nat} {rm : Room} {avs st0 : List Value} {S1 S' : List Sh} {h1 : HP}
    (hd : decode cc pc = .ok (.invokespecial idx, 3)) (hM : PMA l G y (.code y cc1 nL1 none) rm (.ref (ad b) :: avs) S ad h (gC b ad S1 h1) gNo) (hAO : ∀ s args meth A, CX s args meth A → gXt s) (hi : gMI y cc1 nL1 none n) (hy1 : y.name = "<init>") (hin : Cond.instanceMethod y ∈ gUW) (hk : gML own idx y) (hn : avs.length = n)
    (hR : rm.frames + 1 ≤ R.frames ∧ 8 + (nL1 + 11) + rm.locals ≤ R.locals) (hcs : cells + rm.cells ≤ R.cells ∧ slots + rm.slots ≤ R.slots)
    (hst : st0 = avs.reverse ++ .ref (ad b) :: rest) (hW : gCat rest = true) (hS' : S1 = S')
    (kk : ∀ ad' : Nat → Nat, (∀ q, q ≤ b → ad' q = ad q) → PW l G cc own nL ret hh R CX E (pc + 3) L rest S' ad' h1 (cells + rm.cells) (slots + rm.slots)) :
    PW l G cc own nL ret hh R CX E pc L st0 S ad h cells slots := by
  refine pw_callIA hd hM hAO hi hy1 hin hk hn hR hcs hst (gCat_spec hW) (fun _ _ q => q.elim) (fun v' S9 ad' h' q => ?_)
  obtain ⟨rfl, rfl, ha, rfl⟩ := q
  subst hS'
  exact kk ad' ha
end PWI

theorem nw_X7_7 : gNW RX7 7 5 4 [.inr (some none), .inr (some none), .inr (some none), .inr (some none)] := ⟨(RX5, TX5, 4), tyX5, rfl, rfl, (gmem (tb_1 (List.mem_of_getElem? (i := 28) (by decide +kernel))) rfl), (gmem (tb_1 (List.mem_of_getElem? (i := 29) (by decide +kernel))) rfl), (gmem (tb_1 (List.mem_of_getElem? (i := 2) (by decide +kernel))) rfl), uwX5, tyX5_ok, by decide +kernel, rfl⟩
theorem nw_X7_19 : gNW RX7 19 2 3 [.inr (some none), .inr none, .inr none] := ⟨(RX2, TX2, 3), tyX2, rfl, rfl, (gmem (tb_1 (List.mem_of_getElem? (i := 162) (by decide +kernel))) rfl), (gmem (tb_1 (List.mem_of_getElem? (i := 163) (by decide +kernel))) rfl), (gmem (tb_1 (List.mem_of_getElem? (i := 8) (by decide +kernel))) rfl), uwX2, tyX2_ok, by decide +kernel, rfl⟩
theorem nw_X7_26 : gNW RX7 26 3 6 [.inr (some none), .inr (some none), .inr none, .inr none, .inr none, .inr none] := ⟨(RX3, TX3, 6), tyX3, rfl, rfl, (gmem (tb_1 (List.mem_of_getElem? (i := 182) (by decide +kernel))) rfl), (gmem (tb_1 (List.mem_of_getElem? (i := 183) (by decide +kernel))) rfl), (gmem (tb_1 (List.mem_of_getElem? (i := 9) (by decide +kernel))) rfl), uwX3, tyX3_ok, by decide +kernel, rfl⟩
theorem nw_X7_33 : gNW RX7 33 6 3 [.inr none, .inr none, .inr (some none)] := ⟨(RX6, TX6, 3), tyX6, rfl, rfl, (gmem (tb_1 (List.mem_of_getElem? (i := 213) (by decide +kernel))) rfl), (gmem (tb_1 (List.mem_of_getElem? (i := 41) (by decide +kernel))) rfl), (gmem (tb_1 (List.mem_of_getElem? (i := 4) (by decide +kernel))) rfl), uwX6, tyX6_ok, by decide +kernel, rfl⟩
theorem nw_X0_9 : gNW RX0 9 6 3 [.inr none, .inr none, .inr (some none)] := ⟨(RX6, TX6, 3), tyX6, rfl, rfl, (gmem (tb_1 (List.mem_of_getElem? (i := 98) (by decide +kernel))) rfl), (gmem (tb_1 (List.mem_of_getElem? (i := 41) (by decide +kernel))) rfl), (gmem (tb_1 (List.mem_of_getElem? (i := 4) (by decide +kernel))) rfl), uwX6, tyX6_ok, by decide +kernel, rfl⟩
theorem nw_X1_9 : gNW RX1 9 6 3 [.inr none, .inr none, .inr (some none)] := ⟨(RX6, TX6, 3), tyX6, rfl, rfl, (gmem (tb_1 (List.mem_of_getElem? (i := 117) (by decide +kernel))) rfl), (gmem (tb_1 (List.mem_of_getElem? (i := 41) (by decide +kernel))) rfl), (gmem (tb_1 (List.mem_of_getElem? (i := 4) (by decide +kernel))) rfl), uwX6, tyX6_ok, by decide +kernel, rfl⟩
theorem nw_X2_9 : gNW RX2 9 5 4 [.inr (some none), .inr (some none), .inr (some none), .inr (some none)] := ⟨(RX5, TX5, 4), tyX5, rfl, rfl, (gmem (tb_1 (List.mem_of_getElem? (i := 168) (by decide +kernel))) rfl), (gmem (tb_1 (List.mem_of_getElem? (i := 29) (by decide +kernel))) rfl), (gmem (tb_1 (List.mem_of_getElem? (i := 2) (by decide +kernel))) rfl), uwX5, tyX5_ok, by decide +kernel, rfl⟩
theorem nw_X3_15 : gNW RX3 15 6 3 [.inr none, .inr none, .inr (some none)] := ⟨(RX6, TX6, 3), tyX6, rfl, rfl, (gmem (tb_1 (List.mem_of_getElem? (i := 188) (by decide +kernel))) rfl), (gmem (tb_1 (List.mem_of_getElem? (i := 41) (by decide +kernel))) rfl), (gmem (tb_1 (List.mem_of_getElem? (i := 4) (by decide +kernel))) rfl), uwX6, tyX6_ok, by decide +kernel, rfl⟩
theorem nw_X4_9 : gNW RX4 9 6 3 [.inr none, .inr none, .inr (some none)] := ⟨(RX6, TX6, 3), tyX6, rfl, rfl, (gmem (tb_1 (List.mem_of_getElem? (i := 40) (by decide +kernel))) rfl), (gmem (tb_1 (List.mem_of_getElem? (i := 41) (by decide +kernel))) rfl), (gmem (tb_1 (List.mem_of_getElem? (i := 4) (by decide +kernel))) rfl), uwX6, tyX6_ok, by decide +kernel, rfl⟩
theorem nw_X5_9 : gNW RX5 9 4 8 [.inr (some none), .inr (some none), .inr (some none), .inr (some none), .inr (some none), .inr none, .inr none, .inr none] := ⟨(RX4, TX4, 8), tyX4, rfl, rfl, (gmem (tb_1 (List.mem_of_getElem? (i := 34) (by decide +kernel))) rfl), (gmem (tb_1 (List.mem_of_getElem? (i := 35) (by decide +kernel))) rfl), (gmem (tb_1 (List.mem_of_getElem? (i := 3) (by decide +kernel))) rfl), uwX4, tyX4_ok, by decide +kernel, rfl⟩
theorem nw_X5_18 : gNW RX5 18 0 2 [.inr (some none), .inr none] := ⟨(RX0, TX0, 2), tyX0, rfl, rfl, (gmem (tb_1 (List.mem_of_getElem? (i := 92) (by decide +kernel))) rfl), (gmem (tb_1 (List.mem_of_getElem? (i := 93) (by decide +kernel))) rfl), (gmem (tb_1 (List.mem_of_getElem? (i := 6) (by decide +kernel))) rfl), uwX0, tyX0_ok, by decide +kernel, rfl⟩
theorem nw_X5_25 : gNW RX5 25 1 4 [.inr (some none), .inr (some none), .inr (some none), .inr none] := ⟨(RX1, TX1, 4), tyX1, rfl, rfl, (gmem (tb_1 (List.mem_of_getElem? (i := 111) (by decide +kernel))) rfl), (gmem (tb_1 (List.mem_of_getElem? (i := 112) (by decide +kernel))) rfl), (gmem (tb_1 (List.mem_of_getElem? (i := 7) (by decide +kernel))) rfl), uwX1, tyX1_ok, by decide +kernel, rfl⟩
theorem nw_X5_32 : gNW RX5 32 6 3 [.inr none, .inr none, .inr (some none)] := ⟨(RX6, TX6, 3), tyX6, rfl, rfl, (gmem (tb_1 (List.mem_of_getElem? (i := 135) (by decide +kernel))) rfl), (gmem (tb_1 (List.mem_of_getElem? (i := 41) (by decide +kernel))) rfl), (gmem (tb_1 (List.mem_of_getElem? (i := 4) (by decide +kernel))) rfl), uwX6, tyX6_ok, by decide +kernel, rfl⟩
theorem nw_L_8 : gNW RL 8 7 10 [.inr (some none), .inr (some none), .inr (some none), .inr (some none), .inr (some none), .inr (some none), .inr (some none), .inr none, .inr none, .inr none] := ⟨(RX7, TX7, 10), tyX7, rfl, rfl, (gmem (tb_1 (List.mem_of_getElem? (i := 20) (by decide +kernel))) rfl), (gmem (tb_1 (List.mem_of_getElem? (i := 21) (by decide +kernel))) rfl), (gmem (tb_1 (List.mem_of_getElem? (i := 1) (by decide +kernel))) rfl), uwX7, tyX7_ok, by decide +kernel, rfl⟩
theorem nw_L_111 : gNW RL 111 8 19 [.inr (some none), .inr (some none), .inr none, .inr (some none), .inr none, .inr none, .inr none, .inr none, .inr (some none), .inr none, .inr none, .inr none, .inr none, .inr none, .inr (some none), .inr (some none), .inr (some none), .inr (some none), .inr (some none)] := ⟨(RX8, TX8, 19), tyX8, rfl, rfl, (gmem (tb_4 (List.mem_of_getElem? (i := 217) (by decide +kernel))) rfl), (gmem (tb_4 (List.mem_of_getElem? (i := 218) (by decide +kernel))) rfl), (gmem (tb_1 (List.mem_of_getElem? (i := 10) (by decide +kernel))) rfl), uwX8, tyX8_ok, by decide +kernel, rfl⟩
theorem lo_X7_10 : gLFo RX7 10 7 0 (.object "BottlingBook$State") := ⟨(RX7, TX7, 10), tyX7, rfl, uwX7, by decide, rfl, (gmem (tb_1 (List.mem_of_getElem? (i := 215) (by decide +kernel))) rfl), rfl, tyX7_ok, nmX7, rfl, rfl⟩
theorem lo_X7_16 : gLFo RX7 16 7 1 (.object "BottlingBook$State") := ⟨(RX7, TX7, 10), tyX7, rfl, uwX7, by decide, rfl, (gmem (tb_1 (List.mem_of_getElem? (i := 216) (by decide +kernel))) rfl), rfl, tyX7_ok, nmX7, rfl, rfl⟩
theorem lo_X7_22 : gLFo RX7 22 7 2 (.object "BottlingBook$History") := ⟨(RX7, TX7, 10), tyX7, rfl, uwX7, by decide, rfl, (gmem (tb_1 (List.mem_of_getElem? (i := 217) (by decide +kernel))) rfl), rfl, tyX7_ok, nmX7, rfl, rfl⟩
theorem lo_X7_29 : gLFo RX7 29 7 3 (.object "BottlingBook$Input") := ⟨(RX7, TX7, 10), tyX7, rfl, uwX7, by decide, rfl, (gmem (tb_1 (List.mem_of_getElem? (i := 218) (by decide +kernel))) rfl), rfl, tyX7_ok, nmX7, rfl, rfl⟩
theorem lo_X7_38 : gLFo RX7 38 7 4 (.object "BottlingBook$Table") := ⟨(RX7, TX7, 10), tyX7, rfl, uwX7, by decide, rfl, (gmem (tb_1 (List.mem_of_getElem? (i := 219) (by decide +kernel))) rfl), rfl, tyX7_ok, nmX7, rfl, rfl⟩
theorem lo_X7_42 : gLFo RX7 42 7 5 (.object "BottlingBook$Table") := ⟨(RX7, TX7, 10), tyX7, rfl, uwX7, by decide, rfl, (gmem (tb_1 (List.mem_of_getElem? (i := 220) (by decide +kernel))) rfl), rfl, tyX7_ok, nmX7, rfl, rfl⟩
theorem lo_X7_45 : gLFo RX7 45 7 6 (.object "BottlingBook$Table") := ⟨(RX7, TX7, 10), tyX7, rfl, uwX7, by decide, rfl, (gmem (tb_1 (List.mem_of_getElem? (i := 221) (by decide +kernel))) rfl), rfl, tyX7_ok, nmX7, rfl, rfl⟩
theorem lo_X0_14 : gLFo RX0 14 0 0 (.object "BottlingBook$Table") := ⟨(RX0, TX0, 2), tyX0, rfl, uwX0, by decide, rfl, (gmem (tb_1 (List.mem_of_getElem? (i := 100) (by decide +kernel))) rfl), rfl, tyX0_ok, nmX0, rfl, rfl⟩
theorem lo_X1_14 : gLFo RX1 14 1 0 (.object "BottlingBook$Table") := ⟨(RX1, TX1, 4), tyX1, rfl, uwX1, by decide, rfl, (gmem (tb_1 (List.mem_of_getElem? (i := 119) (by decide +kernel))) rfl), rfl, tyX1_ok, nmX1, rfl, rfl⟩
theorem lo_X1_20 : gLFo RX1 20 1 1 (.object "BottlingBook$Table") := ⟨(RX1, TX1, 4), tyX1, rfl, uwX1, by decide, rfl, (gmem (tb_1 (List.mem_of_getElem? (i := 120) (by decide +kernel))) rfl), rfl, tyX1_ok, nmX1, rfl, rfl⟩
theorem lo_X1_23 : gLFo RX1 23 1 2 (.object "BottlingBook$Table") := ⟨(RX1, TX1, 4), tyX1, rfl, uwX1, by decide, rfl, (gmem (tb_1 (List.mem_of_getElem? (i := 122) (by decide +kernel))) rfl), rfl, tyX1_ok, nmX1, rfl, rfl⟩
theorem lo_X2_11 : gLFo RX2 11 2 0 (.array (.object "BottlingBook$State")) := ⟨(RX2, TX2, 3), tyX2, rfl, uwX2, by decide, rfl, (gmem (tb_1 (List.mem_of_getElem? (i := 171) (by decide +kernel))) rfl), rfl, tyX2_ok, nmX2, rfl, rfl⟩
theorem lo_X3_9 : gLFo RX3 9 3 0 (.array .char) := ⟨(RX3, TX3, 6), tyX3, rfl, uwX3, by decide, rfl, (gmem (tb_1 (List.mem_of_getElem? (i := 190) (by decide +kernel))) rfl), rfl, tyX3_ok, nmX3, rfl, rfl⟩
theorem lo_X3_20 : gLFo RX3 20 3 1 (.object "BottlingBook$Table") := ⟨(RX3, TX3, 6), tyX3, rfl, uwX3, by decide, rfl, (gmem (tb_1 (List.mem_of_getElem? (i := 191) (by decide +kernel))) rfl), rfl, tyX3_ok, nmX3, rfl, rfl⟩
theorem lo_X4_14 : gLFo RX4 14 4 0 (.object "BottlingBook$Table") := ⟨(RX4, TX4, 8), tyX4, rfl, uwX4, by decide, rfl, (gmem (tb_1 (List.mem_of_getElem? (i := 60) (by decide +kernel))) rfl), rfl, tyX4_ok, nmX4, rfl, rfl⟩
theorem lo_X4_20 : gLFo RX4 20 4 1 (.object "BottlingBook$Table") := ⟨(RX4, TX4, 8), tyX4, rfl, uwX4, by decide, rfl, (gmem (tb_1 (List.mem_of_getElem? (i := 62) (by decide +kernel))) rfl), rfl, tyX4_ok, nmX4, rfl, rfl⟩
theorem lo_X4_23 : gLFo RX4 23 4 2 (.object "BottlingBook$Table") := ⟨(RX4, TX4, 8), tyX4, rfl, uwX4, by decide, rfl, (gmem (tb_1 (List.mem_of_getElem? (i := 64) (by decide +kernel))) rfl), rfl, tyX4_ok, nmX4, rfl, rfl⟩
theorem lo_X4_26 : gLFo RX4 26 4 3 (.object "BottlingBook$Table") := ⟨(RX4, TX4, 8), tyX4, rfl, uwX4, by decide, rfl, (gmem (tb_1 (List.mem_of_getElem? (i := 66) (by decide +kernel))) rfl), rfl, tyX4_ok, nmX4, rfl, rfl⟩
theorem lo_X4_29 : gLFo RX4 29 4 4 (.object "BottlingBook$Table") := ⟨(RX4, TX4, 8), tyX4, rfl, uwX4, by decide, rfl, (gmem (tb_1 (List.mem_of_getElem? (i := 68) (by decide +kernel))) rfl), rfl, tyX4_ok, nmX4, rfl, rfl⟩
theorem lo_X5_12 : gLFo RX5 12 5 0 (.object "BottlingBook$Lots") := ⟨(RX5, TX5, 4), tyX5, rfl, uwX5, by decide, rfl, (gmem (tb_1 (List.mem_of_getElem? (i := 145) (by decide +kernel))) rfl), rfl, tyX5_ok, nmX5, rfl, rfl⟩
theorem lo_X5_21 : gLFo RX5 21 5 1 (.object "BottlingBook$Bottlings") := ⟨(RX5, TX5, 4), tyX5, rfl, uwX5, by decide, rfl, (gmem (tb_1 (List.mem_of_getElem? (i := 147) (by decide +kernel))) rfl), rfl, tyX5_ok, nmX5, rfl, rfl⟩
theorem lo_X5_28 : gLFo RX5 28 5 2 (.object "BottlingBook$Customers") := ⟨(RX5, TX5, 4), tyX5, rfl, uwX5, by decide, rfl, (gmem (tb_1 (List.mem_of_getElem? (i := 149) (by decide +kernel))) rfl), rfl, tyX5_ok, nmX5, rfl, rfl⟩
theorem lo_X5_37 : gLFo RX5 37 5 3 (.object "BottlingBook$Table") := ⟨(RX5, TX5, 4), tyX5, rfl, uwX5, by decide, rfl, (gmem (tb_1 (List.mem_of_getElem? (i := 151) (by decide +kernel))) rfl), rfl, tyX5_ok, nmX5, rfl, rfl⟩
theorem lo_X6_9 : gLFo RX6 9 6 0 (.int) := ⟨(RX6, TX6, 3), tyX6, rfl, uwX6, by decide, rfl, (gmem (tb_1 (List.mem_of_getElem? (i := 49) (by decide +kernel))) rfl), rfl, tyX6_ok, nmX6, rfl, rfl⟩
theorem lo_X6_15 : gLFo RX6 15 6 1 (.int) := ⟨(RX6, TX6, 3), tyX6, rfl, uwX6, by decide, rfl, (gmem (tb_1 (List.mem_of_getElem? (i := 50) (by decide +kernel))) rfl), rfl, tyX6_ok, nmX6, rfl, rfl⟩
theorem lo_X6_24 : gLFo RX6 24 6 2 (.array .int) := ⟨(RX6, TX6, 3), tyX6, rfl, uwX6, by decide, rfl, (gmem (tb_1 (List.mem_of_getElem? (i := 51) (by decide +kernel))) rfl), rfl, tyX6_ok, nmX6, rfl, rfl⟩
theorem lo_X8_9 : gLFo RX8 9 8 0 (.array .int) := ⟨(RX8, TX8, 19), tyX8, rfl, uwX8, by decide, rfl, (gmem (tb_4 (List.mem_of_getElem? (i := 223) (by decide +kernel))) rfl), rfl, tyX8_ok, nmX8, rfl, rfl⟩
theorem lo_X8_13 : gLFo RX8 13 8 1 (.array .int) := ⟨(RX8, TX8, 19), tyX8, rfl, uwX8, by decide, rfl, (gmem (tb_4 (List.mem_of_getElem? (i := 224) (by decide +kernel))) rfl), rfl, tyX8_ok, nmX8, rfl, rfl⟩
theorem lo_X8_16 : gLFo RX8 16 8 3 (.array .int) := ⟨(RX8, TX8, 19), tyX8, rfl, uwX8, by decide, rfl, (gmem (tb_4 (List.mem_of_getElem? (i := 226) (by decide +kernel))) rfl), rfl, tyX8_ok, nmX8, rfl, rfl⟩
theorem lo_X8_23 : gLFo RX8 23 8 8 (.array .char) := ⟨(RX8, TX8, 19), tyX8, rfl, uwX8, by decide, rfl, (gmem (tb_4 (List.mem_of_getElem? (i := 231) (by decide +kernel))) rfl), rfl, tyX8_ok, nmX8, rfl, rfl⟩
theorem lo_X8_27 : gLFo RX8 27 8 14 (.array .int) := ⟨(RX8, TX8, 19), tyX8, rfl, uwX8, by decide, rfl, (gmem (tb_4 (List.mem_of_getElem? (i := 237) (by decide +kernel))) rfl), rfl, tyX8_ok, nmX8, rfl, rfl⟩
theorem lo_X8_30 : gLFo RX8 30 8 15 (.array .int) := ⟨(RX8, TX8, 19), tyX8, rfl, uwX8, by decide, rfl, (gmem (tb_4 (List.mem_of_getElem? (i := 238) (by decide +kernel))) rfl), rfl, tyX8_ok, nmX8, rfl, rfl⟩
theorem lo_X8_33 : gLFo RX8 33 8 16 (.array .int) := ⟨(RX8, TX8, 19), tyX8, rfl, uwX8, by decide, rfl, (gmem (tb_4 (List.mem_of_getElem? (i := 239) (by decide +kernel))) rfl), rfl, tyX8_ok, nmX8, rfl, rfl⟩
theorem lo_X8_36 : gLFo RX8 36 8 17 (.array .int) := ⟨(RX8, TX8, 19), tyX8, rfl, uwX8, by decide, rfl, (gmem (tb_5 (List.mem_of_getElem? (i := 0) (by decide +kernel))) rfl), rfl, tyX8_ok, nmX8, rfl, rfl⟩
theorem lo_X8_39 : gLFo RX8 39 8 18 (.array .int) := ⟨(RX8, TX8, 19), tyX8, rfl, uwX8, by decide, rfl, (gmem (tb_5 (List.mem_of_getElem? (i := 1) (by decide +kernel))) rfl), rfl, tyX8_ok, nmX8, rfl, rfl⟩
theorem oi_X7_1 : Cond.methodLink RX7 1 Lib.objectInit ∈ gUW := (gmem (tb_1 (List.mem_of_getElem? (i := 25) (by decide +kernel))) rfl)
theorem oi_X0_3 : Cond.methodLink RX0 3 Lib.objectInit ∈ gUW := (gmem (tb_1 (List.mem_of_getElem? (i := 97) (by decide +kernel))) rfl)
theorem oi_X1_3 : Cond.methodLink RX1 3 Lib.objectInit ∈ gUW := (gmem (tb_1 (List.mem_of_getElem? (i := 116) (by decide +kernel))) rfl)
theorem oi_X2_3 : Cond.methodLink RX2 3 Lib.objectInit ∈ gUW := (gmem (tb_1 (List.mem_of_getElem? (i := 167) (by decide +kernel))) rfl)
theorem oi_X3_3 : Cond.methodLink RX3 3 Lib.objectInit ∈ gUW := (gmem (tb_1 (List.mem_of_getElem? (i := 187) (by decide +kernel))) rfl)
theorem oi_X4_3 : Cond.methodLink RX4 3 Lib.objectInit ∈ gUW := (gmem (tb_1 (List.mem_of_getElem? (i := 39) (by decide +kernel))) rfl)
theorem oi_X5_3 : Cond.methodLink RX5 3 Lib.objectInit ∈ gUW := (gmem (tb_1 (List.mem_of_getElem? (i := 33) (by decide +kernel))) rfl)
theorem oi_X6_3 : Cond.methodLink RX6 3 Lib.objectInit ∈ gUW := (gmem (tb_1 (List.mem_of_getElem? (i := 45) (by decide +kernel))) rfl)
theorem oi_X8_1 : Cond.methodLink RX8 1 Lib.objectInit ∈ gUW := (gmem (tb_4 (List.mem_of_getElem? (i := 222) (by decide +kernel))) rfl)
theorem ow_i : Cond.instanceMethod Lib.objectInit ∈ gUW ∧ Cond.code Lib.objectInit ⟨#[0xb1]⟩ 1 none ∈ gUW := ⟨(gmem (tb_1 (List.mem_of_getElem? (i := 26) (by decide +kernel))) rfl), (gmem (tb_1 (List.mem_of_getElem? (i := 27) (by decide +kernel))) rfl)⟩
theorem ii_X0_init : Cond.instanceMethod yX0_init ∈ gUW := (gmem (tb_1 (List.mem_of_getElem? (i := 95) (by decide +kernel))) rfl)
theorem ii_X1_init : Cond.instanceMethod yX1_init ∈ gUW := (gmem (tb_1 (List.mem_of_getElem? (i := 114) (by decide +kernel))) rfl)
theorem ii_X2_init : Cond.instanceMethod yX2_init ∈ gUW := (gmem (tb_1 (List.mem_of_getElem? (i := 165) (by decide +kernel))) rfl)
theorem ii_X3_init : Cond.instanceMethod yX3_init ∈ gUW := (gmem (tb_1 (List.mem_of_getElem? (i := 185) (by decide +kernel))) rfl)
theorem ii_X4_init : Cond.instanceMethod yX4_init ∈ gUW := (gmem (tb_1 (List.mem_of_getElem? (i := 37) (by decide +kernel))) rfl)
theorem ii_X5_init : Cond.instanceMethod yX5_init ∈ gUW := (gmem (tb_1 (List.mem_of_getElem? (i := 31) (by decide +kernel))) rfl)
theorem ii_X6_init : Cond.instanceMethod yX6_init ∈ gUW := (gmem (tb_1 (List.mem_of_getElem? (i := 43) (by decide +kernel))) rfl)
theorem ii_X7_init : Cond.instanceMethod yX7_init ∈ gUW := (gmem (tb_1 (List.mem_of_getElem? (i := 23) (by decide +kernel))) rfl)
theorem ii_X8_init : Cond.instanceMethod yX8_init ∈ gUW := (gmem (tb_4 (List.mem_of_getElem? (i := 220) (by decide +kernel))) rfl)
theorem ar_I : Cond.arrayClass FieldType.int ∈ gUW := (gmem (tb_1 (List.mem_of_getElem? (i := 59) (by decide +kernel))) rfl)
theorem ar_C : Cond.arrayClass FieldType.char ∈ gUW := (gmem (tb_1 (List.mem_of_getElem? (i := 212) (by decide +kernel))) rfl)
theorem ar_J : Cond.arrayClass FieldType.long ∈ gUW := (gmem (tb_6 (List.mem_of_getElem? (i := 114) (by decide +kernel))) rfl)
theorem ar_D : Cond.arrayClass FieldType.double ∈ gUW := (gmem (tb_6 (List.mem_of_getElem? (i := 115) (by decide +kernel))) rfl)
theorem cl_X2_9 : Cond.classLink RX2 9 gAO ∈ gUW := (gmem (tb_1 (List.mem_of_getElem? (i := 168) (by decide +kernel))) rfl)
theorem PM.mk {l : Launch} {G : GC} {S : List Sh} {ad : Nat → Nat} {h : HP} {y : MethodName} {cc : ByteArray} {nL : Nat} {ret : Option FieldType} {rm : Room} {avs : List Value} {Q : gPost} {X : String → HP → Prop} {L0 : List (Option Value)} (own nm : String) (mc ms : Nat)
    (hy : plainName own = true) (ho : y.cls = own) (hnm : y.name = nm) (hm : rm.cells = mc ∧ rm.slots = ms) (h1' : ∀ v ∈ avs, v.category = 1) (hn : avs.length ≤ nL) (hL : avs.map some ++ List.replicate (nL - avs.length) none = L0)
    (k : PW l G cc own nL ret [] rm (gNm nm) (gME G S ad Q X mc ms) 0 L0 [] S ad h 0 0) :
    PM l G y (.code y cc nL ret) rm avs S ad h Q X := by
  subst ho; subst hnm; subst hL
  obtain ⟨rfl, rfl⟩ := hm
  exact PM.of hy h1' hn k
theorem PMA.mk {l : Launch} {G : GC} {S : List Sh} {ad : Nat → Nat} {h : HP} {y : MethodName} {cc : ByteArray} {nL : Nat} {ret : Option FieldType} {rm : Room} {avs : List Value} {Q : gPost} {X : String → HP → Prop} {L0 : List (Option Value)} (own nm : String) (mc ms : Nat)
    (hy : plainName own = true) (ho : y.cls = own) (hnm : y.name = nm) (hm : rm.cells = mc ∧ rm.slots = ms) (h1' : ∀ v ∈ avs, v.category = 1) (hn : avs.length ≤ nL) (hL : avs.map some ++ List.replicate (nL - avs.length) none = L0)
    (k : PW l G cc own nL ret [] rm (gNmA nm) (gME G S ad Q X mc ms) 0 L0 [] S ad h 0 0) :
    PMA l G y (.code y cc nL ret) rm avs S ad h Q X := by
  subst ho; subst hnm; subst hL
  obtain ⟨rfl, rfl⟩ := hm
  exact PMA.of hy h1' hn k
theorem hput_same {h : HP} {p k : Nat} {v : Int32} (e : h p k = v) : hput h p k v = h := by
  funext q j
  unfold hput
  split
  · rename_i q1; subst q1
    split
    · rename_i q2; subst q2; exact e.symm
    · rfl
  · rfl
def tabD (R C n : Nat) : List Sh := [.inr (.inl (6, [.inl (nI R), .inl (nI C), .inr (some (some (n + 1)))])), .inl (0, R * C)]
def lotsD (n : Nat) : List Sh := [.inr (.inl (4, [.inr (some (some (n + 1))), .inr (some (some (n + 3))), .inr (some (some (n + 5))), .inr (some (some (n + 7))), .inr (some (some (n + 9))), .inr none, .inr none, .inr none]))] ++ tabD 24 5 (n + 1) ++ tabD 24 4 (n + 3) ++ tabD 24 4 (n + 5) ++ tabD 24 12 (n + 7) ++ tabD 12 3 (n + 9)
def botD (n : Nat) : List Sh := [.inr (.inl (0, [.inr (some (some (n + 1))), .inr none]))] ++ tabD 16 7 (n + 1)
def cusD (n : Nat) : List Sh := [.inr (.inl (1, [.inr (some (some (n + 1))), .inr (some (some (n + 3))), .inr (some (some (n + 5))), .inr none]))] ++ tabD 8 1 (n + 1) ++ tabD 8 16 (n + 3) ++ tabD 8 16 (n + 5)
def staD (n : Nat) : List Sh := [.inr (.inl (5, [.inr (some (some (n + 1))), .inr (some (some (n + 12))), .inr (some (some (n + 15))), .inr (some (some (n + 22)))]))] ++ lotsD (n + 1) ++ botD (n + 12) ++ cusD (n + 15) ++ tabD 1 3 (n + 22)
theorem all_app {A B : List Sh} {m : Nat} (ha : A.all (shB m) = true) (hb : B.all (shB m) = true) : (A ++ B).all (shB m) = true := by rw [List.all_append, ha, hb]; rfl
theorem clB_apm {S T : List Sh} {n m : Nat} (hS : clB S = true) (hn : S.length = n) (hm : n + T.length = m) (hT : T.all (shB m) = true) : clB (S ++ T) = true := clB_app hS hn (by rw [hm]; exact hT)
theorem sb_tabD {R C k m : Nat} (h : k + 2 ≤ m) : (tabD R C k).all (shB m) = true := by
  unfold tabD; simp [shB]; omega
theorem sb_lotsD {k m : Nat} (h : k + 11 ≤ m) : (lotsD k).all (shB m) = true := by
  unfold lotsD
  exact all_app (all_app (all_app (all_app (all_app (by simp [shB]; omega) (sb_tabD (by omega))) (sb_tabD (by omega))) (sb_tabD (by omega))) (sb_tabD (by omega))) (sb_tabD (by omega))
theorem sb_botD {k m : Nat} (h : k + 3 ≤ m) : (botD k).all (shB m) = true := by
  unfold botD
  exact all_app (by simp [shB]; omega) (sb_tabD (by omega))
theorem sb_cusD {k m : Nat} (h : k + 7 ≤ m) : (cusD k).all (shB m) = true := by
  unfold cusD
  exact all_app (all_app (all_app (by simp [shB]; omega) (sb_tabD (by omega))) (sb_tabD (by omega))) (sb_tabD (by omega))
theorem sb_staD {k m : Nat} (h : k + 24 ≤ m) : (staD k).all (shB m) = true := by
  unfold staD
  exact all_app (all_app (all_app (all_app (by simp [shB]; omega) (sb_lotsD (by omega))) (sb_botD (by omega))) (sb_cusD (by omega))) (sb_tabD (by omega))
def stH (n : Nat) (h : HP) : HP := hput (hput (hput h (n + 23) 0 850) (n + 23) 1 850) (n + 23) 2 750
theorem stH_z {n m : Nat} {h : HP} (hz : ∀ q, n ≤ q → ∀ k, h q k = 0) (hm : n + 24 ≤ m) : ∀ q, m ≤ q → ∀ k, stH n h q k = 0 := fun q hq k => by
  unfold stH
  rw [hput_ne _ _ _ (by omega), hput_ne _ _ _ (by omega), hput_ne _ _ _ (by omega)]; exact hz q (by omega) k
theorem stH_o {n q : Nat} {h : HP} (hq : q ≠ n + 23) : stH n h q = h q := by
  unfold stH
  rw [hput_ne _ _ _ hq, hput_ne _ _ _ hq, hput_ne _ _ _ hq]
def hisD (n : Nat) : List Sh := [.inr (.inl (2, [.inr (some (some (n + 1))), .inr none, .inr none])), .inr (.inr [some (n + 2), some (n + 26), some (n + 50), some (n + 74), some (n + 98), some (n + 122), some (n + 146), some (n + 170)])] ++ staD (n + 2) ++ staD (n + 26) ++ staD (n + 50) ++ staD (n + 74) ++ staD (n + 98) ++ staD (n + 122) ++ staD (n + 146) ++ staD (n + 170)
def hisH (n : Nat) (h : HP) : HP := stH (n + 170) (stH (n + 146) (stH (n + 122) (stH (n + 98) (stH (n + 74) (stH (n + 50) (stH (n + 26) (stH (n + 2) h)))))))
theorem hisH_z {n m : Nat} {h : HP} (hz : ∀ q, n ≤ q → ∀ k, h q k = 0) (hm : n + 194 ≤ m) : ∀ q, m ≤ q → ∀ k, hisH n h q k = 0 := fun q hq k => by
  unfold hisH
  rw [stH_o (by omega), stH_o (by omega), stH_o (by omega), stH_o (by omega), stH_o (by omega), stH_o (by omega), stH_o (by omega), stH_o (by omega)]; exact hz q (by omega) k
theorem sb_hisD {k m : Nat} (h : k + 194 ≤ m) : (hisD k).all (shB m) = true := by
  unfold hisD
  exact all_app (all_app (all_app (all_app (all_app (all_app (all_app (all_app (by simp [shB]; omega) (sb_staD (by omega))) (sb_staD (by omega))) (sb_staD (by omega))) (sb_staD (by omega))) (sb_staD (by omega))) (sb_staD (by omega))) (sb_staD (by omega))) (sb_staD (by omega))
def inpD (n : Nat) : List Sh := [.inr (.inl (3, [.inr (some (some (n + 1))), .inr (some (some (n + 2))), .inr none, .inr none, .inr none, .inr none])), .inl (1, 40)] ++ tabD 4 2 (n + 2)
theorem sb_inpD {k m : Nat} (h : k + 4 ≤ m) : (inpD k).all (shB m) = true := by
  unfold inpD
  exact all_app (by simp [shB]; omega) (sb_tabD (by omega))
def booD (n : Nat) : List Sh := .inr (.inl (7, [.inr (some (some (n + 1))), .inr (some (some (n + 25))), .inr (some (some (n + 49))), .inr (some (some (n + 243))), .inr (some (some (n + 247))), .inr (some (some (n + 249))), .inr (some (some (n + 251))), .inr none, .inr none, .inr none])) :: (staD (n + 1) ++ staD (n + 25) ++ hisD (n + 49) ++ inpD (n + 243) ++ tabD 1 8 (n + 247) ++ tabD 1 12 (n + 249) ++ tabD 1 24 (n + 251))
theorem tabD_len (R C n : Nat) : (tabD R C n).length = 2 := rfl
theorem staD_len (n : Nat) : (staD n).length = 24 := rfl
theorem inpD_len (n : Nat) : (inpD n).length = 4 := rfl
theorem hisD_len (n : Nat) : (hisD n).length = 194 := by
  unfold hisD
  simp only [List.length_append, staD_len, List.length_cons, List.length_nil]
theorem all_cons {x : Sh} {B : List Sh} {m : Nat} (ha : [x].all (shB m) = true) (hb : B.all (shB m) = true) : (x :: B).all (shB m) = true := all_app (A := [x]) ha hb
def booH (n : Nat) (h : HP) : HP := hput (hput (hput (hisH (n + 49) (stH (n + 25) (stH (n + 1) h))) (n + 243) 5 1) n 8 (-1)) n 9 (-1)
def modD (n : Nat) : List Sh := [.inr (.inl (8, [.inr (some (some (n + 1))), .inr (some (some (n + 2))), .inr none, .inr (some (some (n + 3))), .inr none, .inr none, .inr none, .inr none, .inr (some (some (n + 4))), .inr none, .inr none, .inr none, .inr none, .inr none, .inr (some (some (n + 5))), .inr (some (some (n + 6))), .inr (some (some (n + 7))), .inr (some (some (n + 8))), .inr (some (some (n + 9)))])), .inl (0, 1032), .inl (0, 8256), .inl (0, 1032), .inl (1, 40), .inl (0, 4), .inl (0, 4), .inl (0, 12), .inl (0, 8), .inl (0, 24)]
def modH (n : Nat) (h : HP) : HP := hput (hput (hput (hput h n 7 (-1)) (n + 1) 5 850) (n + 1) 6 850) (n + 1) 7 750

theorem nI_max0 {n : Nat} (h : n < 2147483648) : (if (0 : Int32) < nI n then nI n else 0) = nI n := by
  split
  · rfl
  · rename_i q
    rcases Nat.eq_zero_or_pos n with z | z
    · rw [z]; rfl
    · exact absurd (nI_lt (a := 0) z h) q

def inH (n : Nat) (h : HP) : HP := hput h n 5 1
theorem inH_z {n m : Nat} {h : HP} (hz : ∀ q, n ≤ q → ∀ k, h q k = 0) (hm : n + 4 ≤ m) : ∀ q, m ≤ q → ∀ k, inH n h q k = 0 := fun q hq k => by
  unfold inH
  rw [hput_ne _ _ _ (by omega)]; exact hz q (by omega) k
