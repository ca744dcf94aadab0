/-! calls of nest mates that may throw: from the printed laws (kit/laws/EXCEPTIONS.to-paste) -/
section
variable {p : Program} {l : Launch} {e : Env} {R : Room} {s : State} {m : MethodId} {args : Array Value} {below : List Frame} {meth : Method} {c : Code} {H : Heap} {locs : List Loc} {cells slots : Nat}
variable {T : State}
theorem vx_callVN (X : Stand p l e R s m args below meth c T locs cells slots) (hexec : p.tables.exec = Jvm.exec) {own C : String} {index : Nat} {host : String} {y : MethodName} {bytes : ByteArray} {maxL : Nat} {ret : Option FieldType}
    (hown : s.vm.findClass own = some m.cls) (hlink : (Cond.methodLinkNest own index y host).before args s = true) (hinst : (Cond.instanceMethod y).before args s = true) (hsel : (Cond.selects C y y).before args s = true)
    (hcode : (Cond.code y bytes maxL ret).before args s = true) (hy : y.cls ≠ "java/lang/invoke/MethodHandle" ∧ y.cls ≠ "java/lang/invoke/VarHandle")
    {W : Nat} {Pre : Pt → Array Value → Prop} {Post : Pt → Array Value → Option Value → Pt → Prop} {PostX : Pt → Array Value → Addr → Pt → Prop} (hK : vx_Back l R p e below s args y 3 W Pre Post PostX)
    {b : Addr} {cellB : Cell} (hcell : T.heap[b]? = some cellB) (hobj : cellB.vm.isStatics = false) (hcls : s.vm.findClass C = some cellB.cls)
    {g : JFrame} (hg : g.method = m) (hsize : g.locals.size = c.maxLocals) {argsL rest : List Value} (hlen : ∀ sig, parseMethodDescriptor y.desc = some sig → argsL.length = sig.parameters.length)
    (hstack : g.stack = argsL.reverse ++ .ref b :: rest) (hW : 2 * g.monitorRoom + (rest.map fun v => v.category).sum ≤ W) (hdg : decode c.code g.pc = .ok (.invokevirtual index, 3))
    (hpre : ∀ vm₁, s.WarmedH vm₁ → Pre ⟨T.setVm vm₁, locs, cells, slots⟩ (Value.ref b :: argsL).toArray) :
    (∃ (v : Option Value) (vm₁ : Vm) (B : Pt), s.WarmedH vm₁ ∧ Stand p l e R s m args below meth c B.U B.locs B.cells B.slots ∧ Post ⟨T.setVm vm₁, locs, cells, slots⟩ (Value.ref b :: argsL).toArray v B ∧
      ∀ target, Steps p.tables e below (B.U.setTop { g with pc := g.pc + 3, stack := v.toList ++ rest }) target → Steps p.tables e below (T.setTop g) target) ∨
    (∃ (q : Addr) (vm₁ : Vm) (B : Pt), s.WarmedH vm₁ ∧ Stand p l e R s m args below meth c B.U B.locs B.cells B.slots ∧ PostX ⟨T.setVm vm₁, locs, cells, slots⟩ (Value.ref b :: argsL).toArray q B ∧
      Steps p.tables e below (T.setTop g) ((B.U.setTop { g with stack := rest }).pushFrame (.throwing q))) := by
  obtain ⟨mk, methM, hnamed, hmethM, hstM, habM⟩ := Cond.instanceMethod_spec hinst
  obtain ⟨methM', cM, hmethM', -, -, -, -, -, -, hsigM⟩ := Cond.code_spec hnamed hcode
  cases hmethM.symm.trans hmethM'
  obtain ⟨c2, r2, m2, q1, q2, q3, q4, kP, hkP, hkPi⟩ := Cond.selects_spec hsel
  cases hcls.symm.trans q1
  cases (State.methodFound?_of_named hnamed hy).symm.trans q2
  cases hnamed.symm.trans q3
  have hselP : selectMethod e.platform s.vm cellB.cls mk = .method mk := by rw [Launch.admits_selectMethod X.admits]; exact q4
  obtain ⟨vm₁, X₁, hstep₁⟩ := X.invokevirtualNest hexec hown hlink hnamed hmethM hstM hkP hkPi hy (a := b) (cell := cellB) hcell
    (fun z h => by rw [h] at hobj; cases hobj) hselP hmethM habM hkP hkPi (g := g) hg (argsL := argsL) (rest := rest) (hlen _ hsigM) hstack hdg
  rcases hK m meth c ⟨T.setVm vm₁, locs, cells, slots⟩ { g with stack := rest } (.invokevirtual index) mk (Value.ref b :: argsL).toArray X₁ hg hsize hdg hW (X₁.named hnamed) (hpre vm₁ X₁.warmed) with ⟨v, B, X', hpost, hsteps⟩ | ⟨q, B, X', hpost, hsteps⟩
  · exact Or.inl ⟨v, vm₁, B, X₁.warmed, X', hpost, fun target h => hstep₁ _ fun acts => by rw [doInvoke_state]; exact hsteps.trans h⟩
  · exact Or.inr ⟨q, vm₁, B, X₁.warmed, X', hpost, hstep₁ _ fun acts => by rw [doInvoke_state]; exact hsteps⟩
theorem vx_callSN (X : Stand p l e R s m args below meth c T locs cells slots) (hexec : p.tables.exec = Jvm.exec) {own : String} {index : Nat} {host : String} {y : MethodName} {bytes : ByteArray} {maxL : Nat} {ret : Option FieldType}
    (hown : s.vm.findClass own = some m.cls) (hlink : (Cond.methodLinkNest own index y host).before args s = true) (hstat : (Cond.static y).before args s = true) (hinit : (Cond.initialized y.cls).before args s = true)
    (hcode : (Cond.code y bytes maxL ret).before args s = true) (hy : y.cls ≠ "java/lang/invoke/MethodHandle" ∧ y.cls ≠ "java/lang/invoke/VarHandle")
    {W : Nat} {Pre : Pt → Array Value → Prop} {Post : Pt → Array Value → Option Value → Pt → Prop} {PostX : Pt → Array Value → Addr → Pt → Prop} (hK : vx_Back l R p e below s args y 3 W Pre Post PostX)
    {g : JFrame} (hg : g.method = m) (hsize : g.locals.size = c.maxLocals) {argsL rest : List Value} (hlen : ∀ sig, parseMethodDescriptor y.desc = some sig → argsL.length = sig.parameters.length)
    (hstack : g.stack = argsL.reverse ++ rest) (hW : 2 * g.monitorRoom + (rest.map fun v => v.category).sum ≤ W) (hdg : decode c.code g.pc = .ok (.invokestatic index, 3))
    (hpre : ∀ vm₁, s.WarmedH vm₁ → Pre ⟨T.setVm vm₁, locs, cells, slots⟩ argsL.toArray) :
    (∃ (v : Option Value) (vm₁ : Vm) (B : Pt), s.WarmedH vm₁ ∧ Stand p l e R s m args below meth c B.U B.locs B.cells B.slots ∧ Post ⟨T.setVm vm₁, locs, cells, slots⟩ argsL.toArray v B ∧
      ∀ target, Steps p.tables e below (B.U.setTop { g with pc := g.pc + 3, stack := v.toList ++ rest }) target → Steps p.tables e below (T.setTop g) target) ∨
    (∃ (q : Addr) (vm₁ : Vm) (B : Pt), s.WarmedH vm₁ ∧ Stand p l e R s m args below meth c B.U B.locs B.cells B.slots ∧ PostX ⟨T.setVm vm₁, locs, cells, slots⟩ argsL.toArray q B ∧
      Steps p.tables e below (T.setTop g) ((B.U.setTop { g with stack := rest }).pushFrame (.throwing q))) := by
  obtain ⟨mk, hnamed⟩ := Cond.code_named hcode
  obtain ⟨methM, cM, hmethM, -, -, -, -, -, -, hsigM⟩ := Cond.code_spec hnamed hcode
  have hstatic : methM.isStatic = true := Cond.static_spec hnamed hmethM hstat
  obtain ⟨kP, hkP, -⟩ := className_of_methodNamed hnamed
  have hinitP : kP.init = .initialized := Cond.initialized_spec (findClass_of_methodNamed hnamed) hkP hinit
  obtain ⟨vm₁, X₁, hstep₁⟩ := X.invokestaticNest hexec hown hlink hnamed hmethM hstatic hkP hinitP hy (g := g) hg (argsL := argsL) (rest := rest) (hlen _ hsigM) hstack hdg
  rcases hK m meth c ⟨T.setVm vm₁, locs, cells, slots⟩ { g with stack := rest } (.invokestatic index) mk argsL.toArray X₁ hg hsize hdg hW (X₁.named hnamed) (hpre vm₁ X₁.warmed) with ⟨v, B, X', hpost, hsteps⟩ | ⟨q, B, X', hpost, hsteps⟩
  · exact Or.inl ⟨v, vm₁, B, X₁.warmed, X', hpost, fun target h => hstep₁ _ fun acts => by rw [doInvoke_state]; exact hsteps.trans h⟩
  · exact Or.inr ⟨q, vm₁, B, X₁.warmed, X', hpost, hstep₁ _ fun acts => by rw [doInvoke_state]; exact hsteps⟩
theorem vx_runVN {y : MethodName} {bytes cc : ByteArray} {maxL nL mc ms n index : Nat} {ret : Option FieldType} {ws : List Cond} {rm : Room} {Pc : Array Value → State → Prop} {Qc : Array Value → State → Outcome → State → Prop} {XC : String → State → State → Prop} {free : Addr → Prop} {Ts : List Cond} {own C host : String} {b : Addr} {As rest : List Value} {g : JFrame}
    (S : CallFix p m c cc nL s args Ts own) (hM : vx_Met l y ws rm Pc Qc XC mc ms free) (cw : va_CN R s args own index y host bytes maxL ret ws rm mc ms n ∧ (Cond.instanceMethod y).before args s = true ∧ (Cond.selects C y y).before args s = true) (hp : PreV s H C b Pc As)
    (hg : g.method = m) (hn : As.length = n) (hsize : g.locals.size = nL) (hstack : g.stack = As.reverse ++ .ref b :: rest) (hW : 2 * g.monitorRoom + (rest.map fun v => v.category).sum ≤ 8) (hdg : decode cc g.pc = .ok (.invokevirtual index, 3)) (hf : cells + mc ≤ R.cells ∧ slots + ms ≤ R.slots) :
    vx_Run p l e R s m args below meth c H locs cells slots mc ms g rest (Qc (Value.ref b :: As).toArray) XC free := by
  obtain ⟨⟨⟨hrc, hrs, hfr, hlo, hws, hcw⟩, hcode, hini, hy, hlen, hl⟩, hx1, hx2⟩ := cw
  have hK : vx_Back l R p e below s args y 3 8 (PreOf R mc ms Pc) (PostOf Qc mc ms free) (vx_Post XC mc ms free) := vx_back (bytes := bytes) (maxL := maxL) (ret := ret) hM hp.1 hrc hrs hfr hlo hws hcw (fun a' U hW => word_at hW (Or.inl (by first | rfl | simp [Cond.onTables, Cond.keeps, Cond.steady])) hini)
  obtain ⟨hx, hb, hml, ho, -⟩ := S
  obtain ⟨-, ⟨cellB, hcB, hoB, hclB⟩, hPc⟩ := hp
  intro T hT X
  rcases vx_callVN X hx (C := C) (bytes := bytes) (maxL := maxL) (ret := ret) ho hl hx1 hx2 hcode hy hK (by rw [hT]; exact hcB) hoB hclB hg (hsize.trans hml.symm) (argsL := As) (rest := rest) (fun sig h => hn.trans (hlen sig h)) hstack hW (by rw [hb]; exact hdg)
    (fun vm₁ hW₁ => ⟨hf.1, hf.2, hPc (T.setVm vm₁) hT hW₁⟩) with ⟨v, vm₁, ⟨U', l2, c2, s2⟩, hW₁, X', ⟨g', mk, t, L, e1, e2, hq, h1, hL, h2, h3⟩, st⟩ | ⟨q, vm₁, ⟨U', l2, c2, s2⟩, hW₁, X', ⟨g', mk, t, L, E, ce, e1, e2, hq, hce, hcv, hcl, h1, hL, h2, h3⟩, st⟩
  · dsimp only [Pt.U, Pt.locs, Pt.cells, Pt.slots] at X' e1 e2 h1 h2 h3 st
    subst h1; subst h2; subst h3
    exact Or.inl ⟨v, (T.setVm vm₁).calling g' mk (Value.ref b :: As).toArray, t, U', L, hT, X', hL, e1, e2, hq, st⟩
  · dsimp only [Pt.U, Pt.locs, Pt.cells, Pt.slots] at X' e1 e2 h1 h2 h3 st hcl
    subst h1; subst h2; subst h3
    exact Or.inr ⟨q, (T.setVm vm₁).calling g' mk (Value.ref b :: As).toArray, t, U', L, E, ce, hT, X', hL, e1, e2, hq, hce, hcv, vx_cls hW₁ hcl, st⟩
theorem vx_runSN {y : MethodName} {bytes cc : ByteArray} {maxL nL mc ms n index : Nat} {ret : Option FieldType} {ws : List Cond} {rm : Room} {Pc : Array Value → State → Prop} {Qc : Array Value → State → Outcome → State → Prop} {XC : String → State → State → Prop} {free : Addr → Prop} {Ts : List Cond} {own host : String} {As rest : List Value} {g : JFrame}
    (S : CallFix p m c cc nL s args Ts own) (hM : vx_Met l y ws rm Pc Qc XC mc ms free) (cw : va_CN R s args own index y host bytes maxL ret ws rm mc ms n ∧ (Cond.static y).before args s = true ∧ True) (hp : PreS s H Pc As)
    (hg : g.method = m) (hn : As.length = n) (hsize : g.locals.size = nL) (hstack : g.stack = As.reverse ++ rest) (hW : 2 * g.monitorRoom + (rest.map fun v => v.category).sum ≤ 8) (hdg : decode cc g.pc = .ok (.invokestatic index, 3)) (hf : cells + mc ≤ R.cells ∧ slots + ms ≤ R.slots) :
    vx_Run p l e R s m args below meth c H locs cells slots mc ms g rest (Qc As.toArray) XC free := by
  obtain ⟨⟨⟨hrc, hrs, hfr, hlo, hws, hcw⟩, hcode, hini, hy, hlen, hl⟩, hx1, hx2⟩ := cw
  have hK : vx_Back l R p e below s args y 3 8 (PreOf R mc ms Pc) (PostOf Qc mc ms free) (vx_Post XC mc ms free) := vx_back (bytes := bytes) (maxL := maxL) (ret := ret) hM hp.1 hrc hrs hfr hlo hws hcw (fun a' U hW => word_at hW (Or.inl (by first | rfl | simp [Cond.onTables, Cond.keeps, Cond.steady])) hini)
  obtain ⟨hx, hb, hml, ho, -⟩ := S
  have hPc := hp.2
  intro T hT X
  rcases vx_callSN X hx (bytes := bytes) (maxL := maxL) (ret := ret) ho hl hx1 hini hcode hy hK hg (hsize.trans hml.symm) (argsL := As) (rest := rest) (fun sig h => hn.trans (hlen sig h)) hstack hW (by rw [hb]; exact hdg)
    (fun vm₁ hW₁ => ⟨hf.1, hf.2, hPc (T.setVm vm₁) hT hW₁⟩) with ⟨v, vm₁, ⟨U', l2, c2, s2⟩, hW₁, X', ⟨g', mk, t, L, e1, e2, hq, h1, hL, h2, h3⟩, st⟩ | ⟨q, vm₁, ⟨U', l2, c2, s2⟩, hW₁, X', ⟨g', mk, t, L, E, ce, e1, e2, hq, hce, hcv, hcl, h1, hL, h2, h3⟩, st⟩
  · dsimp only [Pt.U, Pt.locs, Pt.cells, Pt.slots] at X' e1 e2 h1 h2 h3 st
    subst h1; subst h2; subst h3
    exact Or.inl ⟨v, (T.setVm vm₁).calling g' mk As.toArray, t, U', L, hT, X', hL, e1, e2, hq, st⟩
  · dsimp only [Pt.U, Pt.locs, Pt.cells, Pt.slots] at X' e1 e2 h1 h2 h3 st hcl
    subst h1; subst h2; subst h3
    exact Or.inr ⟨q, (T.setVm vm₁).calling g' mk As.toArray, t, U', L, E, ce, hT, X', hL, e1, e2, hq, hce, hcv, vx_cls hW₁ hcl, st⟩
end
/-! WORDS: those of the tables that stay true, handed to every method alike; those of nests and casts beside -/
def gUW : List Cond := lw_tbl.filter goodWord
def gNest (w : Cond) : Bool := match w with
  | .fieldLinkNest .. => true
  | .methodLinkNest .. => true
  | .castable .. => true
  | .declares _ => true
  | _ => false
def gNL : List Cond := lw_tbl.filter gNest
theorem gmem {w : Cond} (h : w ∈ lw_tbl) (g : goodWord w = true) : w ∈ gUW := List.mem_filter.mpr ⟨h, g⟩
theorem gnmem {w : Cond} (h : w ∈ lw_tbl) (g : gNest w = true) : w ∈ gNL := List.mem_filter.mpr ⟨h, g⟩
theorem gUW_good : ∀ w ∈ gUW, goodWord w = true := fun w h => (List.mem_filter.mp h).2
theorem gUW_in {w' : List Cond} (h : ∀ w ∈ w', w ∈ gUW) : GoodIn gUW w' := fun w hw => ⟨h w hw, good_of_word (gUW_good w (h w hw))⟩
theorem gNL_on {w : Cond} (hw : w ∈ gNL) : w.onTables = true := by
  have h := (List.mem_filter.mp hw).2
  cases w <;> first | rfl | (simp [gNest] at h)
theorem gNL_warm {s U : State} (hW : s.WarmedH U.vm) {w : Cond} (hw : w ∈ gNL) (h : va_Nw w s) : va_Nw w U := by
  have h1 := (List.mem_filter.mp hw).2
  cases w <;> first | exact va_Nw.warmF hW h | exact va_Nw.warmM hW h | exact va_Nw.warmC hW h | exact va_Nw.warmD hW h | (simp [gNest] at h1)
def gSt : List (String × Nat × String) := [("BottlingBook", 336, "a number is out of range"), ("BottlingBook", 77, "there is no room for a harvest"), ("BottlingBook", 102, "the text has an error"), ("BottlingBook", 108, "a number of quarters is 0"), ("BottlingBook", 345, "refused"), ("BottlingBook", 340, "there is no such number"), ("BottlingBook", 167, "there is no such part"), ("BottlingBook", 183, "there is no such index"), ("BottlingBook", 343, "the second grape does not fit the first one"), ("BottlingBook", 246, "no reason was kept"), ("BottlingBook", 249, "there is no room for a customer"), ("BottlingBook", 318, "the input is full"), ("BottlingBook", 324, "no text had an error"), ("BottlingBook", 326, "there is no change to undo"), ("BottlingBook", 334, "nothing was saved")]
/-! THE PURE SIDE: a world is a fixed row of shapes at addresses, and one function of ints -/
abbrev HP : Type := Nat → Nat → Int32
def hput (h : HP) (p k : Nat) (v : Int32) : HP := fun q j => if q = p then (if j = k then v else h q j) else h q j
/-- a field: a number that never changes, a number, null, a place -/
abbrev Fk : Type := Int32 ⊕ Option (Option Nat)
/-- arrays of numbers (kind, length); objects (which, fields); arrays of places -/
abbrev Sh : Type := (Nat × Nat) ⊕ ((Nat × List Fk) ⊕ List (Option Nat))
def k1000 : UInt64 := 4652007308841189376
def gAr (t : Nat) (f : Nat → Int32) : (Nat → Int32) ⊕ (Nat → Int64) ⊕ (Nat → UInt32) ⊕ (Nat → UInt64) ⊕ (Nat → Option Nat) :=
  match t with
  | 2 => .inr (.inl fun i => (f i).toInt64)
  | 3 => .inr (.inr (.inr (.inl fun i => FP.ddiv (FP.i2d (f i)) k1000)))
  | _ => .inl f
def gFv (ad : Nat → Nat) (x : Int32) (o : Fk) : Value :=
  match o with
  | .inl v => .int v
  | .inr none => .int x
  | .inr (some none) => .null
  | .inr (some (some q)) => .ref (ad q)
def gEnt (ad : Nat → Nat) (tyC : Nat → ClassId) (f : Nat → Int32) (sh : Sh) : va_E :=
  match sh with
  | .inl a => .inl (tyC a.1, a.2, gAr a.1 f)
  | .inr (.inl o) => .inr (o.1, o.2.mapIdx fun k x => gFv ad (f k) x)
  | .inr (.inr qs) => .inl (tyC 4, qs.length, .inr (.inr (.inr (.inr fun i => (qs[i]?.join).map ad))))
def gW (ad : Nat → Nat) (tyC : Nat → ClassId) (S : List Sh) (h : HP) : va_W := S.mapIdx fun p sh => (ad p, gEnt ad tyC (h p) sh)
theorem gW_at {ad : Nat → Nat} {tyC : Nat → ClassId} {S : List Sh} {h : HP} {p : Nat} {sh : Sh} (hS : S[p]? = some sh) : (gW ad tyC S h)[p]? = some (ad p, gEnt ad tyC (h p) sh) := by
  unfold gW; rw [List.getElem?_mapIdx, hS]; rfl
theorem gW_inv {ad : Nat → Nat} {tyC : Nat → ClassId} {S : List Sh} {h : HP} {p : Nat} {x : Nat × va_E} (hx : (gW ad tyC S h)[p]? = some x) : ∃ sh, S[p]? = some sh ∧ x = (ad p, gEnt ad tyC (h p) sh) := by
  unfold gW at hx; rw [List.getElem?_mapIdx] at hx
  cases hS : S[p]? with
  | none => rw [hS] at hx; cases hx
  | some sh => rw [hS] at hx; exact ⟨sh, rfl, (Option.some.inj hx).symm⟩
theorem gW_set {ad : Nat → Nat} {tyC : Nat → ClassId} {S : List Sh} {h h' : HP} {p : Nat} {sh : Sh} (hS : S[p]? = some sh) (hh : ∀ q, q ≠ p → h' q = h q) : (gW ad tyC S h).set p (ad p, gEnt ad tyC (h' p) sh) = gW ad tyC S h' := by
  apply List.ext_getElem?
  intro j
  by_cases hj : j = p
  · subst hj
    rw [gW_at hS, List.getElem?_set_self]
    exact (List.getElem?_eq_some_iff.mp (gW_at (ad := ad) (tyC := tyC) (h := h) hS)).1
  · rw [List.getElem?_set_ne (Ne.symm hj)]
    unfold gW; rw [List.getElem?_mapIdx, List.getElem?_mapIdx, hh j hj]
theorem gW_setS {ad : Nat → Nat} {tyC : Nat → ClassId} {S : List Sh} {h : HP} {p : Nat} {sh' : Sh} (hp : p < S.length) : (gW ad tyC S h).set p (ad p, gEnt ad tyC (h p) sh') = gW ad tyC (S.set p sh') h := by
  apply List.ext_getElem?
  intro j
  by_cases hj : j = p
  · subst hj
    rw [gW_at (S := S.set j sh') (sh := sh') (by rw [List.getElem?_set_self hp]), List.getElem?_set_self (by unfold gW; simpa using hp)]
  · rw [List.getElem?_set_ne (Ne.symm hj)]
    unfold gW; rw [List.getElem?_mapIdx, List.getElem?_mapIdx, List.getElem?_set_ne (Ne.symm hj)]
theorem hput_self (h : HP) (p k : Nat) (v : Int32) : (hput h p k v) p = upd (h p) k v := by
  funext j; simp [hput, upd]
theorem hput_ne (h : HP) {p q : Nat} (k : Nat) (v : Int32) (hq : q ≠ p) : (hput h p k v) q = h q := by
  funext j; simp [hput, hq]
theorem gAr_0 (f : Nat → Int32) : gAr 0 f = .inl f := rfl
theorem gAr_1 (f : Nat → Int32) : gAr 1 f = .inl f := rfl
theorem gFs_int {ad : Nat → Nat} {f : Nat → Int32} {fs : List Fk} {k : Nat} (hk : fs[k]? = some (.inr none)) : (fs.mapIdx fun k x => gFv ad (f k) x)[k]? = some (.int (f k)) := by
  rw [List.getElem?_mapIdx, hk]; rfl
theorem gFs_con {ad : Nat → Nat} {f : Nat → Int32} {fs : List Fk} {k : Nat} {v : Int32} (hk : fs[k]? = some (.inl v)) : (fs.mapIdx fun k x => gFv ad (f k) x)[k]? = some (.int v) := by
  rw [List.getElem?_mapIdx, hk]; rfl
theorem gFs_ref {ad : Nat → Nat} {f : Nat → Int32} {fs : List Fk} {k q : Nat} (hk : fs[k]? = some (.inr (some (some q)))) : (fs.mapIdx fun k x => gFv ad (f k) x)[k]? = some (.ref (ad q)) := by
  rw [List.getElem?_mapIdx, hk]; rfl
theorem gFs_put {ad : Nat → Nat} {f : Nat → Int32} {fs : List Fk} {k : Nat} {v : Int32} (hk : fs[k]? = some (.inr none)) : (fs.mapIdx fun k x => gFv ad (f k) x).set k (.int v) = (fs.mapIdx fun j x => gFv ad (upd f k v j) x) := by
  apply List.ext_getElem?
  intro j
  by_cases hj : j = k
  · subst hj
    have hl : j < fs.length := (List.getElem?_eq_some_iff.mp hk).1
    rw [List.getElem?_set_self (by simpa using hl), List.getElem?_mapIdx, hk]
    simp [gFv, upd]
  · rw [List.getElem?_set_ne (Ne.symm hj), List.getElem?_mapIdx, List.getElem?_mapIdx]
    simp [upd, hj]
theorem gFs_putR {ad : Nat → Nat} {f : Nat → Int32} {fs : List Fk} {k q : Nat} (hk : k < fs.length) : (fs.mapIdx fun k x => gFv ad (f k) x).set k (.ref (ad q)) = ((fs.set k (.inr (some (some q)))).mapIdx fun j x => gFv ad (f j) x) := by
  apply List.ext_getElem?
  intro j
  by_cases hj : j = k
  · subst hj
    rw [List.getElem?_set_self (by simpa using hk), List.getElem?_mapIdx, List.getElem?_set_self hk]
    rfl
  · rw [List.getElem?_set_ne (Ne.symm hj), List.getElem?_mapIdx, List.getElem?_mapIdx, List.getElem?_set_ne (Ne.symm hj)]
/-- the places a method may change: its world's, and what it makes -/
def gA (ad : Nat → Nat) (S : List Sh) (sz : Nat) : Nat → Prop := fun q => (∃ k, k < S.length ∧ q = ad k) ∨ sz ≤ q
/-- locals by their places -/
def gL (ls : Array Slot) (nL : Nat) (L : List (Option Value)) : Prop := ls.size = nL ∧ lv_wf ls ∧ ∀ (i : Nat) (v : Value), L[i]? = some (some v) → ls[i]? = some (.val v)
def gLs (L : List (Option Value)) : List (Nat × Value) := (List.range L.length).filterMap fun i => (L[i]?.join).map fun v => (i, v)
theorem gLs_mem {L : List (Option Value)} {q : Nat × Value} : q ∈ gLs L ↔ L[q.1]? = some (some q.2) := by
  unfold gLs
  rw [List.mem_filterMap]
  constructor
  · rintro ⟨i, -, hi⟩
    cases h : L[i]? with
    | none => rw [h] at hi; cases hi
    | some o =>
      rw [h] at hi
      cases o with
      | none => cases hi
      | some v => cases hi; exact h
  · intro h
    refine ⟨q.1, List.mem_range.mpr (List.getElem?_eq_some_iff.mp h).1, ?_⟩
    rw [h]; rfl
theorem gL_has {ls : Array Slot} {nL : Nat} {L : List (Option Value)} (h : gL ls nL L) : lv_has ls nL (gLs L) := ⟨h.1, h.2.1, fun q hq => h.2.2 q.1 q.2 (gLs_mem.mp hq)⟩
/-- a store at i leaves no half of a long behind -/
def gOk (L : List (Option Value)) (i : Nat) : Bool := match i with
  | 0 => true
  | j + 1 => match L[j]? with
    | some (some w) => w.category != 2
    | _ => true
theorem gL_put {ls' : Array Slot} {nL i : Nat} {v : Value} {L : List (Option Value)} (hok : gOk L i = true) (h : lv_has ls' nL ((i, v) :: (gLs L).filter (fun q => !(q.1 == i) && !(q.1 + 1 == i && q.2.category == 2)))) : gL ls' nL (L.set i (some v)) := by
  refine ⟨h.1, h.2.1, fun j w hj => ?_⟩
  by_cases hji : j = i
  · subst hji
    have hl : j < (L.set j (some v)).length := (List.getElem?_eq_some_iff.mp hj).1
    rw [List.length_set] at hl
    rw [List.getElem?_set_self hl] at hj
    cases hj
    exact h.2.2 (j, v) List.mem_cons_self
  · rw [List.getElem?_set_ne (Ne.symm hji)] at hj
    refine h.2.2 (j, w) (List.mem_cons_of_mem _ (List.mem_filter.mpr ⟨gLs_mem.mpr hj, ?_⟩))
    simp only [Bool.and_eq_true, Bool.not_eq_true', beq_eq_false_iff_ne, ne_eq, Bool.and_eq_false_iff]
    refine ⟨hji, ?_⟩
    by_cases hj1 : j + 1 = i
    · subst hj1
      right
      simp only [gOk, hj] at hok
      simpa using hok
    · exact Or.inl hj1
theorem gL_drop {ls : Array Slot} {nL i : Nat} {L : List (Option Value)} (h : gL ls nL L) : gL ls nL (L.set i none) := by
  refine ⟨h.1, h.2.1, fun j w hj => ?_⟩
  by_cases hji : j = i
  · subst hji
    have hl : j < (L.set j none).length := (List.getElem?_eq_some_iff.mp hj).1
    rw [List.length_set] at hl
    rw [List.getElem?_set_self hl] at hj
    cases hj
  · rw [List.getElem?_set_ne (Ne.symm hji)] at hj
    exact h.2.2 j w hj
theorem gL_entry (vs : List Value) {n : Nat} (h1 : ∀ v ∈ vs, v.category = 1) (h : vs.length ≤ n) : gL ((lg_sl vs ++ List.replicate (n - (lg_sl vs).length) Slot.unset).toArray) n (vs.map some ++ List.replicate (n - vs.length) none) := by
  have hcat : ∀ (vs : List Value), (∀ v ∈ vs, v.category = 1) → (lg_sl vs).length = vs.length ∧ ∀ (j i : Nat) (v : Value), vs[i]? = some v → (j + i, v) ∈ lv_args j vs := by
    intro vs
    induction vs with
    | nil => intro _; exact ⟨rfl, fun j i v h => by simp at h⟩
    | cons a l ih =>
      intro hc
      obtain ⟨i1, i2⟩ := ih (fun v hv => hc v (List.mem_cons_of_mem _ hv))
      have ha := hc a List.mem_cons_self
      refine ⟨?_, fun j i v hv => ?_⟩
      · have e : lg_sl (a :: l) = lg_sl [a] ++ lg_sl l := by simp [lg_sl]
        have e1 : (lg_sl [a]).length = 1 := by
          cases a <;> simp_all [lg_sl, Value.category]
        rw [e, List.length_append, i1, e1, List.length_cons]; omega
      · unfold lv_args
        have hn : ¬ a.category = 2 := by omega
        rw [if_neg hn]
        cases i with
        | zero => simp at hv; subst hv; exact List.mem_cons_self
        | succ i =>
          have := i2 (j + 1) i v (by simpa using hv)
          refine List.mem_cons_of_mem _ ?_
          rw [show j + (i + 1) = j + 1 + i by omega]; exact this
  obtain ⟨c1, c2⟩ := hcat vs h1
  obtain ⟨e1, e2, e3⟩ := lv_entry vs (n := n) (by rw [c1]; exact h)
  refine ⟨e1, e2, fun i v hv => ?_⟩
  by_cases hi : i < vs.length
  · rw [List.getElem?_append_left (by simpa using hi), List.getElem?_map] at hv
    cases hx : vs[i]? with
    | none => rw [hx] at hv; cases hv
    | some w =>
      rw [hx] at hv
      have hwv : w = v := by simpa using hv
      subst hwv
      exact e3 (i, w) (by have := c2 0 i w hx; rwa [Nat.zero_add] at this)
  · rw [List.getElem?_append_right (by simpa using hi)] at hv
    have := List.eq_of_mem_replicate (List.mem_of_getElem? hv)
    cases this
/-! THE JUDGEMENT: from this point of a method, over this world, the machine comes to the method's end -/
abbrev GC : Type := va_G × ((Nat → ClassId) × (Nat → Addr))
abbrev gT (tyC : Nat → ClassId) : List (ClassId × FieldType) := [(tyC 0, .int), (tyC 1, .char), (tyC 2, .long), (tyC 3, .double), (tyC 4, .object RX5)]
def gE (G : GC) (A : Nat → Prop) (U : State) (H : Heap) : Prop :=
  va_K G.1 vwCl (gT G.2.1) U ∧ (∀ w ∈ gNL, va_Nw w U) ∧ (∀ (k : Nat) (q : String × Nat × String), gSt[k]? = some q → vk_R q.1 q.2.1 q.2.2 (G.2.2 k) U) ∧
  vx_Zq Bundle.tN "UNASSIGNED_STACK" Bundle.steD A U H ∧ vx_Zq Bundle.tN "SUPPRESSED_SENTINEL" Bundle.listD A U H
abbrev gEnd : Type := Program → Env → State → MethodId → Array Value → List Frame → Method → Code → (Nat → Prop) → State → Prop
abbrev gCtx : Type := State → Array Value → Method → (Nat → Prop) → Prop
/-- what stands fixed while a method runs -/
def gF (cc : ByteArray) (own : String) (nL : Nat) (ret : Option FieldType) (hh : List (Nat × Nat × Nat × Nat)) (G : GC) (CX : gCtx) (p : Program) (s : State) (m : MethodId) (args : Array Value) (meth : Method) (c : Code) (A : Nat → Prop) : Prop :=
  CallFix p m c cc nL s args gUW own ∧ meth.sig.returnType = ret ∧ meth.locks = false ∧ c.exceptionTable.toList = tableOf hh ∧ (∀ q : Nat, s.heap.size ≤ q → A q) ∧ gE G A s s.heap ∧ CX s args meth A
def PW (l : Launch) (G : GC) (cc : ByteArray) (own : String) (nL : Nat) (ret : Option FieldType) (hh : List (Nat × Nat × Nat × Nat)) (R : Room) (CX : gCtx) (E : gEnd)
    (pc : Nat) (L : List (Option Value)) (st : List Value) (S : List Sh) (ad : Nat → Nat) (h : HP) (cells slots : Nat) : Prop :=
  ∀ (p : Program) (e : Env) (s : State) (m : MethodId) (args : Array Value) (below : List Frame) (meth : Method) (c : Code) (A : Nat → Prop) (H : Heap) (locs : List Loc) (ls : Array Slot),
    gF cc own nL ret hh G CX p s m args meth c A → va_P G.1 vwCl (gW ad G.2.1 S h) H → va_D A (gW ad G.2.1 S h) → va_S A s.heap H locs → gL ls nL L →
    W p l e R s m args below meth c H locs cells slots (E p e s m args below meth c A) (F0 m pc ls st)
/-- the same, where E is being thrown -/
def PX (l : Launch) (G : GC) (cc : ByteArray) (own : String) (nL : Nat) (ret : Option FieldType) (hh : List (Nat × Nat × Nat × Nat)) (R : Room) (CX : gCtx) (E : gEnd)
    (pc : Nat) (L : List (Option Value)) (st : List Value) (S : List Sh) (ad : Nat → Nat) (h : HP) (cells slots : Nat) (Ex : String) : Prop :=
  ∀ (p : Program) (e : Env) (s : State) (m : MethodId) (args : Array Value) (below : List Frame) (meth : Method) (c : Code) (A : Nat → Prop) (H : Heap) (locs : List Loc) (ls : Array Slot) (ce : Cell) (q : Addr),
    gF cc own nL ret hh G CX p s m args meth c A → va_P G.1 vwCl (gW ad G.2.1 S h) H → va_D A (gW ad G.2.1 S h) → va_S A s.heap H locs → gL ls nL L →
    H[q]? = some ce → ce.vm = .none → s.vm.findClass Ex = some ce.cls →
    vx_W p l e R s m args below meth c H locs cells slots (E p e s m args below meth c A) (F0 m pc ls st) q
section PWR
variable {l : Launch} {G : GC} {cc : ByteArray} {own : String} {nL : Nat} {ret : Option FieldType} {hh : List (Nat × Nat × Nat × Nat)} {R : Room} {CX : gCtx} {E : gEnd}
variable {pc : Nat} {L : List (Option Value)} {rest : List Value} {S : List Sh} {ad : Nat → Nat} {h : HP} {cells slots : Nat}
theorem PW.widen {st : List Value} {k n : Nat} (h1 : cells ≤ k) (h2 : slots ≤ n) (kk : PW l G cc own nL ret hh R CX E pc L st S ad h k n) : PW l G cc own nL ret hh R CX E pc L st S ad h cells slots := by
  intro p e s m args below meth c A H locs ls F hP hD hS hl
  exact W.widen h1 h2 (kk p e s m args below meth c A H locs ls F hP hD hS hl)

theorem pw_iconst {n : Int} {v : Int32} (hd : decode cc pc = .ok (.iconst n, 1)) (hv : Int32.ofInt n = v)
    (k : PW l G cc own nL ret hh R CX E (pc + 1) L (.int v :: rest) S ad h cells slots) : PW l G cc own nL ret hh R CX E pc L rest S ad h cells slots := by
  intro p e s m args below meth c A H locs ls F hP hD hS hl
  obtain ⟨⟨hx, hb, hml, hown, hts⟩, hr, hlk, htab, hA, hE, hcx⟩ := id F
  exact lv_iconst hx hb hd hv (k p e s m args below meth c A H locs ls F hP hD hS hl)
theorem pw_bipush {n : Int} {v : Int32} (hd : decode cc pc = .ok (.bipush n, 2)) (hv : (Int8.ofInt n).toInt32 = v)
    (k : PW l G cc own nL ret hh R CX E (pc + 2) L (.int v :: rest) S ad h cells slots) : PW l G cc own nL ret hh R CX E pc L rest S ad h cells slots := by
  intro p e s m args below meth c A H locs ls F hP hD hS hl
  obtain ⟨⟨hx, hb, hml, hown, hts⟩, hr, hlk, htab, hA, hE, hcx⟩ := id F
  exact lv_bipush hx hb hd hv (k p e s m args below meth c A H locs ls F hP hD hS hl)
theorem pw_sipush {n : Int} {v : Int32} (hd : decode cc pc = .ok (.sipush n, 3)) (hv : (Int16.ofInt n).toInt32 = v)
    (k : PW l G cc own nL ret hh R CX E (pc + 3) L (.int v :: rest) S ad h cells slots) : PW l G cc own nL ret hh R CX E pc L rest S ad h cells slots := by
  intro p e s m args below meth c A H locs ls F hP hD hS hl
  obtain ⟨⟨hx, hb, hml, hown, hts⟩, hr, hlk, htab, hA, hE, hcx⟩ := id F
  exact lv_sipush hx hb hd hv (k p e s m args below meth c A H locs ls F hP hD hS hl)
theorem pw_null  (hd : decode cc pc = .ok (.aconst_null, 1)) 
    (k : PW l G cc own nL ret hh R CX E (pc + 1) L (.null :: rest) S ad h cells slots) : PW l G cc own nL ret hh R CX E pc L rest S ad h cells slots := by
  intro p e s m args below meth c A H locs ls F hP hD hS hl
  obtain ⟨⟨hx, hb, hml, hown, hts⟩, hr, hlk, htab, hA, hE, hcx⟩ := id F
  exact lv_null hx hb hd (k p e s m args below meth c A H locs ls F hP hD hS hl)
theorem pw_iload_n {k : Fin 4} {x : Int32} (hd : decode cc pc = .ok (.iload_n k, 1)) (hv : L[(k : Nat)]? = some (some (.int x)))
    (k : PW l G cc own nL ret hh R CX E (pc + 1) L (.int x :: rest) S ad h cells slots) : PW l G cc own nL ret hh R CX E pc L rest S ad h cells slots := by
  intro p e s m args below meth c A H locs ls F hP hD hS hl
  obtain ⟨⟨hx, hb, hml, hown, hts⟩, hr, hlk, htab, hA, hE, hcx⟩ := id F
  exact lv_iload_n hx hb hd rfl (hl.2.2 _ _ hv) (k p e s m args below meth c A H locs ls F hP hD hS hl)
theorem pw_iload {i : Nat} {x : Int32} (hd : decode cc pc = .ok (.iload i, 2)) (hv : L[i]? = some (some (.int x)))
    (k : PW l G cc own nL ret hh R CX E (pc + 2) L (.int x :: rest) S ad h cells slots) : PW l G cc own nL ret hh R CX E pc L rest S ad h cells slots := by
  intro p e s m args below meth c A H locs ls F hP hD hS hl
  obtain ⟨⟨hx, hb, hml, hown, hts⟩, hr, hlk, htab, hA, hE, hcx⟩ := id F
  exact lv_iload hx hb hd (hl.2.2 _ _ hv) (k p e s m args below meth c A H locs ls F hP hD hS hl)
theorem pw_aload_n {k : Fin 4} {x : Nat} (hd : decode cc pc = .ok (.aload_n k, 1)) (hv : L[(k : Nat)]? = some (some (.ref x)))
    (k : PW l G cc own nL ret hh R CX E (pc + 1) L (.ref x :: rest) S ad h cells slots) : PW l G cc own nL ret hh R CX E pc L rest S ad h cells slots := by
  intro p e s m args below meth c A H locs ls F hP hD hS hl
  obtain ⟨⟨hx, hb, hml, hown, hts⟩, hr, hlk, htab, hA, hE, hcx⟩ := id F
  exact lv_aload_n hx hb hd rfl (hl.2.2 _ _ hv) (k p e s m args below meth c A H locs ls F hP hD hS hl)
theorem pw_aload {i : Nat} {x : Nat} (hd : decode cc pc = .ok (.aload i, 2)) (hv : L[i]? = some (some (.ref x)))
    (k : PW l G cc own nL ret hh R CX E (pc + 2) L (.ref x :: rest) S ad h cells slots) : PW l G cc own nL ret hh R CX E pc L rest S ad h cells slots := by
  intro p e s m args below meth c A H locs ls F hP hD hS hl
  obtain ⟨⟨hx, hb, hml, hown, hts⟩, hr, hlk, htab, hA, hE, hcx⟩ := id F
  exact lv_aload hx hb hd (hl.2.2 _ _ hv) (k p e s m args below meth c A H locs ls F hP hD hS hl)
theorem pw_istore_n {k : Fin 4} {x : Int32} (hd : decode cc pc = .ok (.istore_n k, 1)) (hn : (k : Nat) < nL) (hok : gOk L (k : Nat) = true)
    (k : PW l G cc own nL ret hh R CX E (pc + 1) (L.set (k : Nat) (some (.int x))) rest S ad h cells slots) : PW l G cc own nL ret hh R CX E pc L (.int x :: rest) S ad h cells slots := by
  intro p e s m args below meth c A H locs ls F hP hD hS hl
  obtain ⟨⟨hx, hb, hml, hown, hts⟩, hr, hlk, htab, hA, hE, hcx⟩ := id F
  exact lv_istore_n hx hb hd rfl (gL_has hl) hn rfl (fun ls1 h1 => k p e s m args below meth c A H locs ls1 F hP hD hS (gL_put hok h1))
theorem pw_istore {i : Nat} {x : Int32} (hd : decode cc pc = .ok (.istore i, 2)) (hn : i < nL) (hok : gOk L i = true)
    (k : PW l G cc own nL ret hh R CX E (pc + 2) (L.set i (some (.int x))) rest S ad h cells slots) : PW l G cc own nL ret hh R CX E pc L (.int x :: rest) S ad h cells slots := by
  intro p e s m args below meth c A H locs ls F hP hD hS hl
  obtain ⟨⟨hx, hb, hml, hown, hts⟩, hr, hlk, htab, hA, hE, hcx⟩ := id F
  exact lv_istore hx hb hd (gL_has hl) hn rfl (fun ls1 h1 => k p e s m args below meth c A H locs ls1 F hP hD hS (gL_put hok h1))
theorem pw_astore_n {k : Fin 4} {x : Nat} (hd : decode cc pc = .ok (.astore_n k, 1)) (hn : (k : Nat) < nL) (hok : gOk L (k : Nat) = true)
    (k : PW l G cc own nL ret hh R CX E (pc + 1) (L.set (k : Nat) (some (.ref x))) rest S ad h cells slots) : PW l G cc own nL ret hh R CX E pc L (.ref x :: rest) S ad h cells slots := by
  intro p e s m args below meth c A H locs ls F hP hD hS hl
  obtain ⟨⟨hx, hb, hml, hown, hts⟩, hr, hlk, htab, hA, hE, hcx⟩ := id F
  exact lv_astore_n hx hb hd rfl (gL_has hl) hn rfl (fun ls1 h1 => k p e s m args below meth c A H locs ls1 F hP hD hS (gL_put hok h1))
theorem pw_astore {i : Nat} {x : Nat} (hd : decode cc pc = .ok (.astore i, 2)) (hn : i < nL) (hok : gOk L i = true)
    (k : PW l G cc own nL ret hh R CX E (pc + 2) (L.set i (some (.ref x))) rest S ad h cells slots) : PW l G cc own nL ret hh R CX E pc L (.ref x :: rest) S ad h cells slots := by
  intro p e s m args below meth c A H locs ls F hP hD hS hl
  obtain ⟨⟨hx, hb, hml, hown, hts⟩, hr, hlk, htab, hA, hE, hcx⟩ := id F
  exact lv_astore hx hb hd (gL_has hl) hn rfl (fun ls1 h1 => k p e s m args below meth c A H locs ls1 F hP hD hS (gL_put hok h1))
theorem pw_iinc {i : Nat} {n : Int} {x d : Int32} (hd : decode cc pc = .ok (.iinc i n, 3)) (hv : L[i]? = some (some (.int x))) (hdv : Int32.ofInt n = d) (hn : i < nL) (hok : gOk L i = true)
    (k : PW l G cc own nL ret hh R CX E (pc + 3) (L.set i (some (.int (x + d)))) rest S ad h cells slots) : PW l G cc own nL ret hh R CX E pc L rest S ad h cells slots := by
  intro p e s m args below meth c A H locs ls F hP hD hS hl
  obtain ⟨⟨hx, hb, hml, hown, hts⟩, hr, hlk, htab, hA, hE, hcx⟩ := id F
  obtain ⟨j, hj⟩ := List.getElem?_of_mem (gLs_mem (q := (i, .int x)).mpr hv)
  exact lv_iinc hx hb hd (gL_has hl) hj (by rw [hdv]) hn rfl (fun ls1 h1 => k p e s m args below meth c A H locs ls1 F hP hD hS (gL_put hok h1))
theorem pw_iadd {x y : Int32} (hd : decode cc pc = .ok (.iadd, 1)) 
    (k : PW l G cc own nL ret hh R CX E (pc + 1) L (.int (x + y) :: rest) S ad h cells slots) : PW l G cc own nL ret hh R CX E pc L (.int y :: .int x :: rest) S ad h cells slots := by
  intro p e s m args below meth c A H locs ls F hP hD hS hl
  obtain ⟨⟨hx, hb, hml, hown, hts⟩, hr, hlk, htab, hA, hE, hcx⟩ := id F
  exact lv_iadd hx hb hd (k p e s m args below meth c A H locs ls F hP hD hS hl)
theorem pw_isub {x y : Int32} (hd : decode cc pc = .ok (.isub, 1)) 
    (k : PW l G cc own nL ret hh R CX E (pc + 1) L (.int (x - y) :: rest) S ad h cells slots) : PW l G cc own nL ret hh R CX E pc L (.int y :: .int x :: rest) S ad h cells slots := by
  intro p e s m args below meth c A H locs ls F hP hD hS hl
  obtain ⟨⟨hx, hb, hml, hown, hts⟩, hr, hlk, htab, hA, hE, hcx⟩ := id F
  exact lv_isub hx hb hd (k p e s m args below meth c A H locs ls F hP hD hS hl)
theorem pw_imul {x y : Int32} (hd : decode cc pc = .ok (.imul, 1)) 
    (k : PW l G cc own nL ret hh R CX E (pc + 1) L (.int (x * y) :: rest) S ad h cells slots) : PW l G cc own nL ret hh R CX E pc L (.int y :: .int x :: rest) S ad h cells slots := by
  intro p e s m args below meth c A H locs ls F hP hD hS hl
  obtain ⟨⟨hx, hb, hml, hown, hts⟩, hr, hlk, htab, hA, hE, hcx⟩ := id F
  exact lv_imul hx hb hd (k p e s m args below meth c A H locs ls F hP hD hS hl)
theorem pw_iand {x y : Int32} (hd : decode cc pc = .ok (.iand, 1)) 
    (k : PW l G cc own nL ret hh R CX E (pc + 1) L (.int (x &&& y) :: rest) S ad h cells slots) : PW l G cc own nL ret hh R CX E pc L (.int y :: .int x :: rest) S ad h cells slots := by
  intro p e s m args below meth c A H locs ls F hP hD hS hl
  obtain ⟨⟨hx, hb, hml, hown, hts⟩, hr, hlk, htab, hA, hE, hcx⟩ := id F
  exact lv_iand hx hb hd (k p e s m args below meth c A H locs ls F hP hD hS hl)
theorem pw_ior {x y : Int32} (hd : decode cc pc = .ok (.ior, 1)) 
    (k : PW l G cc own nL ret hh R CX E (pc + 1) L (.int (x ||| y) :: rest) S ad h cells slots) : PW l G cc own nL ret hh R CX E pc L (.int y :: .int x :: rest) S ad h cells slots := by
  intro p e s m args below meth c A H locs ls F hP hD hS hl
  obtain ⟨⟨hx, hb, hml, hown, hts⟩, hr, hlk, htab, hA, hE, hcx⟩ := id F
  exact lv_ior hx hb hd (k p e s m args below meth c A H locs ls F hP hD hS hl)
theorem pw_ishl {x y : Int32} (hd : decode cc pc = .ok (.ishl, 1)) 
    (k : PW l G cc own nL ret hh R CX E (pc + 1) L (.int (x <<< (y &&& 31)) :: rest) S ad h cells slots) : PW l G cc own nL ret hh R CX E pc L (.int y :: .int x :: rest) S ad h cells slots := by
  intro p e s m args below meth c A H locs ls F hP hD hS hl
  obtain ⟨⟨hx, hb, hml, hown, hts⟩, hr, hlk, htab, hA, hE, hcx⟩ := id F
  exact lv_ishl hx hb hd (k p e s m args below meth c A H locs ls F hP hD hS hl)
theorem pw_ishr {x y : Int32} (hd : decode cc pc = .ok (.ishr, 1)) 
    (k : PW l G cc own nL ret hh R CX E (pc + 1) L (.int (x >>> (y &&& 31)) :: rest) S ad h cells slots) : PW l G cc own nL ret hh R CX E pc L (.int y :: .int x :: rest) S ad h cells slots := by
  intro p e s m args below meth c A H locs ls F hP hD hS hl
  obtain ⟨⟨hx, hb, hml, hown, hts⟩, hr, hlk, htab, hA, hE, hcx⟩ := id F
  exact lv_ishr hx hb hd (k p e s m args below meth c A H locs ls F hP hD hS hl)
theorem pw_ixor {x y : Int32} (hd : decode cc pc = .ok (.ixor, 1)) 
    (k : PW l G cc own nL ret hh R CX E (pc + 1) L (.int (x ^^^ y) :: rest) S ad h cells slots) : PW l G cc own nL ret hh R CX E pc L (.int y :: .int x :: rest) S ad h cells slots := by
  intro p e s m args below meth c A H locs ls F hP hD hS hl
  obtain ⟨⟨hx, hb, hml, hown, hts⟩, hr, hlk, htab, hA, hE, hcx⟩ := id F
  exact lv_ixor hx hb hd (k p e s m args below meth c A H locs ls F hP hD hS hl)
theorem pw_iushr {x y : Int32} (hd : decode cc pc = .ok (.iushr, 1)) 
    (k : PW l G cc own nL ret hh R CX E (pc + 1) L (.int ((x.toUInt32 >>> (y.toUInt32 &&& Int32.toUInt32 31)).toInt32) :: rest) S ad h cells slots) : PW l G cc own nL ret hh R CX E pc L (.int y :: .int x :: rest) S ad h cells slots := by
  intro p e s m args below meth c A H locs ls F hP hD hS hl
  obtain ⟨⟨hx, hb, hml, hown, hts⟩, hr, hlk, htab, hA, hE, hcx⟩ := id F
  exact lv_iushr hx hb hd rfl (k p e s m args below meth c A H locs ls F hP hD hS hl)
theorem pw_idiv {x y : Int32} (hd : decode cc pc = .ok (.idiv, 1)) (hne : ¬ y = 0)
    (k : PW l G cc own nL ret hh R CX E (pc + 1) L (.int (x / y) :: rest) S ad h cells slots) : PW l G cc own nL ret hh R CX E pc L (.int y :: .int x :: rest) S ad h cells slots := by
  intro p e s m args below meth c A H locs ls F hP hD hS hl
  obtain ⟨⟨hx, hb, hml, hown, hts⟩, hr, hlk, htab, hA, hE, hcx⟩ := id F
  exact lv_idiv hx hb hd hne (k p e s m args below meth c A H locs ls F hP hD hS hl)
theorem pw_irem {x y : Int32} (hd : decode cc pc = .ok (.irem, 1)) (hne : ¬ y = 0)
    (k : PW l G cc own nL ret hh R CX E (pc + 1) L (.int (x - x / y * y) :: rest) S ad h cells slots) : PW l G cc own nL ret hh R CX E pc L (.int y :: .int x :: rest) S ad h cells slots := by
  intro p e s m args below meth c A H locs ls F hP hD hS hl
  obtain ⟨⟨hx, hb, hml, hown, hts⟩, hr, hlk, htab, hA, hE, hcx⟩ := id F
  exact lv_irem hx hb hd hne (k p e s m args below meth c A H locs ls F hP hD hS hl)
theorem pw_ineg {x : Int32} (hd : decode cc pc = .ok (.ineg, 1)) 
    (k : PW l G cc own nL ret hh R CX E (pc + 1) L (.int (-x) :: rest) S ad h cells slots) : PW l G cc own nL ret hh R CX E pc L (.int x :: rest) S ad h cells slots := by
  intro p e s m args below meth c A H locs ls F hP hD hS hl
  obtain ⟨⟨hx, hb, hml, hown, hts⟩, hr, hlk, htab, hA, hE, hcx⟩ := id F
  exact lv_ineg hx hb hd (k p e s m args below meth c A H locs ls F hP hD hS hl)
theorem pw_i2l {x : Int32} (hd : decode cc pc = .ok (.i2l, 1)) 
    (k : PW l G cc own nL ret hh R CX E (pc + 1) L (.long x.toInt64 :: rest) S ad h cells slots) : PW l G cc own nL ret hh R CX E pc L (.int x :: rest) S ad h cells slots := by
  intro p e s m args below meth c A H locs ls F hP hD hS hl
  obtain ⟨⟨hx, hb, hml, hown, hts⟩, hr, hlk, htab, hA, hE, hcx⟩ := id F
  exact lv_i2l hx hb hd rfl (k p e s m args below meth c A H locs ls F hP hD hS hl)
theorem pw_i2d {x : Int32} (hd : decode cc pc = .ok (.i2d, 1)) 
    (k : PW l G cc own nL ret hh R CX E (pc + 1) L (.double (FP.i2d x) :: rest) S ad h cells slots) : PW l G cc own nL ret hh R CX E pc L (.int x :: rest) S ad h cells slots := by
  intro p e s m args below meth c A H locs ls F hP hD hS hl
  obtain ⟨⟨hx, hb, hml, hown, hts⟩, hr, hlk, htab, hA, hE, hcx⟩ := id F
  exact lv_i2d hx hb hd (k p e s m args below meth c A H locs ls F hP hD hS hl)
theorem pw_dup {v : Value} (hd : decode cc pc = .ok (.dup, 1)) (hc : v.category = 1)
    (k : PW l G cc own nL ret hh R CX E (pc + 1) L (v :: v :: rest) S ad h cells slots) : PW l G cc own nL ret hh R CX E pc L (v :: rest) S ad h cells slots := by
  intro p e s m args below meth c A H locs ls F hP hD hS hl
  obtain ⟨⟨hx, hb, hml, hown, hts⟩, hr, hlk, htab, hA, hE, hcx⟩ := id F
  exact lv_dup hx hb hd hc (k p e s m args below meth c A H locs ls F hP hD hS hl)
theorem pw_dup2 {v w : Value} (hd : decode cc pc = .ok (.dup2, 1)) (hc : v.category = 1) (hc2 : w.category = 1)
    (k : PW l G cc own nL ret hh R CX E (pc + 1) L (v :: w :: v :: w :: rest) S ad h cells slots) : PW l G cc own nL ret hh R CX E pc L (v :: w :: rest) S ad h cells slots := by
  intro p e s m args below meth c A H locs ls F hP hD hS hl
  obtain ⟨⟨hx, hb, hml, hown, hts⟩, hr, hlk, htab, hA, hE, hcx⟩ := id F
  exact lv_dup2_11 hx hb hd hc hc2 (k p e s m args below meth c A H locs ls F hP hD hS hl)
theorem pw_i2c {x : Int32} (hd : decode cc pc = .ok (.i2c, 1)) 
    (k : PW l G cc own nL ret hh R CX E (pc + 1) L (.int ((x.toUInt32 % 65536).toInt32) :: rest) S ad h cells slots) : PW l G cc own nL ret hh R CX E pc L (.int x :: rest) S ad h cells slots := by
  intro p e s m args below meth c A H locs ls F hP hD hS hl
  obtain ⟨⟨hx, hb, hml, hown, hts⟩, hr, hlk, htab, hA, hE, hcx⟩ := id F
  exact lv_i2c hx hb hd rfl (k p e s m args below meth c A H locs ls F hP hD hS hl)
theorem pw_ddiv {x y : UInt64} (hd : decode cc pc = .ok (.ddiv, 1)) (hne : vf_n64 (FP.ddiv x y))
    (k : PW l G cc own nL ret hh R CX E (pc + 1) L (.double (FP.ddiv x y) :: rest) S ad h cells slots) : PW l G cc own nL ret hh R CX E pc L (.double y :: .double x :: rest) S ad h cells slots := by
  intro p e s m args below meth c A H locs ls F hP hD hS hl
  obtain ⟨⟨hx, hb, hml, hown, hts⟩, hr, hlk, htab, hA, hE, hcx⟩ := id F
  exact lv_ddiv hx hb hd hne (k p e s m args below meth c A H locs ls F hP hD hS hl)
theorem pw_goto {off : Int} {tgt : Nat} (hd : decode cc pc = .ok (.goto off, 3)) (ht : (pc : Int) + off = (tgt : Int)) (k : PW l G cc own nL ret hh R CX E tgt L rest S ad h cells slots) : PW l G cc own nL ret hh R CX E pc L rest S ad h cells slots := by
  intro p e s m args below meth c A H locs ls F hP hD hS hl
  obtain ⟨⟨hx, hb, hml, hown, hts⟩, hr, hlk, htab, hA, hE, hcx⟩ := id F
  exact lv_goto hx hb hd ht (k p e s m args below meth c A H locs ls F hP hD hS hl)
theorem pw_if_eq {x : Int32} {off : Int} {tgt : Nat} (hd : decode cc pc = .ok (.ifCond .eq off, 3)) (ht : (pc : Int) + off = (tgt : Int)) (kt : x = 0 → PW l G cc own nL ret hh R CX E tgt L rest S ad h cells slots) (kf : ¬ (x = 0) → PW l G cc own nL ret hh R CX E (pc + 3) L rest S ad h cells slots) : PW l G cc own nL ret hh R CX E pc L (.int x :: rest) S ad h cells slots := by
  intro p e s m args below meth c A H locs ls F hP hD hS hl
  obtain ⟨⟨hx, hb, hml, hown, hts⟩, hr, hlk, htab, hA, hE, hcx⟩ := id F
  exact lv_if_eq hx hb hd ht (fun q => kt q p e s m args below meth c A H locs ls F hP hD hS hl) (fun q => kf q p e s m args below meth c A H locs ls F hP hD hS hl)
theorem pw_if_ne {x : Int32} {off : Int} {tgt : Nat} (hd : decode cc pc = .ok (.ifCond .ne off, 3)) (ht : (pc : Int) + off = (tgt : Int)) (kt : ¬ x = 0 → PW l G cc own nL ret hh R CX E tgt L rest S ad h cells slots) (kf : x = 0 → PW l G cc own nL ret hh R CX E (pc + 3) L rest S ad h cells slots) : PW l G cc own nL ret hh R CX E pc L (.int x :: rest) S ad h cells slots := by
  intro p e s m args below meth c A H locs ls F hP hD hS hl
  obtain ⟨⟨hx, hb, hml, hown, hts⟩, hr, hlk, htab, hA, hE, hcx⟩ := id F
  exact lv_if_ne hx hb hd ht (fun q => kt q p e s m args below meth c A H locs ls F hP hD hS hl) (fun q => kf q p e s m args below meth c A H locs ls F hP hD hS hl)
theorem pw_if_lt {x : Int32} {off : Int} {tgt : Nat} (hd : decode cc pc = .ok (.ifCond .lt off, 3)) (ht : (pc : Int) + off = (tgt : Int)) (kt : x < 0 → PW l G cc own nL ret hh R CX E tgt L rest S ad h cells slots) (kf : ¬ (x < 0) → PW l G cc own nL ret hh R CX E (pc + 3) L rest S ad h cells slots) : PW l G cc own nL ret hh R CX E pc L (.int x :: rest) S ad h cells slots := by
  intro p e s m args below meth c A H locs ls F hP hD hS hl
  obtain ⟨⟨hx, hb, hml, hown, hts⟩, hr, hlk, htab, hA, hE, hcx⟩ := id F
  exact lv_if_lt hx hb hd ht (fun q => kt q p e s m args below meth c A H locs ls F hP hD hS hl) (fun q => kf q p e s m args below meth c A H locs ls F hP hD hS hl)
theorem pw_if_ge {x : Int32} {off : Int} {tgt : Nat} (hd : decode cc pc = .ok (.ifCond .ge off, 3)) (ht : (pc : Int) + off = (tgt : Int)) (kt : 0 ≤ x → PW l G cc own nL ret hh R CX E tgt L rest S ad h cells slots) (kf : ¬ (0 ≤ x) → PW l G cc own nL ret hh R CX E (pc + 3) L rest S ad h cells slots) : PW l G cc own nL ret hh R CX E pc L (.int x :: rest) S ad h cells slots := by
  intro p e s m args below meth c A H locs ls F hP hD hS hl
  obtain ⟨⟨hx, hb, hml, hown, hts⟩, hr, hlk, htab, hA, hE, hcx⟩ := id F
  exact lv_if_ge hx hb hd ht (fun q => kt q p e s m args below meth c A H locs ls F hP hD hS hl) (fun q => kf q p e s m args below meth c A H locs ls F hP hD hS hl)
theorem pw_if_gt {x : Int32} {off : Int} {tgt : Nat} (hd : decode cc pc = .ok (.ifCond .gt off, 3)) (ht : (pc : Int) + off = (tgt : Int)) (kt : 0 < x → PW l G cc own nL ret hh R CX E tgt L rest S ad h cells slots) (kf : ¬ (0 < x) → PW l G cc own nL ret hh R CX E (pc + 3) L rest S ad h cells slots) : PW l G cc own nL ret hh R CX E pc L (.int x :: rest) S ad h cells slots := by
  intro p e s m args below meth c A H locs ls F hP hD hS hl
  obtain ⟨⟨hx, hb, hml, hown, hts⟩, hr, hlk, htab, hA, hE, hcx⟩ := id F
  exact lv_if_gt hx hb hd ht (fun q => kt q p e s m args below meth c A H locs ls F hP hD hS hl) (fun q => kf q p e s m args below meth c A H locs ls F hP hD hS hl)
theorem pw_if_le {x : Int32} {off : Int} {tgt : Nat} (hd : decode cc pc = .ok (.ifCond .le off, 3)) (ht : (pc : Int) + off = (tgt : Int)) (kt : x ≤ 0 → PW l G cc own nL ret hh R CX E tgt L rest S ad h cells slots) (kf : ¬ (x ≤ 0) → PW l G cc own nL ret hh R CX E (pc + 3) L rest S ad h cells slots) : PW l G cc own nL ret hh R CX E pc L (.int x :: rest) S ad h cells slots := by
  intro p e s m args below meth c A H locs ls F hP hD hS hl
  obtain ⟨⟨hx, hb, hml, hown, hts⟩, hr, hlk, htab, hA, hE, hcx⟩ := id F
  exact lv_if_le hx hb hd ht (fun q => kt q p e s m args below meth c A H locs ls F hP hD hS hl) (fun q => kf q p e s m args below meth c A H locs ls F hP hD hS hl)
theorem pw_icmp_eq {x y : Int32} {off : Int} {tgt : Nat} (hd : decode cc pc = .ok (.if_icmp .eq off, 3)) (ht : (pc : Int) + off = (tgt : Int)) (kt : x = y → PW l G cc own nL ret hh R CX E tgt L rest S ad h cells slots) (kf : ¬ (x = y) → PW l G cc own nL ret hh R CX E (pc + 3) L rest S ad h cells slots) : PW l G cc own nL ret hh R CX E pc L (.int y :: .int x :: rest) S ad h cells slots := by
  intro p e s m args below meth c A H locs ls F hP hD hS hl
  obtain ⟨⟨hx, hb, hml, hown, hts⟩, hr, hlk, htab, hA, hE, hcx⟩ := id F
  exact lv_icmp_eq hx hb hd ht (fun q => kt q p e s m args below meth c A H locs ls F hP hD hS hl) (fun q => kf q p e s m args below meth c A H locs ls F hP hD hS hl)
theorem pw_icmp_ne {x y : Int32} {off : Int} {tgt : Nat} (hd : decode cc pc = .ok (.if_icmp .ne off, 3)) (ht : (pc : Int) + off = (tgt : Int)) (kt : ¬ x = y → PW l G cc own nL ret hh R CX E tgt L rest S ad h cells slots) (kf : x = y → PW l G cc own nL ret hh R CX E (pc + 3) L rest S ad h cells slots) : PW l G cc own nL ret hh R CX E pc L (.int y :: .int x :: rest) S ad h cells slots := by
  intro p e s m args below meth c A H locs ls F hP hD hS hl
  obtain ⟨⟨hx, hb, hml, hown, hts⟩, hr, hlk, htab, hA, hE, hcx⟩ := id F
  exact lv_icmp_ne hx hb hd ht (fun q => kt q p e s m args below meth c A H locs ls F hP hD hS hl) (fun q => kf q p e s m args below meth c A H locs ls F hP hD hS hl)
theorem pw_icmp_lt {x y : Int32} {off : Int} {tgt : Nat} (hd : decode cc pc = .ok (.if_icmp .lt off, 3)) (ht : (pc : Int) + off = (tgt : Int)) (kt : x < y → PW l G cc own nL ret hh R CX E tgt L rest S ad h cells slots) (kf : ¬ (x < y) → PW l G cc own nL ret hh R CX E (pc + 3) L rest S ad h cells slots) : PW l G cc own nL ret hh R CX E pc L (.int y :: .int x :: rest) S ad h cells slots := by
  intro p e s m args below meth c A H locs ls F hP hD hS hl
  obtain ⟨⟨hx, hb, hml, hown, hts⟩, hr, hlk, htab, hA, hE, hcx⟩ := id F
  exact lv_icmp_lt hx hb hd ht (fun q => kt q p e s m args below meth c A H locs ls F hP hD hS hl) (fun q => kf q p e s m args below meth c A H locs ls F hP hD hS hl)
theorem pw_icmp_ge {x y : Int32} {off : Int} {tgt : Nat} (hd : decode cc pc = .ok (.if_icmp .ge off, 3)) (ht : (pc : Int) + off = (tgt : Int)) (kt : y ≤ x → PW l G cc own nL ret hh R CX E tgt L rest S ad h cells slots) (kf : ¬ (y ≤ x) → PW l G cc own nL ret hh R CX E (pc + 3) L rest S ad h cells slots) : PW l G cc own nL ret hh R CX E pc L (.int y :: .int x :: rest) S ad h cells slots := by
  intro p e s m args below meth c A H locs ls F hP hD hS hl
  obtain ⟨⟨hx, hb, hml, hown, hts⟩, hr, hlk, htab, hA, hE, hcx⟩ := id F
  exact lv_icmp_ge hx hb hd ht (fun q => kt q p e s m args below meth c A H locs ls F hP hD hS hl) (fun q => kf q p e s m args below meth c A H locs ls F hP hD hS hl)
theorem pw_icmp_gt {x y : Int32} {off : Int} {tgt : Nat} (hd : decode cc pc = .ok (.if_icmp .gt off, 3)) (ht : (pc : Int) + off = (tgt : Int)) (kt : y < x → PW l G cc own nL ret hh R CX E tgt L rest S ad h cells slots) (kf : ¬ (y < x) → PW l G cc own nL ret hh R CX E (pc + 3) L rest S ad h cells slots) : PW l G cc own nL ret hh R CX E pc L (.int y :: .int x :: rest) S ad h cells slots := by
  intro p e s m args below meth c A H locs ls F hP hD hS hl
  obtain ⟨⟨hx, hb, hml, hown, hts⟩, hr, hlk, htab, hA, hE, hcx⟩ := id F
  exact lv_icmp_gt hx hb hd ht (fun q => kt q p e s m args below meth c A H locs ls F hP hD hS hl) (fun q => kf q p e s m args below meth c A H locs ls F hP hD hS hl)
theorem pw_icmp_le {x y : Int32} {off : Int} {tgt : Nat} (hd : decode cc pc = .ok (.if_icmp .le off, 3)) (ht : (pc : Int) + off = (tgt : Int)) (kt : x ≤ y → PW l G cc own nL ret hh R CX E tgt L rest S ad h cells slots) (kf : ¬ (x ≤ y) → PW l G cc own nL ret hh R CX E (pc + 3) L rest S ad h cells slots) : PW l G cc own nL ret hh R CX E pc L (.int y :: .int x :: rest) S ad h cells slots := by
  intro p e s m args below meth c A H locs ls F hP hD hS hl
  obtain ⟨⟨hx, hb, hml, hown, hts⟩, hr, hlk, htab, hA, hE, hcx⟩ := id F
  exact lv_icmp_le hx hb hd ht (fun q => kt q p e s m args below meth c A H locs ls F hP hD hS hl) (fun q => kf q p e s m args below meth c A H locs ls F hP hD hS hl)
theorem pw_tabIn {dflt lo hi : Int} {offs : Array Int} {len : Nat} {x : Int32} {off : Int} {tgt : Nat} (hd : decode cc pc = .ok (.tableswitch dflt lo hi offs, len)) (h1 : ¬ x.toInt < lo) (h2 : ¬ hi < x.toInt) (ho : offs[(x.toInt - lo).toNat]? = some off) (ht : (pc : Int) + off = (tgt : Int)) (k : PW l G cc own nL ret hh R CX E tgt L rest S ad h cells slots) : PW l G cc own nL ret hh R CX E pc L (.int x :: rest) S ad h cells slots := by
  intro p e s m args below meth c A H locs ls F hP hD hS hl
  obtain ⟨⟨hx, hb, hml, hown, hts⟩, hr, hlk, htab, hA, hE, hcx⟩ := id F
  exact lv_tableIn hx hb hd h1 h2 ho ht (k p e s m args below meth c A H locs ls F hP hD hS hl)
end PWR
/-! LINKS: what the tables say of an entry of a class's pool -/
def gLF (own : String) (idx ci k : Nat) : Prop := ∃ r : vw_C, vwCl[ci]? = some r ∧ (∀ w ∈ u_ws r.1 r.2.1 r.2.2, w ∈ gUW) ∧ k < r.2.2 ∧ (r.2.1 k).1 = r.1 ∧
  ((Cond.fieldLink own idx r.1 (r.2.1 k).2.1 (r.2.1 k).2.2.1 ∈ gUW) ∨ ∃ host, Cond.fieldLinkNest own idx r.1 (r.2.1 k).2.1 (r.2.1 k).2.2.1 host ∈ gNL)
/-- a class's fields: their types, their names apart; which is final, of which type -/
def gLP (ci k : Nat) (fin : Bool) (fty : FieldType) : Prop := ∃ (r : vw_C) (ty : Nat → FieldType), vwCl[ci]? = some r ∧ (∀ j, j < r.2.2 → parseFieldDescriptor (r.2.1 j).2.2.1 = some (ty j)) ∧
  (∀ a, a < r.2.2 → ∀ b, b < r.2.2 → a ≠ b → (r.2.1 a).2.1 ≠ (r.2.1 b).2.1) ∧ (r.2.1 k).2.2.2 = fin ∧ ty k = fty
section PWH
variable {l : Launch} {G : GC} {cc : ByteArray} {own : String} {nL : Nat} {ret : Option FieldType} {hh : List (Nat × Nat × Nat × Nat)} {R : Room} {CX : gCtx} {E : gEnd}
variable {pc : Nat} {L : List (Option Value)} {rest : List Value} {S : List Sh} {ad : Nat → Nat} {h : HP} {cells slots : Nat}
theorem pw_getf {idx ci k p : Nat} {fs : List Fk} (hd : decode cc pc = .ok (.getfield idx, 3)) (hl : gLF own idx ci k) (hS : S[p]? = some (.inr (.inl (ci, fs)))) {v : Value}
    (hv : (fs.mapIdx fun k x => gFv ad (h p k) x)[k]? = some v) (kk : PW l G cc own nL ret hh R CX E (pc + 3) L (v :: rest) S ad h cells slots) : PW l G cc own nL ret hh R CX E pc L (.ref (ad p) :: rest) S ad h cells slots := by
  intro p' e s m args below meth c A H locs ls F hP hD hS' hl'
  obtain ⟨⟨hx, hb, hml, hown, hts⟩, hr, hlk, htab, hA, hE, hcx⟩ := id F
  obtain ⟨⟨C, T, N⟩, hc, hin, hkN, hself, hlink⟩ := hl
  have hat := gW_at (ad := ad) (tyC := G.2.1) (h := h) hS
  have kk' := kk p' e s m args below meth c A H locs ls F hP hD hS' hl'
  rcases hlink with hlink | ⟨host, hlink⟩
  · exact va_get (ref := C) hx hb hts hin hown hE.1 hP p hat hc k hkN (hts _ hlink) (fun x hx9 => by rw [← (show (T k).1 = C from hself)]; exact hx9) hv hd kk'
  · exact va_getN (ref := C) hx hb hts hin hown hE.1 hP p hat hc k hkN (va_Nw.use rfl (hE.2.1 _ hlink)) (fun x hx9 => by rw [← (show (T k).1 = C from hself)]; exact hx9) hv hd kk'
/-- a number is read -/
theorem pw_geti {idx ci k p : Nat} {fs : List Fk} (hd : decode cc pc = .ok (.getfield idx, 3)) (hl : gLF own idx ci k) (hS : S[p]? = some (.inr (.inl (ci, fs)))) (hf : fs[k]? = some (.inr none))
    (kk : PW l G cc own nL ret hh R CX E (pc + 3) L (.int (h p k) :: rest) S ad h cells slots) : PW l G cc own nL ret hh R CX E pc L (.ref (ad p) :: rest) S ad h cells slots := pw_getf hd hl hS (gFs_int hf) kk
theorem pw_getr {idx ci k p q : Nat} {fs : List Fk} (hd : decode cc pc = .ok (.getfield idx, 3)) (hl : gLF own idx ci k) (hS : S[p]? = some (.inr (.inl (ci, fs)))) (hf : fs[k]? = some (.inr (some (some q))))
    (kk : PW l G cc own nL ret hh R CX E (pc + 3) L (.ref (ad q) :: rest) S ad h cells slots) : PW l G cc own nL ret hh R CX E pc L (.ref (ad p) :: rest) S ad h cells slots := pw_getf hd hl hS (gFs_ref hf) kk
theorem pw_getc {idx ci k p : Nat} {fs : List Fk} {x : Int32} (hd : decode cc pc = .ok (.getfield idx, 3)) (hl : gLF own idx ci k) (hS : S[p]? = some (.inr (.inl (ci, fs)))) (hf : fs[k]? = some (.inl x))
    (kk : PW l G cc own nL ret hh R CX E (pc + 3) L (.int x :: rest) S ad h cells slots) : PW l G cc own nL ret hh R CX E pc L (.ref (ad p) :: rest) S ad h cells slots := pw_getf hd hl hS (gFs_con hf) kk
theorem hput_W {p k : Nat} {fs : List Fk} {ci : Nat} {tyC : Nat → ClassId} {v : Int32} (hS : S[p]? = some (.inr (.inl (ci, fs)))) (hf : fs[k]? = some (.inr none)) :
    (gW ad tyC S h).set p (ad p, .inr (ci, (fs.mapIdx fun k x => gFv ad (h p k) x).set k (.int v))) = gW ad tyC S (hput h p k v) := by
  rw [gFs_put hf, ← gW_set (h' := hput h p k v) hS (fun q hq => hput_ne h k v hq), hput_self]; rfl
theorem pw_puti {idx ci k p : Nat} {fs : List Fk} {x : Int32} {fty : FieldType} (hd : decode cc pc = .ok (.putfield idx, 3)) (hl : gLF own idx ci k) (hp : gLP ci k false fty) (hS : S[p]? = some (.inr (.inl (ci, fs)))) (hf : fs[k]? = some (.inr none))
    (hn : narrow fty (.int x) = .int x) (hfit : fits fty (.int x) = true)
    (kk : PW l G cc own nL ret hh R CX E (pc + 3) L rest S ad (hput h p k x) cells slots) : PW l G cc own nL ret hh R CX E pc L (.int x :: .ref (ad p) :: rest) S ad h cells slots := by
  intro p' e s m args below meth c A H locs ls F hP hD hS' hl'
  obtain ⟨⟨hx, hb, hml, hown, hts⟩, hr, hlk, htab, hA, hE, hcx⟩ := id F
  obtain ⟨⟨C, T, N⟩, hc, hin, hkN, hself, hlink⟩ := hl
  obtain ⟨r2, ty, hc2, hty, hnm, hfin, hft⟩ := hp
  cases Option.some.inj (hc.symm.trans hc2)
  subst hft
  have hat := gW_at (ad := ad) (tyC := G.2.1) (h := h) hS
  have hlen : k < (fs.mapIdx fun k x => gFv ad (h p k) x).length := by simpa using (List.getElem?_eq_some_iff.mp hf).1
  have key : ∀ (H1 : Heap) (locs1 : List Loc), va_P G.1 vwCl ((gW ad G.2.1 S h).set p (ad p, .inr (ci, (fs.mapIdx fun k x => gFv ad (h p k) x).set k (.int x)))) H1 → va_D A ((gW ad G.2.1 S h).set p (ad p, .inr (ci, (fs.mapIdx fun k x => gFv ad (h p k) x).set k (.int x)))) → va_S A s.heap H1 locs1 →
      W p' l e R s m args below meth c H1 locs1 cells slots (E p' e s m args below meth c A) (F0 m (pc + 3) ls rest) := by
    intro H1 locs1 g1 g2 g3
    rw [hput_W hS hf] at g1 g2
    exact kk p' e s m args below meth c A H1 locs1 ls F g1 g2 g3 hl'
  rcases hlink with hlink | ⟨host, hlink⟩
  · exact va_put (ref := C) hx hb hts hin ty hty hnm hown hE.1 hP hD hS' p hat hc k hkN (hts _ hlink) (fun x hx9 => by rw [← (show (T k).1 = C from hself)]; exact hx9) hfin (hty k hkN) hn hfit hlen hd key
  · exact va_putN (ref := C) hx hb hts hin ty hty hnm hown hE.1 hP hD hS' p hat hc k hkN (va_Nw.use rfl (hE.2.1 _ hlink)) (fun x hx9 => by rw [← (show (T k).1 = C from hself)]; exact hx9) hfin (hty k hkN) hn hfit hlen hd key
/-- arrays of numbers -/
theorem pw_iaload {p n : Nat} {i : Int32} (hd : decode cc pc = .ok (.iaload, 1)) (hS : S[p]? = some (.inl (0, n))) (hin : vp_in i n)
    (kk : PW l G cc own nL ret hh R CX E (pc + 1) L (.int (h p i.toNatClampNeg) :: rest) S ad h cells slots) : PW l G cc own nL ret hh R CX E pc L (.int i :: .ref (ad p) :: rest) S ad h cells slots := by
  intro p' e s m args below meth c A H locs ls F hP hD hS' hl'
  obtain ⟨⟨hx, hb, hml, hown, hts⟩, hr, hlk, htab, hA, hE, hcx⟩ := id F
  exact va_iald hx hb hE.1 hP p 0 (gW_at hS) rfl hin hd (kk p' e s m args below meth c A H locs ls F hP hD hS' hl')
theorem pw_caload {p n : Nat} {i : Int32} (hd : decode cc pc = .ok (.caload, 1)) (hS : S[p]? = some (.inl (1, n))) (hin : vp_in i n)
    (kk : PW l G cc own nL ret hh R CX E (pc + 1) L (.int (h p i.toNatClampNeg) :: rest) S ad h cells slots) : PW l G cc own nL ret hh R CX E pc L (.int i :: .ref (ad p) :: rest) S ad h cells slots := by
  intro p' e s m args below meth c A H locs ls F hP hD hS' hl'
  obtain ⟨⟨hx, hb, hml, hown, hts⟩, hr, hlk, htab, hA, hE, hcx⟩ := id F
  exact va_cald hx hb hE.1 hP p 1 (gW_at hS) rfl hin hd (kk p' e s m args below meth c A H locs ls F hP hD hS' hl')
theorem pw_aaload {p q : Nat} {qs : List (Option Nat)} {i : Int32} (hd : decode cc pc = .ok (.aaload, 1)) (hS : S[p]? = some (.inr (.inr qs))) (hin : vp_in i qs.length) (hq : qs[i.toNatClampNeg]? = some (some q))
    (kk : PW l G cc own nL ret hh R CX E (pc + 1) L (.ref (ad q) :: rest) S ad h cells slots) : PW l G cc own nL ret hh R CX E pc L (.int i :: .ref (ad p) :: rest) S ad h cells slots := by
  intro p' e s m args below meth c A H locs ls F hP hD hS' hl'
  obtain ⟨⟨hx, hb, hml, hown, hts⟩, hr, hlk, htab, hA, hE, hcx⟩ := id F
  refine va_aldq (C := RX5) hx hb hE.1 hP p 4 (gW_at hS) rfl hin hd ?_
  have e9 : va_rf ((qs[i.toNatClampNeg]?.join).map ad) = .ref (ad q) := by rw [hq]; rfl
  rw [e9]
  exact kk p' e s m args below meth c A H locs ls F hP hD hS' hl'
theorem aput_W {p k t n : Nat} {tyC : Nat → ClassId} {v : Int32} (hS : S[p]? = some (.inl (t, n))) (ht : ∀ f, gAr t f = .inl f) :
    (gW ad tyC S h).set p (ad p, .inl (tyC t, n, .inl (upd (h p) k v))) = gW ad tyC S (hput h p k v) := by
  rw [← gW_set (h' := hput h p k v) hS (fun q hq => hput_ne h k v hq), hput_self]; simp [gEnt, ht]
theorem pw_iastore {p n : Nat} {i x : Int32} (hd : decode cc pc = .ok (.iastore, 1)) (hS : S[p]? = some (.inl (0, n))) (hin : vp_in i n)
    (kk : PW l G cc own nL ret hh R CX E (pc + 1) L rest S ad (hput h p i.toNatClampNeg x) cells slots) : PW l G cc own nL ret hh R CX E pc L (.int x :: .int i :: .ref (ad p) :: rest) S ad h cells slots := by
  intro p' e s m args below meth c A H locs ls F hP hD hS' hl'
  obtain ⟨⟨hx, hb, hml, hown, hts⟩, hr, hlk, htab, hA, hE, hcx⟩ := id F
  refine va_iast hx hb hE.1 hP hD hS' p 0 (gW_at hS) rfl hin hd (fun H1 locs1 g1 g2 g3 => ?_)
  rw [aput_W hS (fun _ => rfl)] at g1 g2
  exact kk p' e s m args below meth c A H1 locs1 ls F g1 g2 g3 hl'
theorem pw_castore {p n : Nat} {i x : Int32} (hd : decode cc pc = .ok (.castore, 1)) (hS : S[p]? = some (.inl (1, n))) (hin : vp_in i n)
    (kk : PW l G cc own nL ret hh R CX E (pc + 1) L rest S ad (hput h p i.toNatClampNeg (vp_nar .char x)) cells slots) : PW l G cc own nL ret hh R CX E pc L (.int x :: .int i :: .ref (ad p) :: rest) S ad h cells slots := by
  intro p' e s m args below meth c A H locs ls F hP hD hS' hl'
  obtain ⟨⟨hx, hb, hml, hown, hts⟩, hr, hlk, htab, hA, hE, hcx⟩ := id F
  refine va_cast hx hb hE.1 hP hD hS' p 1 (gW_at hS) rfl hin hd (fun H1 locs1 g1 g2 g3 => ?_)
  rw [aput_W hS (fun _ => rfl)] at g1 g2
  exact kk p' e s m args below meth c A H1 locs1 ls F g1 g2 g3 hl'
theorem pw_alen {p t n : Nat} (hd : decode cc pc = .ok (.arraylength, 1)) (hS : S[p]? = some (.inl (t, n))) (ht : t = 0 ∨ t = 1)
    (kk : PW l G cc own nL ret hh R CX E (pc + 1) L (.int (nI n) :: rest) S ad h cells slots) : PW l G cc own nL ret hh R CX E pc L (.ref (ad p) :: rest) S ad h cells slots := by
  intro p' e s m args below meth c A H locs ls F hP hD hS' hl'
  obtain ⟨⟨hx, hb, hml, hown, hts⟩, hr, hlk, htab, hA, hE, hcx⟩ := id F
  have kk' := kk p' e s m args below meth c A H locs ls F hP hD hS' hl'
  have hat := gW_at (ad := ad) (tyC := G.2.1) (h := h) hS
  rcases ht with rfl | rfl
  · exact va_alen hx hb hE.1 hP p 0 hat rfl rfl hd kk'
  · exact va_alen hx hb hE.1 hP p 1 hat rfl rfl hd kk'
end PWH
/-! CONTRACTS -/
theorem gE_same {G : GC} {A : Nat → Prop} {u U : State} {H : Heap} (hvm : U.vm = u.vm) (h : gE G A u H) : gE G A U H := by
  obtain ⟨h1, h2, h3, h4, h5⟩ := h
  have ha : u.vm.Alike U.vm := by rw [hvm]; exact Vm.Alike.refl _
  exact ⟨h1.moved ha, fun w hw => (h2 w hw).same (gNL_on hw) hvm.symm, fun k q hk => (h3 k q hk).same hvm, h4.moved ha, h5.moved ha⟩
theorem gE_on {G : GC} {A B : Nat → Prop} {s U : State} {H0 H : Heap} {locs : List Loc} (hW : s.WarmedH U.vm) (h : gE G A s H0) (hS : va_S A H0 H locs) (hAB : ∀ q, B q → A q) : gE G B U H := by
  obtain ⟨h1, h2, h3, h4, h5⟩ := h
  exact ⟨h1.moved hW.alike, fun w hw => gNL_warm hW hw (h2 w hw), fun k q hk => (h3 k q hk).warm hW, ((h4.moved hW.alike).kept hS.2.1).narrow hAB, ((h5.moved hW.alike).kept hS.2.1).narrow hAB⟩
def gPc (G : GC) (ad : Nat → Nat) (S : List Sh) (h : HP) (sz : Nat) (avs : List Value) : Array Value → State → Prop :=
  va_Pc avs (fun U => U.heap.size = sz ∧ gE G (gA ad S sz) U U.heap ∧ va_P G.1 vwCl (gW ad G.2.1 S h) U.heap ∧ va_D (gA ad S sz) (gW ad G.2.1 S h))
abbrev gPost : Type := Option Value → List Sh → (Nat → Nat) → HP → Prop
def gQ (G : GC) (A : Nat → Prop) (Q : gPost) : Array Value → State → Outcome → State → Prop := fun _ st o t =>
  ∃ (v : Option Value) (S' : List Sh) (ad' : Nat → Nat) (h' : HP), o = .returned v ∧ Q v S' ad' h' ∧ va_P G.1 vwCl (gW ad' G.2.1 S' h') t.heap ∧ va_D A (gW ad' G.2.1 S' h') ∧ va_F A st t
def gX (G : GC) (A : Nat → Prop) (S : List Sh) (ad : Nat → Nat) (X : String → HP → Prop) : String → State → State → Prop := fun Ex st t =>
  ∃ h' : HP, X Ex h' ∧ va_P G.1 vwCl (gW ad G.2.1 S h') t.heap ∧ va_F A st t
def PM (l : Launch) (G : GC) (y : MethodName) (ccw : Cond) (rm : Room) (avs : List Value) (S : List Sh) (ad : Nat → Nat) (h : HP) (Q : gPost) (X : String → HP → Prop) : Prop :=
  ∀ sz : Nat, vx_Met l y (ccw :: gUW) rm (gPc G ad S h sz avs) (gQ G (gA ad S sz) Q) (gX G (gA ad S sz) S ad X) rm.cells rm.slots (gA ad S sz)
theorem gPc_blind {G : GC} {ad : Nat → Nat} {S : List Sh} {h : HP} {sz : Nat} {avs : List Value} : FrameBlind (gPc G ad S h sz avs) := by
  intro a U g mk q
  obtain ⟨q0, q1, q2, q3, q4⟩ := q
  exact ⟨q0, q1, gE_same (u := U) rfl q2, q3, q4⟩
def gME (G : GC) (S : List Sh) (ad : Nat → Nat) (Q : gPost) (X : String → HP → Prop) (mc ms : Nat) : gEnd := fun p e s m args below meth c A => vx_MQ below (gQ G A Q) (gX G A S ad X) args s mc ms A
def gNm (nm : String) : gCtx := fun _ _ meth _ => meth.name = nm
theorem gW_D {ad : Nat → Nat} {tyC : Nat → ClassId} {S : List Sh} {h : HP} {A : Nat → Prop} {sz : Nat} (hD : va_D A (gW ad tyC S h)) : va_D (gA ad S sz) (gW ad tyC S h) := by
  refine hD.weaken (fun k q hk _ => ?_)
  obtain ⟨sh, h1, h2⟩ := gW_inv hk
  exact Or.inl ⟨k, (List.getElem?_eq_some_iff.mp h1).1, by rw [h2]⟩
theorem gA_of {ad : Nat → Nat} {tyC : Nat → ClassId} {S : List Sh} {h : HP} {A : Nat → Prop} {sz : Nat} (hD : va_D A (gW ad tyC S h)) (hA : ∀ q, sz ≤ q → A q) : ∀ q, gA ad S sz q → A q := by
  rintro q (⟨k, hk, rfl⟩ | hq)
  · exact hD.2 k _ (gW_at (List.getElem?_eq_getElem hk))
  · exact hA q hq
/-- a method's contract by its body's walk -/
theorem PM.of {l : Launch} {G : GC} {y : MethodName} {cc : ByteArray} {nL : Nat} {ret : Option FieldType} {rm : Room} {avs : List Value} {S : List Sh} {ad : Nat → Nat} {h : HP} {Q : gPost} {X : String → HP → Prop}
    (hy : plainName y.cls = true) (h1 : ∀ v ∈ avs, v.category = 1) (hn : avs.length ≤ nL)
    (k : PW l G cc y.cls nL ret [] rm (gNm y.name) (gME G S ad Q X rm.cells rm.slots) 0 (avs.map some ++ List.replicate (nL - avs.length) none) [] S ad h 0 0) :
    PM l G y (.code y cc nL ret) rm avs S ad h Q X := by
  intro sz
  refine vx_ofW (cc := cc) (maxL := nL) (ret := ret) hy rfl ?_
  intro p e s m args below meth c s₁ B hml htb hv
  obtain ⟨rfl, hsz, hE, hP, hD⟩ := hv
  subst hsz
  have hts : ∀ w ∈ gUW, w.before avs.toArray s = true := fun w hw => atoms_spec (ws := Cond.code y cc nL ret :: gUW) B.pre w (List.mem_cons_of_mem _ hw)
  have hl := gL_entry avs (n := nL) h1 hn
  rw [lg_entry_eq]
  have htb' : c.exceptionTable.toList = tableOf [] := by
    cases hc : c.exceptionTable.toList with
    | nil => rfl
    | cons a b => exact (htb a (by rw [hc]; exact List.mem_cons_self)).elim
  exact k p e s m _ below meth c (gA ad S s.heap.size) s.heap [] _ ⟨⟨B.exec, B.bytes, hml, findClass_of_methodNamed B.named, hts⟩, B.returns, B.notSynchronized, htb', fun q hq => Or.inr hq, hE, (name_of_methodNamed B.named B.method).1⟩ hP hD va_S.rf hl
/-- what the tables say of a method -/
def gMI (y : MethodName) (cc : ByteArray) (nL : Nat) (ret : Option FieldType) (n : Nat) : Prop := Cond.code y cc nL ret ∈ gUW ∧ Cond.initialized y.cls ∈ gUW ∧
  (y.cls ≠ "java/lang/invoke/MethodHandle" ∧ y.cls ≠ "java/lang/invoke/VarHandle" ∧ (parseMethodDescriptor y.desc).map (fun d => d.parameters.length) = some n)
def gMV (y : MethodName) : Prop := Cond.instanceMethod y ∈ gUW ∧ Cond.selects y.cls y y ∈ gUW
def gML (own : String) (idx : Nat) (y : MethodName) : Prop := Cond.methodLink own idx y ∈ gUW ∨ ∃ host, Cond.methodLinkNest own idx y host ∈ gNL
section PWC
variable {l : Launch} {G : GC} {cc : ByteArray} {own : String} {nL : Nat} {ret : Option FieldType} {hh : List (Nat × Nat × Nat × Nat)} {R : Room} {CX : gCtx} {E : gEnd}
variable {pc : Nat} {L : List (Option Value)} {rest : List Value} {S : List Sh} {ad : Nat → Nat} {h : HP} {cells slots : Nat}
theorem gRun {p : Program} {e : Env} {s : State} {m : MethodId} {args : Array Value} {below : List Frame} {meth : Method} {c : Code} {A : Nat → Prop} {H : Heap} {locs : List Loc} {ls : Array Slot} {st0 : List Value} {mc ms : Nat} {a : Array Value} {Q : gPost} {X : String → HP → Prop}
    (hr : vx_Run p l e R s m args below meth c H locs cells slots mc ms (F0 m pc ls st0) rest (gQ G (gA ad S H.size) Q a) (gX G (gA ad S H.size) S ad X) (gA ad S H.size))
    (F : gF cc own nL ret hh G CX p s m args meth c A) (hD : va_D A (gW ad G.2.1 S h)) (hS' : va_S A s.heap H locs) (hl' : gL ls nL L)
    (kx : ∀ Ex h', X Ex h' → PX l G cc own nL ret hh R CX E pc L rest S ad h' (cells + mc) (slots + ms) Ex)
    (kk : ∀ v S' ad' h', Q v S' ad' h' → PW l G cc own nL ret hh R CX E (pc + 3) L (v.toList ++ rest) S' ad' h' (cells + mc) (slots + ms)) :
    W p l e R s m args below meth c H locs cells slots (E p e s m args below meth c A) (F0 m pc ls st0) := by
  have hA := F.2.2.2.2.1
  have hA1 : ∀ q, gA ad S H.size q → A q := gA_of hD (fun q hq => hA q (Nat.le_trans hS'.1 hq))
  intro T hT XX
  rcases hr T hT XX with ⟨v, st₀, t, T', L1, h0, X', hL, e1, e2, ⟨v', S', ad', h', hv, hq, hP1, hD1, hF⟩, st⟩ | ⟨q, st₀, t, T', L1, Ex, ce, h0, X', hL, e1, e2, ⟨h', hx, hP1, hF⟩, hce, hcv, hcl, st⟩
  · cases hv
    obtain ⟨k1, k2, k3⟩ := vx_keep h0 e1 hS' (fun q _ hq => hA1 q hq) (fun q hq => hA1 q hq) hL hF
    obtain ⟨t2, a1, b1⟩ := kk v S' ad' h' hq p e s m args below meth c A T'.heap (locs ++ L1) ls F (by rw [e1]; exact hP1) (hD1.weaken (fun _ _ _ hz => hA1 _ hz)) k3 hl' T' rfl X'
    exact ⟨t2, st t2 a1, b1⟩
  · obtain ⟨k1, k2, k3⟩ := vx_keep h0 e1 hS' (fun q _ hq => hA1 q hq) (fun q hq => hA1 q hq) hL hF
    have hD9 : va_D A (gW ad G.2.1 S h') := by
      refine ⟨fun i j x y hi hj hxy => ?_, fun k x hk => ?_⟩
      · obtain ⟨s1, g1, g2⟩ := gW_inv hi
        obtain ⟨s2, g3, g4⟩ := gW_inv hj
        exact hD.1 i j _ _ (gW_at g1) (gW_at g3) (by rw [g2, g4] at hxy; exact hxy)
      · obtain ⟨s1, g1, g2⟩ := gW_inv hk
        have g9 := hD.2 k _ (gW_at (ad := ad) (tyC := G.2.1) (h := h) g1)
        rw [g2]; exact g9
    obtain ⟨t2, a1, b1⟩ := kx Ex h' hx p e s m args below meth c A T'.heap (locs ++ L1) ls ce q F (by rw [e1]; exact hP1) hD9 k3 hl' (by rw [e1]; exact hce) hcv hcl T' rfl X'
    exact ⟨t2, st.trans a1, b1⟩
theorem gPcU {s U : State} {args : Array Value} {m : MethodId} {meth : Method} {c : Code} {p : Program} {A : Nat → Prop} {H : Heap} {locs : List Loc} {avs : List Value} (F : gF cc own nL ret hh G CX p s m args meth c A) (hP : va_P G.1 vwCl (gW ad G.2.1 S h) H) (hD : va_D A (gW ad G.2.1 S h)) (hS' : va_S A s.heap H locs) (hU : U.heap = H) (hW : s.WarmedH U.vm) :
    gPc G ad S h H.size avs avs.toArray U := by
  have hA := F.2.2.2.2.1
  refine ⟨rfl, by rw [hU], ?_, by rw [hU]; exact hP, gW_D hD⟩
  rw [hU]
  exact gE_on hW F.2.2.2.2.2.1 hS' (gA_of hD (fun q hq => hA q (Nat.le_trans hS'.1 hq)))
/-- invokevirtual, direct or to a nest mate -/
theorem pw_callV {idx n b ci : Nat} {y : MethodName} {cc1 : ByteArray} {nL1 : Nat} {ret1 : Option FieldType} {rm : Room} {avs st0 : List Value} {Q : gPost} {X : String → HP → Prop} {fs : List Fk} {r : vw_C}
    (hd : decode cc pc = .ok (.invokevirtual idx, 3)) (hM : PM l G y (.code y cc1 nL1 ret1) rm (.ref (ad b) :: avs) S ad h Q X) (hi : gMI y cc1 nL1 ret1 n) (hv : gMV y) (hk : gML own idx y)
    (hS : S[b]? = some (.inr (.inl (ci, fs)))) (hcl : vwCl[ci]? = some r) (hr1 : r.1 = y.cls) (hn : avs.length = n)
    (hR : rm.frames + 1 ≤ R.frames ∧ 8 + (nL1 + 11) + rm.locals ≤ R.locals) (hcs : cells + rm.cells ≤ R.cells ∧ slots + rm.slots ≤ R.slots)
    (hst : st0 = avs.reverse ++ .ref (ad b) :: rest) (hW : (rest.map fun v => v.category).sum ≤ 8)
    (kx : ∀ Ex h', X Ex h' → PX l G cc own nL ret hh R CX E pc L rest S ad h' (cells + rm.cells) (slots + rm.slots) Ex)
    (kk : ∀ v S' ad' h', Q v S' ad' h' → PW l G cc own nL ret hh R CX E (pc + 3) L (v.toList ++ rest) S' ad' h' (cells + rm.cells) (slots + rm.slots)) :
    PW l G cc own nL ret hh R CX E pc L st0 S ad h cells slots := by
  intro p e s m args below meth c A H locs ls F hP hD hS' hl'
  obtain ⟨⟨hx, hb, hml, hown, hts⟩, hr, hlk, htab, hA, hE, hcx⟩ := id F
  obtain ⟨hi1, hi2, hi3⟩ := hi
  have hG : GoodIn gUW (Cond.code y cc1 nL1 ret1 :: gUW) := gUW_in (fun w hw => (List.mem_cons.mp hw).elim (fun q => q ▸ hi1) id)
  have hp : PreV s H y.cls (ad b) (gPc G ad S h H.size (.ref (ad b) :: avs)) avs := ⟨gPc_blind, hr1 ▸ va_recv hE.1 hP hcl (gW_at hS), fun U hU hW => gPcU F hP hD hS' hU hW⟩
  subst hst
  refine gRun (st0 := avs.reverse ++ .ref (ad b) :: rest) (a := (Value.ref (ad b) :: avs).toArray) ?_ F hD hS' hl' kx kk
  rcases hk with hk | ⟨host, hk⟩
  · exact vx_runV ⟨hx, hb, hml, hown, hts⟩ (hM H.size) ⟨callB_of n hts hG rfl rfl rfl (hts _ hi2) (hts _ hk) hi3 hR, hts _ hv.1, hts _ hv.2⟩ hp rfl hn hl'.1 rfl (by show 2 * 0 + _ ≤ 8; omega) hd hcs
  · exact vx_runVN ⟨hx, hb, hml, hown, hts⟩ (hM H.size) ⟨va_cnB n hts hG rfl rfl rfl (hE.2.1 _ hk) (hts _ hi2) hi3 hR, hts _ hv.1, hts _ hv.2⟩ hp rfl hn hl'.1 rfl (by show 2 * 0 + _ ≤ 8; omega) hd hcs
theorem pw_callS {idx n : Nat} {y : MethodName} {cc1 : ByteArray} {nL1 : Nat} {ret1 : Option FieldType} {rm : Room} {avs st0 : List Value} {Q : gPost} {X : String → HP → Prop}
    (hd : decode cc pc = .ok (.invokestatic idx, 3)) (hM : PM l G y (.code y cc1 nL1 ret1) rm avs S ad h Q X) (hi : gMI y cc1 nL1 ret1 n) (hv : Cond.static y ∈ gUW) (hk : gML own idx y) (hn : avs.length = n)
    (hR : rm.frames + 1 ≤ R.frames ∧ 8 + (nL1 + 11) + rm.locals ≤ R.locals) (hcs : cells + rm.cells ≤ R.cells ∧ slots + rm.slots ≤ R.slots)
    (hst : st0 = avs.reverse ++ rest) (hW : (rest.map fun v => v.category).sum ≤ 8)
    (kx : ∀ Ex h', X Ex h' → PX l G cc own nL ret hh R CX E pc L rest S ad h' (cells + rm.cells) (slots + rm.slots) Ex)
    (kk : ∀ v S' ad' h', Q v S' ad' h' → PW l G cc own nL ret hh R CX E (pc + 3) L (v.toList ++ rest) S' ad' h' (cells + rm.cells) (slots + rm.slots)) :
    PW l G cc own nL ret hh R CX E pc L st0 S ad h cells slots := by
  intro p e s m args below meth c A H locs ls F hP hD hS' hl'
  obtain ⟨⟨hx, hb, hml, hown, hts⟩, hr, hlk, htab, hA, hE, hcx⟩ := id F
  obtain ⟨hi1, hi2, hi3⟩ := hi
  have hG : GoodIn gUW (Cond.code y cc1 nL1 ret1 :: gUW) := gUW_in (fun w hw => (List.mem_cons.mp hw).elim (fun q => q ▸ hi1) id)
  have hp : PreS s H (gPc G ad S h H.size avs) avs := ⟨gPc_blind, fun U hU hW => gPcU F hP hD hS' hU hW⟩
  subst hst
  refine gRun (st0 := avs.reverse ++ rest) (a := avs.toArray) ?_ F hD hS' hl' kx kk
  rcases hk with hk | ⟨host, hk⟩
  · exact vx_runS ⟨hx, hb, hml, hown, hts⟩ (hM H.size) ⟨callB_of n hts hG rfl rfl rfl (hts _ hi2) (hts _ hk) hi3 hR, hts _ hv⟩ hp rfl hn hl'.1 rfl (by show 2 * 0 + _ ≤ 8; omega) hd hcs
  · exact vx_runSN ⟨hx, hb, hml, hown, hts⟩ (hM H.size) ⟨va_cnB n hts hG rfl rfl rfl (hE.2.1 _ hk) (hts _ hi2) hi3 hR, hts _ hv, trivial⟩ hp rfl hn hl'.1 rfl (by show 2 * 0 + _ ≤ 8; omega) hd hcs
/-- the ends -/
theorem pw_ireturn {v : Int32} {ty : FieldType} {S0 : List Sh} {ad0 : Nat → Nat} {Q : gPost} {X : String → HP → Prop} {mc ms : Nat} (hd : decode cc pc = .ok (.ireturn, 1)) (hret : ret = some ty) (hn : narrow ty (.int v) = .int v) (hc : cells ≤ mc) (hs : slots ≤ ms)
    (hq : Q (some (.int v)) S ad h) : PW l G cc own nL ret hh R CX (gME G S0 ad0 Q X mc ms) pc L [.int v] S ad h cells slots := by
  intro p e s m args below meth c A H locs ls F hP hD hS' hl'
  obtain ⟨⟨hx, hb, hml, hown, hts⟩, hr, hlk, htab, hA, hE, hcx⟩ := id F
  refine vx_ret (W.widen hc hs ?_)
  exact W.zret (ty := ty) hx hb (hr.trans hret) hn (fun t ht _ => ⟨_, S, ad, h, rfl, hq, by rw [ht]; exact hP, hD, hS'.F ht⟩) (fun q hq => hS'.2.2 q hq) hd hlk
theorem pw_return {S0 : List Sh} {ad0 : Nat → Nat} {Q : gPost} {X : String → HP → Prop} {mc ms : Nat} (hd : decode cc pc = .ok (.return_, 1)) (hret : ret = none) (hc : cells ≤ mc) (hs : slots ≤ ms)
    (hq : Q none S ad h) : PW l G cc own nL ret hh R CX (gME G S0 ad0 Q X mc ms) pc L [] S ad h cells slots := by
  intro p e s m args below meth c A H locs ls F hP hD hS' hl'
  obtain ⟨⟨hx, hb, hml, hown, hts⟩, hr, hlk, htab, hA, hE, hcx⟩ := id F
  refine vx_ret (W.widen hc hs ?_)
  exact W.vret hx hb (hr.trans hret) (fun t ht _ => ⟨_, S, ad, h, rfl, hq, by rw [ht]; exact hP, hD, hS'.F ht⟩) (fun q hq => hS'.2.2 q hq) hd hlk
theorem pw_areturn {q : Nat} {cn : String} {S0 : List Sh} {ad0 : Nat → Nat} {Q : gPost} {X : String → HP → Prop} {mc ms : Nat} (hd : decode cc pc = .ok (.areturn, 1)) (hret : ret = some (.object cn)) (hc : cells ≤ mc) (hs : slots ≤ ms)
    (hq : Q (some (.ref (ad q))) S ad h) : PW l G cc own nL ret hh R CX (gME G S0 ad0 Q X mc ms) pc L [.ref (ad q)] S ad h cells slots := by
  intro p e s m args below meth c A H locs ls F hP hD hS' hl'
  obtain ⟨⟨hx, hb, hml, hown, hts⟩, hr, hlk, htab, hA, hE, hcx⟩ := id F
  refine vx_ret (W.widen hc hs ?_)
  exact W.aret (rt := .object cn) hx hb (hr.trans hret) (Or.inl ⟨_, rfl⟩) (Or.inr ⟨_, rfl⟩) (fun t ht _ => ⟨_, S, ad, h, rfl, hq, by rw [ht]; exact hP, hD, hS'.F ht⟩) (fun q hq => hS'.2.2 q hq) hd hlk
theorem pw_dreturn {v : UInt64} {S0 : List Sh} {ad0 : Nat → Nat} {Q : gPost} {X : String → HP → Prop} {mc ms : Nat} (hd : decode cc pc = .ok (.dreturn, 1)) (hret : ret = some .double) (hc : cells ≤ mc) (hs : slots ≤ ms)
    (hq : Q (some (.double v)) S ad h) : PW l G cc own nL ret hh R CX (gME G S0 ad0 Q X mc ms) pc L [.double v] S ad h cells slots := by
  intro p e s m args below meth c A H locs ls F hP hD hS' hl'
  obtain ⟨⟨hx, hb, hml, hown, hts⟩, hr, hlk, htab, hA, hE, hcx⟩ := id F
  refine vx_ret (W.widen hc hs ?_)
  exact W.dret hx hb (hr.trans hret) (fun t ht _ => ⟨_, S, ad, h, rfl, hq, by rw [ht]; exact hP, hD, hS'.F ht⟩) (fun q hq => hS'.2.2 q hq) hd hlk
/-- what a callee throws leaves a method without handlers -/
theorem px_out {Ex : String} {st : List Value} {Q : gPost} {X : String → HP → Prop} {mc ms : Nat} (hhe : hh = []) (hX : X Ex h) (hc : cells ≤ mc) (hs : slots ≤ ms) : PX l G cc own nL ret hh R CX (gME G S ad Q X mc ms) pc L st S ad h cells slots Ex := by
  intro p e s m args below meth c A H locs ls ce q F hP hD hS' hl' hce hcv hcl
  obtain ⟨⟨hx, hb, hml, hown, hts⟩, hr, hlk, htab, hA, hE, hcx⟩ := id F
  subst hhe
  refine vx_outP hown hlk (fun z hz => ?_) hce hcv hcl (fun t ht ha => ⟨h, hX, by rw [ht]; exact hP, hS'.F ht⟩) (fun z hz => hS'.2.2 z hz) hc hs
  rw [htab] at hz; cases hz
end PWC
/-! more rows: throws, Math, copies -/
def gTW (own cls : String) (ik is ic k : Nat) (text : String) : Prop := Bundle.fit cls = true ∧ Cond.classLink own ik cls ∈ gUW ∧ Cond.initialized cls ∈ gUW ∧ gSt[k]? = some (own, is, text) ∧
  (∀ w ∈ vx_atS own ic cls ["java/lang/RuntimeException", "java/lang/Exception"], w ∈ gUW ∨ w ∈ gNL) ∧ (∀ w ∈ Cond.classLink own ik cls :: Cond.initialized cls :: vx_atS own ic cls ["java/lang/RuntimeException", "java/lang/Exception"], vx_ot w = true)
section PWM
variable {l : Launch} {G : GC} {cc : ByteArray} {own : String} {nL : Nat} {ret : Option FieldType} {hh : List (Nat × Nat × Nat × Nat)} {R : Room} {CX : gCtx} {E : gEnd}
variable {pc : Nat} {L : List (Option Value)} {rest : List Value} {S : List Sh} {ad : Nat → Nat} {h : HP} {cells slots : Nat}
theorem pw_throwS {cls text : String} {ik is ic k : Nat} {Q : gPost} {X : String → HP → Prop} {mc ms : Nat} (hl : l.stackTraces = false) (hT : gTW own cls ik is ic k text)
    (d0 : decode cc pc = .ok (.new ik, 3)) (d3 : decode cc (pc + 3) = .ok (.dup, 1)) (d4 : decode cc (pc + 4) = .ok (.ldc is, 2)) (d6 : decode cc (pc + 6) = .ok (.invokespecial ic, 3)) (d9 : decode cc (pc + 9) = .ok (.athrow, 1))
    (hhe : hh = []) (hR : 5 < R.frames ∧ (rest.map fun v => v.category).sum + 82 ≤ R.locals ∧ cells + 1 ≤ R.cells ∧ slots + 6 ≤ R.slots) (hX : X cls h) (hc : cells + 1 ≤ mc) (hs : slots + 6 ≤ ms) :
    PW l G cc own nL ret hh R CX (gME G S ad Q X mc ms) pc L rest S ad h cells slots := by
  intro p e s m args below meth c A H locs ls F hP hD hS' hl'
  obtain ⟨⟨hx, hb, hml, hown, hts⟩, hr, hlk, htab, hA, hE, hcx⟩ := id F
  obtain ⟨t1, t2, t3, t4, t5, t6⟩ := hT
  subst hhe
  refine vx_throwS (A := A) hx hb hl hown t1 (by decide +kernel) (hts _ t2) (hts _ t3) (hE.2.2.1 _ _ t4) (fun w hw => (t5 w hw).elim (fun q => hts _ q) (fun q => va_Nw.use (gNL_on q) (hE.2.1 _ q))) t6 hE.2.2.2.1 hE.2.2.2.2 hS' (by rw [hl'.1, hml]) d0 d3 d4 d6 d9
    (fun x hx9 => by rw [htab] at hx9; cases hx9) hR.1 hR.2.1 hR.2.2.1 hR.2.2.2 hlk (fun t _ hz hk => ⟨h, hX, hP.kept (fun k q hq => hk _ (hP k q hq).lt), ?_⟩) (fun z hz => hS'.2.2 z hz) hc hs
  exact ⟨Nat.le_trans hS'.1 hz, fun q h1 h2 => by rw [hk q (Nat.lt_of_lt_of_le h1 hS'.1)]; exact hS'.2.1 q h1 h2⟩
theorem pw_throwSW {cls text : String} {ik is ic k : Nat} {Q : gPost} {X : String → HP → Prop} {mc ms : Nat} (hl : l.stackTraces = false) (hT : gTW own cls ik is ic k text)
    (d0 : decode cc pc = .ok (.new ik, 3)) (d3 : decode cc (pc + 3) = .ok (.dup, 1)) (d4 : decode cc (pc + 4) = .ok (.ldc_w is, 3)) (d7 : decode cc (pc + 7) = .ok (.invokespecial ic, 3)) (d10 : decode cc (pc + 10) = .ok (.athrow, 1))
    (hhe : hh = []) (hR : 5 < R.frames ∧ (rest.map fun v => v.category).sum + 82 ≤ R.locals ∧ cells + 1 ≤ R.cells ∧ slots + 6 ≤ R.slots) (hX : X cls h) (hc : cells + 1 ≤ mc) (hs : slots + 6 ≤ ms) :
    PW l G cc own nL ret hh R CX (gME G S ad Q X mc ms) pc L rest S ad h cells slots := by
  intro p e s m args below meth c A H locs ls F hP hD hS' hl'
  obtain ⟨⟨hx, hb, hml, hown, hts⟩, hr, hlk, htab, hA, hE, hcx⟩ := id F
  obtain ⟨t1, t2, t3, t4, t5, t6⟩ := hT
  subst hhe
  refine vx_throwSW (A := A) hx hb hl hown t1 (by decide +kernel) (hts _ t2) (hts _ t3) (hE.2.2.1 _ _ t4) (fun w hw => (t5 w hw).elim (fun q => hts _ q) (fun q => va_Nw.use (gNL_on q) (hE.2.1 _ q))) t6 hE.2.2.2.1 hE.2.2.2.2 hS' (by rw [hl'.1, hml]) d0 d3 d4 d7 d10
    (fun x hx9 => by rw [htab] at hx9; cases hx9) hR.1 hR.2.1 hR.2.2.1 hR.2.2.2 hlk (fun t _ hz hk => ⟨h, hX, hP.kept (fun k q hq => hk _ (hP k q hq).lt), ?_⟩) (fun z hz => hS'.2.2 z hz) hc hs
  exact ⟨Nat.le_trans hS'.1 hz, fun q h1 h2 => by rw [hk q (Nat.lt_of_lt_of_le h1 hS'.1)]; exact hS'.2.1 q h1 h2⟩
def gMM (y : MethodName) (cc1 : ByteArray) : Prop := Cond.static y ∈ gUW ∧ Cond.initialized "java/lang/Math" ∈ gUW ∧ Cond.code y cc1 2 (some .int) ∈ gUW
theorem pw_max {idx : Nat} {x y : Int32} (hd : decode cc pc = .ok (.invokestatic idx, 3)) (hk : Cond.methodLink own idx Lib.Math.max.name ∈ gUW) (hw : Cond.static Lib.Math.max.name ∈ gUW ∧ Cond.initialized "java/lang/Math" ∈ gUW ∧ Cond.code Lib.Math.max.name Lib.Math.max.code 2 (some .int) ∈ gUW)
    (hR : 1 ≤ R.frames ∧ (rest.map fun v => v.category).sum + 13 ≤ R.locals ∧ cells ≤ R.cells ∧ slots ≤ R.slots)
    (k : PW l G cc own nL ret hh R CX E (pc + 3) L (.int (if x < y then y else x) :: rest) S ad h cells slots) : PW l G cc own nL ret hh R CX E pc L (.int y :: .int x :: rest) S ad h cells slots := by
  intro p e s m args below meth c A H locs ls F hP hD hS' hl'
  obtain ⟨⟨hx, hb, hml, hown, hts⟩, hr, hlk, htab, hA, hE, hcx⟩ := id F
  exact va_mmax hx hb (by rw [hml, hl'.1]) hown (hts _ hk) (hts _ hw.1) (hts _ hw.2.1) (hts _ hw.2.2) hR.1 hR.2.1 hR.2.2.1 hR.2.2.2 hd (k p e s m args below meth c A H locs ls F hP hD hS' hl')
theorem pw_min {idx : Nat} {x y : Int32} (hd : decode cc pc = .ok (.invokestatic idx, 3)) (hk : Cond.methodLink own idx Lib.Math.min.name ∈ gUW) (hw : Cond.static Lib.Math.min.name ∈ gUW ∧ Cond.initialized "java/lang/Math" ∈ gUW ∧ Cond.code Lib.Math.min.name Lib.Math.min.code 2 (some .int) ∈ gUW)
    (hR : 1 ≤ R.frames ∧ (rest.map fun v => v.category).sum + 13 ≤ R.locals ∧ cells ≤ R.cells ∧ slots ≤ R.slots)
    (k : PW l G cc own nL ret hh R CX E (pc + 3) L (.int (if y < x then y else x) :: rest) S ad h cells slots) : PW l G cc own nL ret hh R CX E pc L (.int y :: .int x :: rest) S ad h cells slots := by
  intro p e s m args below meth c A H locs ls F hP hD hS' hl'
  obtain ⟨⟨hx, hb, hml, hown, hts⟩, hr, hlk, htab, hA, hE, hcx⟩ := id F
  exact va_mmin hx hb (by rw [hml, hl'.1]) hown (hts _ hk) (hts _ hw.1) (hts _ hw.2.1) (hts _ hw.2.2) hR.1 hR.2.1 hR.2.2.1 hR.2.2.2 hd (k p e s m args below meth c A H locs ls F hP hD hS' hl')
theorem pw_ifnull {q : Nat} {off : Int} (hd : decode cc pc = .ok (.ifnull off, 3)) (k : PW l G cc own nL ret hh R CX E (pc + 3) L rest S ad h cells slots) : PW l G cc own nL ret hh R CX E pc L (.ref (ad q) :: rest) S ad h cells slots := by
  intro p e s m args below meth c A H locs ls F hP hD hS' hl'
  obtain ⟨⟨hx, hb, hml, hown, hts⟩, hr, hlk, htab, hA, hE, hcx⟩ := id F
  exact lv_ifnull hx hb hd (k p e s m args below meth c A H locs ls F hP hD hS' hl')
end PWM
/-! CALLS whose answer is one value, and the world behind it one: for methods that don't throw -/
def gRm (rm R : Room) (nL1 cells slots : Nat) : Bool := Nat.ble (rm.frames + 1) R.frames && (Nat.ble (8 + (nL1 + 11) + rm.locals) R.locals && (Nat.ble (cells + rm.cells) R.cells && Nat.ble (slots + rm.slots) R.slots))
theorem gRm_spec {rm R : Room} {nL1 cells slots : Nat} (h : gRm rm R nL1 cells slots = true) : (rm.frames + 1 ≤ R.frames ∧ 8 + (nL1 + 11) + rm.locals ≤ R.locals) ∧ (cells + rm.cells ≤ R.cells ∧ slots + rm.slots ≤ R.slots) := by
  simp only [gRm, Bool.and_eq_true] at h
  exact ⟨⟨Nat.le_of_ble_eq_true h.1, Nat.le_of_ble_eq_true h.2.1⟩, Nat.le_of_ble_eq_true h.2.2.1, Nat.le_of_ble_eq_true h.2.2.2⟩
def gCat (st : List Value) : Bool := Nat.ble (st.map fun v => v.category).sum 8
theorem gCat_spec {st : List Value} (h : gCat st = true) : (st.map fun v => v.category).sum ≤ 8 := Nat.le_of_ble_eq_true h
def gR (S : List Sh) (ad : Nat → Nat) (v : Option Value) (h1 : HP) : gPost := fun v' S' ad' h' => v' = v ∧ S' = S ∧ ad' = ad ∧ h' = h1
def gNo : String → HP → Prop := fun _ _ => False
/-- a method that answers v and leaves h1 -/
def PF (l : Launch) (G : GC) (y : MethodName) (ccw : Cond) (rm : Room) (avs : List Value) (S : List Sh) (ad : Nat → Nat) (h : HP) (v : Option Value) (h1 : HP) : Prop := PM l G y ccw rm avs S ad h (gR S ad v h1) gNo
/-- a method that answers v and leaves h1, or throws Ex and leaves h1 -/
def gRX (S : List Sh) (ad : Nat → Nat) (o : Option Value ⊕ String) (h1 : HP) : gPost := fun v' S' ad' h' => o = .inl v' ∧ S' = S ∧ ad' = ad ∧ h' = h1
def gXX (o : Option Value ⊕ String) (h1 : HP) : String → HP → Prop := fun Ex h' => o = .inr Ex ∧ h' = h1
def PT (l : Launch) (G : GC) (y : MethodName) (ccw : Cond) (rm : Room) (avs : List Value) (S : List Sh) (ad : Nat → Nat) (h : HP) (o : Option Value ⊕ String) (h1 : HP) : Prop := PM l G y ccw rm avs S ad h (gRX S ad o h1) (gXX o h1)
section PWF
variable {l : Launch} {G : GC} {cc : ByteArray} {own : String} {nL : Nat} {ret : Option FieldType} {hh : List (Nat × Nat × Nat × Nat)} {R : Room} {CX : gCtx} {E : gEnd}
variable {pc : Nat} {L : List (Option Value)} {rest : List Value} {S : List Sh} {ad : Nat → Nat} {h : HP} {cells slots : Nat}
theorem pw_cV {idx n b ci : Nat} {y : MethodName} {cc1 : ByteArray} {nL1 : Nat} {ret1 : Option FieldType} {rm : Room} {avs st0 : List Value} {v : Value} {h1 : HP} {fs : List Fk} {r : vw_C}
    (hd : decode cc pc = .ok (.invokevirtual idx, 3)) (hM : PF l G y (.code y cc1 nL1 ret1) rm (.ref (ad b) :: avs) S ad h (some v) h1) (hi : gMI y cc1 nL1 ret1 n) (hv : gMV y) (hk : gML own idx y)
    (hS : S[b]? = some (.inr (.inl (ci, fs)))) (hcl : vwCl[ci]? = some r) (hr1 : r.1 = y.cls) (hn : avs.length = n)
    (hR : gRm rm R nL1 cells slots = true) (hc0 : rm.cells = 0 ∧ rm.slots = 0) (hst : st0 = avs.reverse ++ .ref (ad b) :: rest) (hW : gCat rest = true)
    (kk : PW l G cc own nL ret hh R CX E (pc + 3) L (v :: rest) S ad h1 cells slots) : PW l G cc own nL ret hh R CX E pc L st0 S ad h cells slots := by
  obtain ⟨r1, r2⟩ := gRm_spec hR
  refine pw_callV hd hM hi hv hk hS hcl hr1 hn r1 r2 hst (gCat_spec hW) (fun _ _ q => q.elim) (fun v' S' ad' h' q => ?_)
  obtain ⟨rfl, rfl, rfl, rfl⟩ := q
  rw [hc0.1, hc0.2]; exact kk
theorem pw_cVn {idx n b ci : Nat} {y : MethodName} {cc1 : ByteArray} {nL1 : Nat} {ret1 : Option FieldType} {rm : Room} {avs st0 : List Value} {h1 : HP} {fs : List Fk} {r : vw_C}
    (hd : decode cc pc = .ok (.invokevirtual idx, 3)) (hM : PF l G y (.code y cc1 nL1 ret1) rm (.ref (ad b) :: avs) S ad h none h1) (hi : gMI y cc1 nL1 ret1 n) (hv : gMV y) (hk : gML own idx y)
    (hS : S[b]? = some (.inr (.inl (ci, fs)))) (hcl : vwCl[ci]? = some r) (hr1 : r.1 = y.cls) (hn : avs.length = n)
    (hR : gRm rm R nL1 cells slots = true) (hc0 : rm.cells = 0 ∧ rm.slots = 0) (hst : st0 = avs.reverse ++ .ref (ad b) :: rest) (hW : gCat rest = true)
    (kk : PW l G cc own nL ret hh R CX E (pc + 3) L rest S ad h1 cells slots) : PW l G cc own nL ret hh R CX E pc L st0 S ad h cells slots := by
  obtain ⟨r1, r2⟩ := gRm_spec hR
  refine pw_callV hd hM hi hv hk hS hcl hr1 hn r1 r2 hst (gCat_spec hW) (fun _ _ q => q.elim) (fun v' S' ad' h' q => ?_)
  obtain ⟨rfl, rfl, rfl, rfl⟩ := q
  rw [hc0.1, hc0.2]; exact kk
theorem pw_cS {idx n : Nat} {y : MethodName} {cc1 : ByteArray} {nL1 : Nat} {ret1 : Option FieldType} {rm : Room} {avs st0 : List Value} {v : Value} {h1 : HP}
    (hd : decode cc pc = .ok (.invokestatic idx, 3)) (hM : PF l G y (.code y cc1 nL1 ret1) rm avs S ad h (some v) h1) (hi : gMI y cc1 nL1 ret1 n) (hv : Cond.static y ∈ gUW) (hk : gML own idx y) (hn : avs.length = n)
    (hR : gRm rm R nL1 cells slots = true) (hc0 : rm.cells = 0 ∧ rm.slots = 0) (hst : st0 = avs.reverse ++ rest) (hW : gCat rest = true)
    (kk : PW l G cc own nL ret hh R CX E (pc + 3) L (v :: rest) S ad h1 cells slots) : PW l G cc own nL ret hh R CX E pc L st0 S ad h cells slots := by
  obtain ⟨r1, r2⟩ := gRm_spec hR
  refine pw_callS hd hM hi hv hk hn r1 r2 hst (gCat_spec hW) (fun _ _ q => q.elim) (fun v' S' ad' h' q => ?_)
  obtain ⟨rfl, rfl, rfl, rfl⟩ := q
  rw [hc0.1, hc0.2]; exact kk
/-- a callee that may throw: its outcome o decides -/
theorem pw_tV {idx n b ci : Nat} {y : MethodName} {cc1 : ByteArray} {nL1 : Nat} {ret1 : Option FieldType} {rm : Room} {avs st0 : List Value} {o : Option Value ⊕ String} {h1 : HP} {fs : List Fk} {r : vw_C}
    (hd : decode cc pc = .ok (.invokevirtual idx, 3)) (hM : PT l G y (.code y cc1 nL1 ret1) rm (.ref (ad b) :: avs) S ad h o h1) (hi : gMI y cc1 nL1 ret1 n) (hv : gMV y) (hk : gML own idx y)
    (hS : S[b]? = some (.inr (.inl (ci, fs)))) (hcl : vwCl[ci]? = some r) (hr1 : r.1 = y.cls) (hn : avs.length = n)
    (hR : gRm rm R nL1 cells slots = true) (hst : st0 = avs.reverse ++ .ref (ad b) :: rest) (hW : gCat rest = true)
    (kx : ∀ Ex, o = .inr Ex → PX l G cc own nL ret hh R CX E pc L rest S ad h1 (cells + rm.cells) (slots + rm.slots) Ex)
    (kk : ∀ v, o = .inl v → PW l G cc own nL ret hh R CX E (pc + 3) L (v.toList ++ rest) S ad h1 (cells + rm.cells) (slots + rm.slots)) : PW l G cc own nL ret hh R CX E pc L st0 S ad h cells slots := by
  obtain ⟨r1, r2⟩ := gRm_spec hR
  refine pw_callV hd hM hi hv hk hS hcl hr1 hn r1 r2 hst (gCat_spec hW) (fun Ex h' q => ?_) (fun v' S' ad' h' q => ?_)
  · obtain ⟨q1, rfl⟩ := q
    exact kx Ex q1
  · obtain ⟨q1, rfl, rfl, rfl⟩ := q
    exact kk v' q1
theorem pw_tS {idx n : Nat} {y : MethodName} {cc1 : ByteArray} {nL1 : Nat} {ret1 : Option FieldType} {rm : Room} {avs st0 : List Value} {o : Option Value ⊕ String} {h1 : HP}
    (hd : decode cc pc = .ok (.invokestatic idx, 3)) (hM : PT l G y (.code y cc1 nL1 ret1) rm avs S ad h o h1) (hi : gMI y cc1 nL1 ret1 n) (hv : Cond.static y ∈ gUW) (hk : gML own idx y) (hn : avs.length = n)
    (hR : gRm rm R nL1 cells slots = true) (hst : st0 = avs.reverse ++ rest) (hW : gCat rest = true)
    (kx : ∀ Ex, o = .inr Ex → PX l G cc own nL ret hh R CX E pc L rest S ad h1 (cells + rm.cells) (slots + rm.slots) Ex)
    (kk : ∀ v, o = .inl v → PW l G cc own nL ret hh R CX E (pc + 3) L (v.toList ++ rest) S ad h1 (cells + rm.cells) (slots + rm.slots)) : PW l G cc own nL ret hh R CX E pc L st0 S ad h cells slots := by
  obtain ⟨r1, r2⟩ := gRm_spec hR
  refine pw_callS hd hM hi hv hk hn r1 r2 hst (gCat_spec hW) (fun Ex h' q => ?_) (fun v' S' ad' h' q => ?_)
  · obtain ⟨q1, rfl⟩ := q
    exact kx Ex q1
  · obtain ⟨q1, rfl, rfl, rfl⟩ := q
    exact kk v' q1
theorem PF.of {y : MethodName} {cc : ByteArray} {nL : Nat} {ret : Option FieldType} {rm : Room} {avs : List Value} {v : Option Value} {h1 : HP}
    (hy : plainName y.cls = true) (h1' : ∀ v ∈ avs, v.category = 1) (hn : avs.length ≤ nL)
    (k : PW l G cc y.cls nL ret [] rm (gNm y.name) (gME G S ad (gR S ad v h1) gNo rm.cells rm.slots) 0 (avs.map some ++ List.replicate (nL - avs.length) none) [] S ad h 0 0) :
    PF l G y (.code y cc nL ret) rm avs S ad h v h1 := PM.of hy h1' hn k
theorem PT.of {y : MethodName} {cc : ByteArray} {nL : Nat} {ret : Option FieldType} {rm : Room} {avs : List Value} {o : Option Value ⊕ String} {h1 : HP}
    (hy : plainName y.cls = true) (h1' : ∀ v ∈ avs, v.category = 1) (hn : avs.length ≤ nL)
    (k : PW l G cc y.cls nL ret [] rm (gNm y.name) (gME G S ad (gRX S ad o h1) (gXX o h1) rm.cells rm.slots) 0 (avs.map some ++ List.replicate (nL - avs.length) none) [] S ad h 0 0) :
    PT l G y (.code y cc nL ret) rm avs S ad h o h1 := PM.of hy h1' hn k
theorem pw_heq {st : List Value} {E : gEnd} {h' : HP} (e : h = h') (k : PW l G cc own nL ret hh R CX E pc L st S ad h' cells slots) : PW l G cc own nL ret hh R CX E pc L st S ad h cells slots := e ▸ k
theorem pw_leq {st : List Value} {E : gEnd} {L' : List (Option Value)} (e : L = L') (k : PW l G cc own nL ret hh R CX E pc L' st S ad h cells slots) : PW l G cc own nL ret hh R CX E pc L st S ad h cells slots := e ▸ k
/-- fewer locals are known -/
theorem pw_forget {st : List Value} {E : gEnd} {L' : List (Option Value)} (hL : ∀ (i : Nat) (v : Value), L'[i]? = some (some v) → L[i]? = some (some v)) (k : PW l G cc own nL ret hh R CX E pc L' st S ad h cells slots) : PW l G cc own nL ret hh R CX E pc L st S ad h cells slots := by
  intro p e s m args below meth c A H locs ls F hP hD hS' hl'
  exact k p e s m args below meth c A H locs ls F hP hD hS' ⟨hl'.1, hl'.2.1, fun i v hv => hl'.2.2 i v (hL i v hv)⟩
end PWF
