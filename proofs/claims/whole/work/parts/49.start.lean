/-! THE START: what the tables say of the launch -/
theorem in_0 : Cond.instantiable RX0 2 ∈ gUW := (gmem (tb_1 (List.mem_of_getElem? (i := 93) (by decide +kernel))) rfl)
theorem in_1 : Cond.instantiable RX1 4 ∈ gUW := (gmem (tb_1 (List.mem_of_getElem? (i := 112) (by decide +kernel))) rfl)
theorem in_2 : Cond.instantiable RX2 3 ∈ gUW := (gmem (tb_1 (List.mem_of_getElem? (i := 163) (by decide +kernel))) rfl)
theorem in_3 : Cond.instantiable RX3 6 ∈ gUW := (gmem (tb_1 (List.mem_of_getElem? (i := 183) (by decide +kernel))) rfl)
theorem in_4 : Cond.instantiable RX4 8 ∈ gUW := (gmem (tb_1 (List.mem_of_getElem? (i := 35) (by decide +kernel))) rfl)
theorem in_5 : Cond.instantiable RX5 4 ∈ gUW := (gmem (tb_1 (List.mem_of_getElem? (i := 29) (by decide +kernel))) rfl)
theorem in_6 : Cond.instantiable RX6 3 ∈ gUW := (gmem (tb_1 (List.mem_of_getElem? (i := 41) (by decide +kernel))) rfl)
theorem in_7 : Cond.instantiable RX7 10 ∈ gUW := (gmem (tb_1 (List.mem_of_getElem? (i := 21) (by decide +kernel))) rfl)
theorem in_8 : Cond.instantiable RX8 19 ∈ gUW := (gmem (tb_4 (List.mem_of_getElem? (i := 218) (by decide +kernel))) rfl)
theorem st_in : ∀ q ∈ gSt, Cond.stringRef q.1 q.2.1 q.2.2 ∈ lw_tbl := by decide +kernel
theorem st_ex : ∀ q ∈ gSt, Cond.exactly (.string q.1 q.2.1) "java/lang/String" ∈ flatC (Jvm.Cond.and given_1 narrow_1) := by decide +kernel
theorem nc_in : ∀ q ∈ gNCs, Cond.not (.castable q.1 q.2) ∈ flatC (Jvm.Cond.and given_1 narrow_1) := by decide +kernel
theorem ao_in : Cond.arrayOver (.object gAO) ∈ lw_tbl := tb_1 (List.mem_of_getElem? (i := 169) (by decide +kernel))
theorem us_in : Cond.isRef (.static Bundle.tN "UNASSIGNED_STACK" Bundle.steD) ∈ flatC (Jvm.Cond.and given_1 narrow_1) ∧ Cond.isRef (.static Bundle.tN "SUPPRESSED_SENTINEL" Bundle.listD) ∈ flatC (Jvm.Cond.and given_1 narrow_1) := by decide +kernel
theorem ls_in : Cond.laysStatic Bundle.tN "UNASSIGNED_STACK" Bundle.steD ∈ lw_tbl ∧ Cond.laysStatic Bundle.tN "SUPPRESSED_SENTINEL" Bundle.listD ∈ lw_tbl ∧ Cond.initialized Bundle.tN ∈ lw_tbl := by decide +kernel
theorem lw_G {p : Program} {s : State} {m : MethodId} {meth : Method} {c : Code} {b L : Nat} {xs : Nat → Int32} (C0 : lw_At p s m meth c b L xs) : ∃ G : GC, gE G (fun q => s.heap.size ≤ q) s s.heap := by
  obtain ⟨hx, hb, hr, hml, hown, hts, hX, hbl, hlocks, hgv⟩ := id C0
  have hfl := flat_of_before _ hgv
  have htG : ∀ w ∈ gUW, w.before #[Value.ref b] s = true := fun w hw => hts w ((List.mem_filter.mp hw).1)
  have hA : ∀ a : Nat, a < s.heap.size → ¬ (fun q : Nat => s.heap.size ≤ q) a := fun a ha => Nat.not_le.mpr ha
  have h1 : ∀ k : Nat, ∃ x : ClassId × (Nat → Nat), ∀ q : vw_C, vwCl[k]? = some q → u_Kn s q.1 q.2.1 q.2.2 x.1 x.2 := fun k => by
    match k with
    | 0 =>
      obtain ⟨a1, a2, a3⟩ := u_known (C := RX0) (T := TX0) (N := 2) (n := 2) htG uwX0 (htG _ in_0)
      exact ⟨(a1, a2), fun q hq => by cases hq; exact a3⟩
    | 1 =>
      obtain ⟨a1, a2, a3⟩ := u_known (C := RX1) (T := TX1) (N := 4) (n := 4) htG uwX1 (htG _ in_1)
      exact ⟨(a1, a2), fun q hq => by cases hq; exact a3⟩
    | 2 =>
      obtain ⟨a1, a2, a3⟩ := u_known (C := RX2) (T := TX2) (N := 3) (n := 3) htG uwX2 (htG _ in_2)
      exact ⟨(a1, a2), fun q hq => by cases hq; exact a3⟩
    | 3 =>
      obtain ⟨a1, a2, a3⟩ := u_known (C := RX3) (T := TX3) (N := 6) (n := 6) htG uwX3 (htG _ in_3)
      exact ⟨(a1, a2), fun q hq => by cases hq; exact a3⟩
    | 4 =>
      obtain ⟨a1, a2, a3⟩ := u_known (C := RX4) (T := TX4) (N := 8) (n := 8) htG uwX4 (htG _ in_4)
      exact ⟨(a1, a2), fun q hq => by cases hq; exact a3⟩
    | 5 =>
      obtain ⟨a1, a2, a3⟩ := u_known (C := RX5) (T := TX5) (N := 4) (n := 4) htG uwX5 (htG _ in_5)
      exact ⟨(a1, a2), fun q hq => by cases hq; exact a3⟩
    | 6 =>
      obtain ⟨a1, a2, a3⟩ := u_known (C := RX6) (T := TX6) (N := 3) (n := 3) htG uwX6 (htG _ in_6)
      exact ⟨(a1, a2), fun q hq => by cases hq; exact a3⟩
    | 7 =>
      obtain ⟨a1, a2, a3⟩ := u_known (C := RX7) (T := TX7) (N := 10) (n := 10) htG uwX7 (htG _ in_7)
      exact ⟨(a1, a2), fun q hq => by cases hq; exact a3⟩
    | 8 =>
      obtain ⟨a1, a2, a3⟩ := u_known (C := RX8) (T := TX8) (N := 19) (n := 19) htG uwX8 (htG _ in_8)
      exact ⟨(a1, a2), fun q hq => by cases hq; exact a3⟩
    | k + 9 => exact ⟨(0, fun _ => 0), fun q hq => by simp [vwCl] at hq⟩
  obtain ⟨D, hD⟩ := Classical.axiomOfChoice h1
  have ha : ∀ ty : FieldType, Cond.arrayClass ty ∈ gUW → ∃ cA, ArrOfT s cA ty ∧ s.vm.findClass ("[" ++ ty.toString) = some cA := fun ty hm => by
    obtain ⟨c9, k9, comp, e1, e2, e3⟩ := Cond.arrayClass_spec (htG _ hm)
    exact ⟨c9, fun n z => ⟨(fun k h => by cases h), k9, e2, comp, e3⟩, e1⟩
  obtain ⟨t0, f0, g0⟩ := ha .int ar_I
  obtain ⟨t1, f1, g1⟩ := ha .char ar_C
  obtain ⟨t2, f2, g2⟩ := ha .long ar_J
  obtain ⟨t3, f3, g3⟩ := ha .double ar_D
  obtain ⟨comp, t4, k4, e1, -, e2, e3, e4⟩ := Cond.arrayOver_spec (hts _ ao_in)
  have h2 : ∀ k : Nat, ∃ a : Nat, ∀ q : String × Nat × String, gSt[k]? = some q → vk_R q.1 q.2.1 q.2.2 a s := fun k => by
    cases hk : gSt[k]? with
    | none => exact ⟨0, fun q hq => by cases hq⟩
    | some q =>
      have hq := List.mem_of_getElem? hk
      obtain ⟨a, -, -, -, q1, -⟩ := Cond.exactly_spec (hfl _ (st_ex q hq))
      exact ⟨a, fun q' hq' => by cases hq'; exact vk_R.of (hts _ (st_in q hq)) q1⟩
  obtain ⟨sa, hsa⟩ := Classical.axiomOfChoice h2
  refine ⟨((fun k => (D k).1, fun k => (D k).2), (fun k => match k with | 0 => t0 | 1 => t1 | 2 => t2 | 3 => t3 | _ => t4, sa)), ⟨fun k q hq => hD k q hq, fun k q hq => ?_⟩, fun w hw => va_Nw.of (gNL_on hw) (hts w ((List.mem_filter.mp hw).1)), hsa, vx_Zqof (hts _ ls_in.1) (hts _ ls_in.2.2) (hfl _ us_in.1) hA, vx_Zqof (hts _ ls_in.2.1) (hts _ ls_in.2.2) (hfl _ us_in.2) hA⟩
  match k with
  | 0 => cases hq; exact ⟨f0, g0⟩
  | 1 => cases hq; exact ⟨f1, g1⟩
  | 2 => cases hq; exact ⟨f2, g2⟩
  | 3 => cases hq; exact ⟨f3, g3⟩
  | 4 => cases hq; exact ⟨fun n z => ⟨fun k h => (by cases h), k4, e2, comp, e3⟩, k4, comp, e2, e3, e1, e4⟩
  | k + 5 => simp [gT] at hq
theorem lw_Xt {p : Program} {s : State} {m : MethodId} {meth : Method} {c : Code} {b L : Nat} {xs : Nat → Int32} (C0 : lw_At p s m meth c b L xs) : gXt s := by
  obtain ⟨hx, hb, hr, hml, hown, hts, hX, hbl, hlocks, hgv⟩ := id C0
  have hfl := flat_of_before _ hgv
  exact ⟨va_AO.of (hts _ ao_in), fun q hq => va_Nc.of (hfl _ (nc_in q hq))⟩
set_option maxRecDepth 100000 in
theorem SW_eq : booD 0 ++ modD 253 ++ [.inl (2, 1)] ++ [.inl (3, 1)] = SW := rfl
def hZ : HP := fun _ _ => 0
def h00 : HP := modH 253 (booH 0 hZ)
theorem boo_cl : clB (booD 0) = true := by decide +kernel
theorem mod_cl : clB (booD 0 ++ modD 253) = true := by decide +kernel
theorem mod_cl2 : clB (booD 0 ++ modD 253 ++ [.inl (2, 1)]) = true := by decide +kernel
theorem boo_z : ∀ q, 253 ≤ q → ∀ k, booH 0 hZ q k = 0 := fun q hq k => by
  unfold booH
  rw [hput_ne _ _ _ (by omega), hput_ne _ _ _ (by omega), hput_ne _ _ _ (by omega)]
  exact hisH_z (n := 49) (m := 253) (fun q2 h2 k2 => by rw [stH_o (by omega), stH_o (by omega)]; rfl) (by omega) q hq k
theorem mod_z : ∀ q, 263 ≤ q → ∀ k, h00 q k = 0 := fun q hq k => by
  unfold h00 modH
  rw [hput_ne _ _ _ (by omega), hput_ne _ _ _ (by omega), hput_ne _ _ _ (by omega), hput_ne _ _ _ (by omega)]
  exact boo_z q (by omega) k
set_option maxRecDepth 100000 in
set_option maxHeartbeats 4000000 in
theorem whole_of {INV : HP → Prop} {p : Program} {e : Env} {s : State} {m : MethodId} {below : List Frame} {meth : Method} {c : Code} (l : Launch) (hflags : l.flags = flags0) {b L : Nat} {xs : Nat → Int32} (hL : L ≤ 3584) (C0 : lw_At p s m meth c b L xs) (hI : INV h00) (j_harvest : ∀ (G : GC) (ad : Nat → Nat), J_harvest l G ad INV) (j_blend : ∀ (G : GC) (ad : Nat → Nat), J_blend l G ad INV) (j_spill : ∀ (G : GC) (ad : Nat → Nat), J_spill l G ad INV) (j_lot : ∀ (G : GC) (ad : Nat → Nat), J_lot l G ad INV) (j_part : ∀ (G : GC) (ad : Nat → Nat), J_part l G ad INV) (j_share : ∀ (G : GC) (ad : Nat → Nat), J_share l G ad INV) (j_greatest : ∀ (G : GC) (ad : Nat → Nat), J_greatest l G ad INV) (j_meanVintage : ∀ (G : GC) (ad : Nat → Nat), J_meanVintage l G ad INV) (j_setLaw : ∀ (G : GC) (ad : Nat → Nat), J_setLaw l G ad INV) (j_bottle : ∀ (G : GC) (ad : Nat → Nat), J_bottle l G ad INV) (j_forbids : ∀ (G : GC) (ad : Nat → Nat), J_forbids l G ad INV) (j_bottling : ∀ (G : GC) (ad : Nat → Nat), J_bottling l G ad INV) (j_reason : ∀ (G : GC) (ad : Nat → Nat), J_reason l G ad INV) (j_addCustomer : ∀ (G : GC) (ad : Nat → Nat), J_addCustomer l G ad INV) (j_wish : ∀ (G : GC) (ad : Nat → Nat), J_wish l G ad INV) (j_serve : ∀ (G : GC) (ad : Nat → Nat), J_serve l G ad INV) (j_giveBack : ∀ (G : GC) (ad : Nat → Nat), J_giveBack l G ad INV) (j_holds : ∀ (G : GC) (ad : Nat → Nat), J_holds l G ad INV) (j_listed : ∀ (G : GC) (ad : Nat → Nat), J_listed l G ad INV) (j_recalled : ∀ (G : GC) (ad : Nat → Nat), J_recalled l G ad INV) (j_recalledAgain : ∀ (G : GC) (ad : Nat → Nat), J_recalledAgain l G ad INV) (j_bottlesOf : ∀ (G : GC) (ad : Nat → Nat), J_bottlesOf l G ad INV) (j_ways : ∀ (G : GC) (ad : Nat → Nat), J_ways l G ad INV) (j_account : ∀ (G : GC) (ad : Nat → Nat), J_account l G ad INV) (j_feed : ∀ (G : GC) (ad : Nat → Nat), J_feed l G ad INV) (j_errorPosition : ∀ (G : GC) (ad : Nat → Nat), J_errorPosition l G ad INV) (j_undo : ∀ (G : GC) (ad : Nat → Nat), J_undo l G ad INV) (j_save : ∀ (G : GC) (ad : Nat → Nat), J_save l G ad INV) (j_restore : ∀ (G : GC) (ad : Nat → Nat), J_restore l G ad INV) :
    W p l e room_1 s m #[Value.ref b] below meth c s.heap [] 0 0 (lw_Z below #[Value.ref b] s) (entryFrame m ([Value.ref b] : List Value).toArray 9) := by
  obtain ⟨G, hG⟩ := lw_G C0
  have hXt := lw_Xt C0
  obtain ⟨hx, hb, hr, hml, hown, hts, hX, hbl, hlocks, hgv⟩ := id C0
  have htG : ∀ w ∈ gUW, w.before #[Value.ref b] s = true := fun w hw => hts w ((List.mem_filter.mp hw).1)
  have hl := gL_entry [.ref b] (n := 9) (by simp [Value.category]) (Nat.le_of_ble_eq_true rfl)
  rw [lg_entry_eq]
  have key : PW l G cL_law RL 9 ret (c.exceptionTable.toList.map fun h => (h.startPc, h.endPc, h.handlerPc, h.catchType)) room_1 (lwCX b L xs) lwE 0 [some (.ref b), none, none, none, none, none, none, none, none] [] [] (fun _ => 0) hZ 0 0 := by
    refine pw_new dL_law_0 nw_L_8 (n := 0) rfl rfl (fun _ => rfl) ⟨Nat.le_of_ble_eq_true rfl, Nat.le_of_ble_eq_true rfl⟩ rfl (fun ad1 g1 => ?_)
    refine pw_dup dL_law_3 rfl ?_
    refine pw_cIA dL_law_4 (b := 0) (S' := booD 0) (sp_X7_init (S1 := []) (n := 0) (by rfl) rfl rfl (fun _ _ _ => rfl)) lwX mi_X7_init rfl ii_X7_init ml_L_110 rfl ⟨Nat.le_of_ble_eq_true rfl, Nat.le_of_ble_eq_true rfl⟩ ⟨Nat.le_of_ble_eq_true rfl, Nat.le_of_ble_eq_true rfl⟩ rfl rfl (List.nil_append _) (fun ad2 g2 => ?_)
    rw [← g2 0 (by omega)]
    refine pw_astore_n dL_law_7 (by decide) rfl ?_
    refine pw_new dL_law_8 nw_L_111 (n := 253) rfl boo_cl (fun k => boo_z 253 (by omega) k) ⟨Nat.le_of_ble_eq_true rfl, Nat.le_of_ble_eq_true rfl⟩ rfl (fun ad3 g3 => ?_)
    rw [← g3 0 (by omega)]
    refine pw_dup dL_law_11 rfl ?_
    refine pw_cI dL_law_12 (b := 253) (S' := booD 0 ++ modD 253) (sp_X8_init (S1 := booD 0) (n := 253) rfl rfl boo_cl boo_z) mi_X8_init rfl ii_X8_init ml_L_113 rfl ⟨Nat.le_of_ble_eq_true rfl, Nat.le_of_ble_eq_true rfl⟩ ⟨Nat.le_of_ble_eq_true rfl, Nat.le_of_ble_eq_true rfl⟩ rfl rfl rfl (fun ad4 g4 => ?_)
    rw [← g4 0 (by omega), ← g4 253 (by omega)]
    refine pw_astore_n dL_law_15 (by decide) rfl ?_
    refine pw_iconst dL_law_16 (v := 1) (by decide) ?_
    refine pw_newaJ dL_law_17 ar_J (nI_pos (n := 1) (by omega)) (nI_cl (n := 1) (by omega)) (by omega) (n := 263) rfl mod_cl (fun k => mod_z 263 (by omega) k) ⟨Nat.le_of_ble_eq_true rfl, Nat.le_of_ble_eq_true rfl⟩ rfl (fun ad5 g5 => ?_)
    rw [← g5 0 (by omega), ← g5 253 (by omega)]
    refine pw_astore_n dL_law_19 (by decide) rfl ?_
    refine pw_iconst dL_law_20 (v := 1) (by decide) ?_
    refine pw_newaD dL_law_21 ar_D (nI_pos (n := 1) (by omega)) (nI_cl (n := 1) (by omega)) (by omega) (n := 264) rfl mod_cl2 (fun k => mod_z 264 (by omega) k) ⟨Nat.le_of_ble_eq_true rfl, Nat.le_of_ble_eq_true rfl⟩ SW_eq (fun ad6 g6 => ?_)
    rw [← g6 0 (by omega), ← g6 253 (by omega), ← g6 263 (by omega)]
    refine pw_astore dL_law_23 (by decide) rfl ?_
    refine pw_iconst dL_law_25 (v := 0) (by decide) ?_
    refine pw_istore dL_law_26 (by decide) rfl ?_
    exact PW.widen (Nat.le_of_ble_eq_true rfl) (Nat.le_of_ble_eq_true rfl) (law_loop hL (j_harvest _ _) (j_blend _ _) (j_spill _ _) (j_lot _ _) (j_part _ _) (j_share _ _) (j_greatest _ _) (j_meanVintage _ _) (j_setLaw _ _) (j_bottle _ _) (j_forbids _ _) (j_bottling _ _) (j_reason _ _) (j_addCustomer _ _) (j_wish _ _) (j_serve _ _) (j_giveBack _ _) (j_holds _ _) (j_listed _ _) (j_recalled _ _) (j_recalledAgain _ _) (j_bottlesOf _ _) (j_ways _ _) (j_account _ _) (j_feed _ _) (j_errorPosition _ _) (j_undo _ _) (j_save _ _) (j_restore _ _) (L + 1) 0 h00 none none none hI (Nat.zero_le _) (by omega))
  exact key p e s m #[Value.ref b] below meth c (fun q => s.heap.size ≤ q) s.heap [] _ ⟨⟨hx, hb, hml, hown, htG⟩, hr, hlocks, (table_eq _).symm, fun q hq => hq, hG, ⟨⟨hX, hbl, Nat.not_le.mpr hbl⟩, hXt⟩, rfl, fun q hq => hq⟩ (fun k q h => by simp [gW] at h) ⟨fun i j p q h => by simp [gW] at h, fun k q h => by simp [gW] at h⟩ va_S.rf hl
