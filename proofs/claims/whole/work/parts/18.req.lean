/-! WHAT THE ARGUMENTS MUST BE -/
section PWX
variable {l : Launch} {G : GC} {cc : ByteArray} {own : String} {nL : Nat} {ret : Option FieldType} {hh : List (Nat × Nat × Nat × Nat)} {R : Room} {CX : gCtx} {E : gEnd}
variable {pc : Nat} {L : List (Option Value)} {rest : List Value} {S : List Sh} {ad : Nat → Nat} {h : HP} {cells slots : Nat}
theorem pw_okV {idx n b ci : Nat} {y : MethodName} {cc1 : ByteArray} {nL1 : Nat} {ret1 : Option FieldType} {rm : Room} {avs st0 : List Value} {h1 : HP} {fs : List Fk} {r : vw_C}
    (hd : decode cc pc = .ok (.invokevirtual idx, 3)) (hM : PT l G y (.code y cc1 nL1 ret1) rm (.ref (ad b) :: avs) S ad h (.inl none) h1) (hi : gMI y cc1 nL1 ret1 n) (hv : gMV y) (hk : gML own idx y)
    (hS : S[b]? = some (.inr (.inl (ci, fs)))) (hcl : vwCl[ci]? = some r) (hr1 : r.1 = y.cls) (hn : avs.length = n)
    (hR : gRm rm R nL1 cells slots = true) (hst : st0 = avs.reverse ++ .ref (ad b) :: rest) (hW : gCat rest = true)
    (kk : PW l G cc own nL ret hh R CX E (pc + 3) L rest S ad h1 (cells + rm.cells) (slots + rm.slots)) : PW l G cc own nL ret hh R CX E pc L st0 S ad h cells slots :=
  pw_tV hd hM hi hv hk hS hcl hr1 hn hR hst hW (fun _ q => by cases q) (fun v q => by cases q; exact kk)
theorem pw_flV {idx n b ci : Nat} {y : MethodName} {cc1 : ByteArray} {nL1 : Nat} {ret1 : Option FieldType} {rm : Room} {avs st0 : List Value} {h1 : HP} {fs : List Fk} {r : vw_C} {Ex : String}
    (hd : decode cc pc = .ok (.invokevirtual idx, 3)) (hM : PT l G y (.code y cc1 nL1 ret1) rm (.ref (ad b) :: avs) S ad h (.inr Ex) h1) (hi : gMI y cc1 nL1 ret1 n) (hv : gMV y) (hk : gML own idx y)
    (hS : S[b]? = some (.inr (.inl (ci, fs)))) (hcl : vwCl[ci]? = some r) (hr1 : r.1 = y.cls) (hn : avs.length = n)
    (hR : gRm rm R nL1 cells slots = true) (hst : st0 = avs.reverse ++ .ref (ad b) :: rest) (hW : gCat rest = true)
    (kx : PX l G cc own nL ret hh R CX E pc L rest S ad h1 (cells + rm.cells) (slots + rm.slots) Ex) : PW l G cc own nL ret hh R CX E pc L st0 S ad h cells slots :=
  pw_tV hd hM hi hv hk hS hcl hr1 hn hR hst hW (fun _ q => by cases q; exact kx) (fun v q => by cases q)
theorem pw_okS {idx n : Nat} {y : MethodName} {cc1 : ByteArray} {nL1 : Nat} {ret1 : Option FieldType} {rm : Room} {avs st0 : List Value} {h1 : HP}
    (hd : decode cc pc = .ok (.invokestatic idx, 3)) (hM : PT l G y (.code y cc1 nL1 ret1) rm avs S ad h (.inl none) h1) (hi : gMI y cc1 nL1 ret1 n) (hv : Cond.static y ∈ gUW) (hk : gML own idx y) (hn : avs.length = n)
    (hR : gRm rm R nL1 cells slots = true) (hst : st0 = avs.reverse ++ rest) (hW : gCat rest = true)
    (kk : PW l G cc own nL ret hh R CX E (pc + 3) L rest S ad h1 (cells + rm.cells) (slots + rm.slots)) : PW l G cc own nL ret hh R CX E pc L st0 S ad h cells slots :=
  pw_tS hd hM hi hv hk hn hR hst hW (fun _ q => by cases q) (fun v q => by cases q; exact kk)
theorem pw_flS {idx n : Nat} {y : MethodName} {cc1 : ByteArray} {nL1 : Nat} {ret1 : Option FieldType} {rm : Room} {avs st0 : List Value} {h1 : HP} {Ex : String}
    (hd : decode cc pc = .ok (.invokestatic idx, 3)) (hM : PT l G y (.code y cc1 nL1 ret1) rm avs S ad h (.inr Ex) h1) (hi : gMI y cc1 nL1 ret1 n) (hv : Cond.static y ∈ gUW) (hk : gML own idx y) (hn : avs.length = n)
    (hR : gRm rm R nL1 cells slots = true) (hst : st0 = avs.reverse ++ rest) (hW : gCat rest = true)
    (kx : PX l G cc own nL ret hh R CX E pc L rest S ad h1 (cells + rm.cells) (slots + rm.slots) Ex) : PW l G cc own nL ret hh R CX E pc L st0 S ad h cells slots :=
  pw_tS hd hM hi hv hk hn hR hst hW (fun _ q => by cases q; exact kx) (fun v q => by cases q)
end PWX
def wiB (n a b : Int32) : Bool := decide (a ≤ n) && decide (n ≤ b)
theorem wi_ok {x : Int32} {N t : Nat} (hx : x = nI N) (ht : t < N) (hN : N < 1000000) : wiB (nI t) 0 (x - 1) = true := by
  obtain ⟨M, rfl⟩ : ∃ M, N = M + 1 := ⟨N - 1, by omega⟩
  rw [hx, nI_pred, wiB, Bool.and_eq_true, decide_eq_true_eq, decide_eq_true_eq]
  exact ⟨nI_pos' (by omega), nI_le (by omega) (by omega)⟩
theorem wi_of {x n : Int32} {N : Nat} (hx : x = nI N) (hN : N < 1000000) (h : wiB n 0 (x - 1) = true) : ∃ t, t < N ∧ n = nI t := by
  rw [wiB, Bool.and_eq_true, decide_eq_true_eq, decide_eq_true_eq] at h
  rcases N with _ | M
  · rw [hx, show (nI 0 - 1 : Int32) = -1 from rfl] at h
    exact absurd (Int32.le_trans h.1 h.2) (by decide)
  · rw [hx, nI_pred] at h
    obtain ⟨j, hj, e⟩ := nI_of2 (M := nI M) (n := M) (nI_toInt (by omega)) (Int32.not_lt.mpr h.1) h.2
    exact ⟨j, by omega, e⟩
def labB (v g s r : Int32) : Bool := wiB v (-1) 99 && (wiB g (-1) 4 && (wiB s (-1) 4 && (wiB r (-1) 3 && (decide (s = -1) || (decide (¬ g = -1) && decide (¬ g = s))))))
set_option maxRecDepth 100000 in
set_option maxHeartbeats 4000000 in
theorem sp_X7_requireNumber_ok {l : Launch} {G : GC} {ad : Nat → Nat} (hfl : l.stackTraces = false) {S : List Sh} {h : HP} {n a b : Int32} (e : wiB n a b = true) : PT l G yX7_requireNumber (.code yX7_requireNumber cX7_requireNumber 3 ((Option.none : Option FieldType))) { frames := 6, cells := 1, slots := 6, locals := 90 } [.int (n), .int (a), .int (b)] S ad (h) (.inl none) (h) := by
  refine PT.mk (L0 := [some (.int (n)), some (.int (a)), some (.int (b))]) RX7 "requireNumber" 1 6 (by decide +kernel) rfl rfl ⟨rfl, rfl⟩ (by simp [Value.category]) (Nat.le_of_ble_eq_true rfl) rfl ?_
  refine pw_iload_n dX7_requireNumber_0 rfl ?_
  refine pw_iload_n dX7_requireNumber_1 rfl ?_
  refine pw_iload_n dX7_requireNumber_2 rfl ?_
  refine pw_cS dX7_requireNumber_3 (sp_X7_isWithin) mi_X7_isWithin ms_X7_isWithin ml_X7_161 rfl rfl ⟨rfl, rfl⟩ rfl rfl ?_
  refine pw_if_ne dX7_requireNumber_6 (tgt := 20) (by decide) (fun c6 => ?_) (fun c6 => absurd c6 (by rw [show (decide (a ≤ n) && decide (n ≤ b)) = true from e]; decide))
  exact pw_retT dX7_requireNumber_20 rfl rfl rfl rfl

set_option maxRecDepth 100000 in
set_option maxHeartbeats 4000000 in
theorem sp_X7_requireNumber_no {l : Launch} {G : GC} {ad : Nat → Nat} (hfl : l.stackTraces = false) {S : List Sh} {h : HP} {n a b : Int32} (e : wiB n a b = false) : PT l G yX7_requireNumber (.code yX7_requireNumber cX7_requireNumber 3 ((Option.none : Option FieldType))) { frames := 6, cells := 1, slots := 6, locals := 90 } [.int (n), .int (a), .int (b)] S ad (h) (.inr "java/lang/IllegalArgumentException") (h) := by
  refine PT.mk (L0 := [some (.int (n)), some (.int (a)), some (.int (b))]) RX7 "requireNumber" 1 6 (by decide +kernel) rfl rfl ⟨rfl, rfl⟩ (by simp [Value.category]) (Nat.le_of_ble_eq_true rfl) rfl ?_
  refine pw_iload_n dX7_requireNumber_0 rfl ?_
  refine pw_iload_n dX7_requireNumber_1 rfl ?_
  refine pw_iload_n dX7_requireNumber_2 rfl ?_
  refine pw_cS dX7_requireNumber_3 (sp_X7_isWithin) mi_X7_isWithin ms_X7_isWithin ml_X7_161 rfl rfl ⟨rfl, rfl⟩ rfl rfl ?_
  refine pw_if_ne dX7_requireNumber_6 (tgt := 20) (by decide) (fun c6 => absurd c6 (by rw [show (decide (a ≤ n) && decide (n ≤ b)) = false from e]; decide)) (fun c6 => ?_)
  exact pw_throwSW hfl tw_100_336_104 dX7_requireNumber_9 dX7_requireNumber_12 dX7_requireNumber_13 dX7_requireNumber_16 dX7_requireNumber_19 rfl ⟨Nat.le_of_ble_eq_true rfl, Nat.le_of_ble_eq_true rfl, Nat.le_of_ble_eq_true rfl, Nat.le_of_ble_eq_true rfl⟩ (⟨rfl, rfl⟩) (Nat.le_of_ble_eq_true rfl) (Nat.le_of_ble_eq_true rfl)

set_option maxRecDepth 100000 in
set_option maxHeartbeats 4000000 in
theorem sp_X7_requirePlace_ok {l : Launch} {G : GC} {ad : Nat → Nat} (hfl : l.stackTraces = false) {S : List Sh} {h : HP} {n c : Int32} (e : wiB n 0 (c - 1) = true) : PT l G yX7_requirePlace (.code yX7_requirePlace cX7_requirePlace 2 ((Option.none : Option FieldType))) { frames := 6, cells := 1, slots := 6, locals := 90 } [.int (n), .int (c)] S ad (h) (.inl none) (h) := by
  refine PT.mk (L0 := [some (.int (n)), some (.int (c))]) RX7 "requirePlace" 1 6 (by decide +kernel) rfl rfl ⟨rfl, rfl⟩ (by simp [Value.category]) (Nat.le_of_ble_eq_true rfl) rfl ?_
  refine pw_iload_n dX7_requirePlace_0 rfl ?_
  refine pw_iconst dX7_requirePlace_1 (v := 0) (by decide) ?_
  refine pw_iload_n dX7_requirePlace_2 rfl ?_
  refine pw_iconst dX7_requirePlace_3 (v := 1) (by decide) ?_
  refine pw_isub dX7_requirePlace_4 ?_
  refine pw_cS dX7_requirePlace_5 (sp_X7_isWithin) mi_X7_isWithin ms_X7_isWithin ml_X7_161 rfl rfl ⟨rfl, rfl⟩ rfl rfl ?_
  refine pw_if_ne dX7_requirePlace_8 (tgt := 22) (by decide) (fun c8 => ?_) (fun c8 => absurd c8 (by rw [show (decide (0 ≤ n) && decide (n ≤ c - 1)) = true from e]; decide))
  exact pw_retT dX7_requirePlace_22 rfl rfl rfl rfl

set_option maxRecDepth 100000 in
set_option maxHeartbeats 4000000 in
theorem sp_X7_requirePlace_no {l : Launch} {G : GC} {ad : Nat → Nat} (hfl : l.stackTraces = false) {S : List Sh} {h : HP} {n c : Int32} (e : wiB n 0 (c - 1) = false) : PT l G yX7_requirePlace (.code yX7_requirePlace cX7_requirePlace 2 ((Option.none : Option FieldType))) { frames := 6, cells := 1, slots := 6, locals := 90 } [.int (n), .int (c)] S ad (h) (.inr "java/lang/IndexOutOfBoundsException") (h) := by
  refine PT.mk (L0 := [some (.int (n)), some (.int (c))]) RX7 "requirePlace" 1 6 (by decide +kernel) rfl rfl ⟨rfl, rfl⟩ (by simp [Value.category]) (Nat.le_of_ble_eq_true rfl) rfl ?_
  refine pw_iload_n dX7_requirePlace_0 rfl ?_
  refine pw_iconst dX7_requirePlace_1 (v := 0) (by decide) ?_
  refine pw_iload_n dX7_requirePlace_2 rfl ?_
  refine pw_iconst dX7_requirePlace_3 (v := 1) (by decide) ?_
  refine pw_isub dX7_requirePlace_4 ?_
  refine pw_cS dX7_requirePlace_5 (sp_X7_isWithin) mi_X7_isWithin ms_X7_isWithin ml_X7_161 rfl rfl ⟨rfl, rfl⟩ rfl rfl ?_
  refine pw_if_ne dX7_requirePlace_8 (tgt := 22) (by decide) (fun c8 => absurd c8 (by rw [show (decide (0 ≤ n) && decide (n ≤ c - 1)) = false from e]; decide)) (fun c8 => ?_)
  exact pw_throwSW hfl tw_338_340_342 dX7_requirePlace_11 dX7_requirePlace_14 dX7_requirePlace_15 dX7_requirePlace_18 dX7_requirePlace_21 rfl ⟨Nat.le_of_ble_eq_true rfl, Nat.le_of_ble_eq_true rfl, Nat.le_of_ble_eq_true rfl, Nat.le_of_ble_eq_true rfl⟩ (⟨rfl, rfl⟩) (Nat.le_of_ble_eq_true rfl) (Nat.le_of_ble_eq_true rfl)

set_option maxRecDepth 100000 in
set_option maxHeartbeats 4000000 in
theorem sp_X7_requireLot_ok {l : Launch} {G : GC} {ad : Nat → Nat} (hfl : l.stackTraces = false) {h : HP} {n : Int32} (e : wiB n 0 (h 2 5 - 1) = true) : PT l G yX7_requireLot (.code yX7_requireLot cX7_requireLot 2 ((Option.none : Option FieldType))) { frames := 7, cells := 1, slots := 6, locals := 111 } [.ref (ad 0), .int (n)] SW ad (h) (.inl none) (h) := by
  refine PT.mk (L0 := [some (.ref (ad 0)), some (.int (n))]) RX7 "requireLot" 1 6 (by decide +kernel) rfl rfl ⟨rfl, rfl⟩ (by simp [Value.category]) (Nat.le_of_ble_eq_true rfl) rfl ?_
  refine pw_iload_n dX7_requireLot_0 rfl ?_
  refine pw_aload_n dX7_requireLot_1 rfl ?_
  refine pw_getr dX7_requireLot_2 lf_X7_10 sh_0 rfl ?_
  refine pw_getr dX7_requireLot_5 lf_X7_63 sh_1 rfl ?_
  refine pw_geti dX7_requireLot_8 lf_X7_67 sh_2 rfl ?_
  refine pw_okS dX7_requireLot_11 (sp_X7_requirePlace_ok hfl e) mi_X7_requirePlace ms_X7_requirePlace ml_X7_196 rfl rfl rfl rfl ?_
  exact pw_retT dX7_requireLot_14 rfl rfl rfl rfl

set_option maxRecDepth 100000 in
set_option maxHeartbeats 4000000 in
theorem sp_X7_requireLot_no {l : Launch} {G : GC} {ad : Nat → Nat} (hfl : l.stackTraces = false) {h : HP} {n : Int32} (e : wiB n 0 (h 2 5 - 1) = false) : PT l G yX7_requireLot (.code yX7_requireLot cX7_requireLot 2 ((Option.none : Option FieldType))) { frames := 7, cells := 1, slots := 6, locals := 111 } [.ref (ad 0), .int (n)] SW ad (h) (.inr "java/lang/IndexOutOfBoundsException") (h) := by
  refine PT.mk (L0 := [some (.ref (ad 0)), some (.int (n))]) RX7 "requireLot" 1 6 (by decide +kernel) rfl rfl ⟨rfl, rfl⟩ (by simp [Value.category]) (Nat.le_of_ble_eq_true rfl) rfl ?_
  refine pw_iload_n dX7_requireLot_0 rfl ?_
  refine pw_aload_n dX7_requireLot_1 rfl ?_
  refine pw_getr dX7_requireLot_2 lf_X7_10 sh_0 rfl ?_
  refine pw_getr dX7_requireLot_5 lf_X7_63 sh_1 rfl ?_
  refine pw_geti dX7_requireLot_8 lf_X7_67 sh_2 rfl ?_
  refine pw_flS dX7_requireLot_11 (sp_X7_requirePlace_no hfl e) mi_X7_requirePlace ms_X7_requirePlace ml_X7_196 rfl rfl rfl rfl ?_
  exact px_outT rfl rfl rfl rfl

set_option maxRecDepth 100000 in
set_option maxHeartbeats 4000000 in
theorem sp_X7_requireCustomerAndBottling_ok {l : Launch} {G : GC} {ad : Nat → Nat} (hfl : l.stackTraces = false) {h : HP} {n m : Int32} (e : wiB n 0 (h 16 3 - 1) = true) (e2 : wiB m 0 (h 13 1 - 1) = true) : PT l G yX7_requireCustomerAndBottling (.code yX7_requireCustomerAndBottling cX7_requireCustomerAndBottling 3 ((Option.none : Option FieldType))) { frames := 7, cells := 2, slots := 12, locals := 111 } [.ref (ad 0), .int (n), .int (m)] SW ad (h) (.inl none) (h) := by
  refine PT.mk (L0 := [some (.ref (ad 0)), some (.int (n)), some (.int (m))]) RX7 "requireCustomerAndBottling" 2 12 (by decide +kernel) rfl rfl ⟨rfl, rfl⟩ (by simp [Value.category]) (Nat.le_of_ble_eq_true rfl) rfl ?_
  refine pw_iload_n dX7_requireCustomerAndBottling_0 rfl ?_
  refine pw_aload_n dX7_requireCustomerAndBottling_1 rfl ?_
  refine pw_getr dX7_requireCustomerAndBottling_2 lf_X7_10 sh_0 rfl ?_
  refine pw_getr dX7_requireCustomerAndBottling_5 lf_X7_231 sh_1 rfl ?_
  refine pw_geti dX7_requireCustomerAndBottling_8 lf_X7_248 sh_16 rfl ?_
  refine pw_okS dX7_requireCustomerAndBottling_11 (sp_X7_requirePlace_ok hfl e) mi_X7_requirePlace ms_X7_requirePlace ml_X7_196 rfl rfl rfl rfl ?_
  refine pw_iload_n dX7_requireCustomerAndBottling_14 rfl ?_
  refine pw_aload_n dX7_requireCustomerAndBottling_15 rfl ?_
  refine pw_getr dX7_requireCustomerAndBottling_16 lf_X7_10 sh_0 rfl ?_
  refine pw_getr dX7_requireCustomerAndBottling_19 lf_X7_213 sh_1 rfl ?_
  refine pw_geti dX7_requireCustomerAndBottling_22 lf_X7_230 sh_13 rfl ?_
  refine pw_okS dX7_requireCustomerAndBottling_25 (sp_X7_requirePlace_ok hfl e2) mi_X7_requirePlace ms_X7_requirePlace ml_X7_196 rfl rfl rfl rfl ?_
  exact pw_retT dX7_requireCustomerAndBottling_28 rfl rfl rfl rfl

set_option maxRecDepth 100000 in
set_option maxHeartbeats 4000000 in
theorem sp_X7_requireCustomerAndBottling_no1 {l : Launch} {G : GC} {ad : Nat → Nat} (hfl : l.stackTraces = false) {h : HP} {n m : Int32} (e : wiB n 0 (h 16 3 - 1) = false) : PT l G yX7_requireCustomerAndBottling (.code yX7_requireCustomerAndBottling cX7_requireCustomerAndBottling 3 ((Option.none : Option FieldType))) { frames := 7, cells := 2, slots := 12, locals := 111 } [.ref (ad 0), .int (n), .int (m)] SW ad (h) (.inr "java/lang/IndexOutOfBoundsException") (h) := by
  refine PT.mk (L0 := [some (.ref (ad 0)), some (.int (n)), some (.int (m))]) RX7 "requireCustomerAndBottling" 2 12 (by decide +kernel) rfl rfl ⟨rfl, rfl⟩ (by simp [Value.category]) (Nat.le_of_ble_eq_true rfl) rfl ?_
  refine pw_iload_n dX7_requireCustomerAndBottling_0 rfl ?_
  refine pw_aload_n dX7_requireCustomerAndBottling_1 rfl ?_
  refine pw_getr dX7_requireCustomerAndBottling_2 lf_X7_10 sh_0 rfl ?_
  refine pw_getr dX7_requireCustomerAndBottling_5 lf_X7_231 sh_1 rfl ?_
  refine pw_geti dX7_requireCustomerAndBottling_8 lf_X7_248 sh_16 rfl ?_
  refine pw_flS dX7_requireCustomerAndBottling_11 (sp_X7_requirePlace_no hfl e) mi_X7_requirePlace ms_X7_requirePlace ml_X7_196 rfl rfl rfl rfl ?_
  exact px_outT rfl rfl rfl rfl

set_option maxRecDepth 100000 in
set_option maxHeartbeats 4000000 in
theorem sp_X7_requireCustomerAndBottling_no2 {l : Launch} {G : GC} {ad : Nat → Nat} (hfl : l.stackTraces = false) {h : HP} {n m : Int32} (e : wiB n 0 (h 16 3 - 1) = true) (e2 : wiB m 0 (h 13 1 - 1) = false) : PT l G yX7_requireCustomerAndBottling (.code yX7_requireCustomerAndBottling cX7_requireCustomerAndBottling 3 ((Option.none : Option FieldType))) { frames := 7, cells := 2, slots := 12, locals := 111 } [.ref (ad 0), .int (n), .int (m)] SW ad (h) (.inr "java/lang/IndexOutOfBoundsException") (h) := by
  refine PT.mk (L0 := [some (.ref (ad 0)), some (.int (n)), some (.int (m))]) RX7 "requireCustomerAndBottling" 2 12 (by decide +kernel) rfl rfl ⟨rfl, rfl⟩ (by simp [Value.category]) (Nat.le_of_ble_eq_true rfl) rfl ?_
  refine pw_iload_n dX7_requireCustomerAndBottling_0 rfl ?_
  refine pw_aload_n dX7_requireCustomerAndBottling_1 rfl ?_
  refine pw_getr dX7_requireCustomerAndBottling_2 lf_X7_10 sh_0 rfl ?_
  refine pw_getr dX7_requireCustomerAndBottling_5 lf_X7_231 sh_1 rfl ?_
  refine pw_geti dX7_requireCustomerAndBottling_8 lf_X7_248 sh_16 rfl ?_
  refine pw_okS dX7_requireCustomerAndBottling_11 (sp_X7_requirePlace_ok hfl e) mi_X7_requirePlace ms_X7_requirePlace ml_X7_196 rfl rfl rfl rfl ?_
  refine pw_iload_n dX7_requireCustomerAndBottling_14 rfl ?_
  refine pw_aload_n dX7_requireCustomerAndBottling_15 rfl ?_
  refine pw_getr dX7_requireCustomerAndBottling_16 lf_X7_10 sh_0 rfl ?_
  refine pw_getr dX7_requireCustomerAndBottling_19 lf_X7_213 sh_1 rfl ?_
  refine pw_geti dX7_requireCustomerAndBottling_22 lf_X7_230 sh_13 rfl ?_
  refine pw_flS dX7_requireCustomerAndBottling_25 (sp_X7_requirePlace_no hfl e2) mi_X7_requirePlace ms_X7_requirePlace ml_X7_196 rfl rfl rfl rfl ?_
  exact px_outT rfl rfl rfl rfl

set_option maxRecDepth 100000 in
set_option maxHeartbeats 4000000 in
theorem sp_X7_requireLabel_no1 {l : Launch} {G : GC} {ad : Nat → Nat} (hfl : l.stackTraces = false) {S : List Sh} {h : HP} {v g s r : Int32} (e1 : wiB v (-1) 99 = false) : PT l G yX7_requireLabel (.code yX7_requireLabel cX7_requireLabel 4 ((Option.none : Option FieldType))) { frames := 7, cells := 5, slots := 30, locals := 112 } [.int (v), .int (g), .int (s), .int (r)] S ad (h) (.inr "java/lang/IllegalArgumentException") (h) := by
  refine PT.mk (L0 := [some (.int (v)), some (.int (g)), some (.int (s)), some (.int (r))]) RX7 "requireLabel" 5 30 (by decide +kernel) rfl rfl ⟨rfl, rfl⟩ (by simp [Value.category]) (Nat.le_of_ble_eq_true rfl) rfl ?_
  refine pw_iload_n dX7_requireLabel_0 rfl ?_
  refine pw_iconst dX7_requireLabel_1 (v := (-1)) (by decide) ?_
  refine pw_bipush dX7_requireLabel_2 (v := 99) (by decide) ?_
  refine pw_flS dX7_requireLabel_4 (sp_X7_requireNumber_no hfl e1) mi_X7_requireNumber ms_X7_requireNumber ml_X7_59 rfl rfl rfl rfl ?_
  exact px_outT rfl rfl rfl rfl

set_option maxRecDepth 100000 in
set_option maxHeartbeats 4000000 in
theorem sp_X7_requireLabel_no2 {l : Launch} {G : GC} {ad : Nat → Nat} (hfl : l.stackTraces = false) {S : List Sh} {h : HP} {v g s r : Int32} (e1 : wiB v (-1) 99 = true) (e2 : wiB g (-1) 4 = false) : PT l G yX7_requireLabel (.code yX7_requireLabel cX7_requireLabel 4 ((Option.none : Option FieldType))) { frames := 7, cells := 5, slots := 30, locals := 112 } [.int (v), .int (g), .int (s), .int (r)] S ad (h) (.inr "java/lang/IllegalArgumentException") (h) := by
  refine PT.mk (L0 := [some (.int (v)), some (.int (g)), some (.int (s)), some (.int (r))]) RX7 "requireLabel" 5 30 (by decide +kernel) rfl rfl ⟨rfl, rfl⟩ (by simp [Value.category]) (Nat.le_of_ble_eq_true rfl) rfl ?_
  refine pw_iload_n dX7_requireLabel_0 rfl ?_
  refine pw_iconst dX7_requireLabel_1 (v := (-1)) (by decide) ?_
  refine pw_bipush dX7_requireLabel_2 (v := 99) (by decide) ?_
  refine pw_okS dX7_requireLabel_4 (sp_X7_requireNumber_ok hfl e1) mi_X7_requireNumber ms_X7_requireNumber ml_X7_59 rfl rfl rfl rfl ?_
  refine pw_iload_n dX7_requireLabel_7 rfl ?_
  refine pw_iconst dX7_requireLabel_8 (v := (-1)) (by decide) ?_
  refine pw_iconst dX7_requireLabel_9 (v := 4) (by decide) ?_
  refine pw_flS dX7_requireLabel_10 (sp_X7_requireNumber_no hfl e2) mi_X7_requireNumber ms_X7_requireNumber ml_X7_59 rfl rfl rfl rfl ?_
  exact px_outT rfl rfl rfl rfl

set_option maxRecDepth 100000 in
set_option maxHeartbeats 4000000 in
theorem sp_X7_requireLabel_no3 {l : Launch} {G : GC} {ad : Nat → Nat} (hfl : l.stackTraces = false) {S : List Sh} {h : HP} {v g s r : Int32} (e1 : wiB v (-1) 99 = true) (e2 : wiB g (-1) 4 = true) (e3 : wiB s (-1) 4 = false) : PT l G yX7_requireLabel (.code yX7_requireLabel cX7_requireLabel 4 ((Option.none : Option FieldType))) { frames := 7, cells := 5, slots := 30, locals := 112 } [.int (v), .int (g), .int (s), .int (r)] S ad (h) (.inr "java/lang/IllegalArgumentException") (h) := by
  refine PT.mk (L0 := [some (.int (v)), some (.int (g)), some (.int (s)), some (.int (r))]) RX7 "requireLabel" 5 30 (by decide +kernel) rfl rfl ⟨rfl, rfl⟩ (by simp [Value.category]) (Nat.le_of_ble_eq_true rfl) rfl ?_
  refine pw_iload_n dX7_requireLabel_0 rfl ?_
  refine pw_iconst dX7_requireLabel_1 (v := (-1)) (by decide) ?_
  refine pw_bipush dX7_requireLabel_2 (v := 99) (by decide) ?_
  refine pw_okS dX7_requireLabel_4 (sp_X7_requireNumber_ok hfl e1) mi_X7_requireNumber ms_X7_requireNumber ml_X7_59 rfl rfl rfl rfl ?_
  refine pw_iload_n dX7_requireLabel_7 rfl ?_
  refine pw_iconst dX7_requireLabel_8 (v := (-1)) (by decide) ?_
  refine pw_iconst dX7_requireLabel_9 (v := 4) (by decide) ?_
  refine pw_okS dX7_requireLabel_10 (sp_X7_requireNumber_ok hfl e2) mi_X7_requireNumber ms_X7_requireNumber ml_X7_59 rfl rfl rfl rfl ?_
  refine pw_iload_n dX7_requireLabel_13 rfl ?_
  refine pw_iconst dX7_requireLabel_14 (v := (-1)) (by decide) ?_
  refine pw_iconst dX7_requireLabel_15 (v := 4) (by decide) ?_
  refine pw_flS dX7_requireLabel_16 (sp_X7_requireNumber_no hfl e3) mi_X7_requireNumber ms_X7_requireNumber ml_X7_59 rfl rfl rfl rfl ?_
  exact px_outT rfl rfl rfl rfl

set_option maxRecDepth 100000 in
set_option maxHeartbeats 4000000 in
theorem sp_X7_requireLabel_no4 {l : Launch} {G : GC} {ad : Nat → Nat} (hfl : l.stackTraces = false) {S : List Sh} {h : HP} {v g s r : Int32} (e1 : wiB v (-1) 99 = true) (e2 : wiB g (-1) 4 = true) (e3 : wiB s (-1) 4 = true) (e4 : wiB r (-1) 3 = false) : PT l G yX7_requireLabel (.code yX7_requireLabel cX7_requireLabel 4 ((Option.none : Option FieldType))) { frames := 7, cells := 5, slots := 30, locals := 112 } [.int (v), .int (g), .int (s), .int (r)] S ad (h) (.inr "java/lang/IllegalArgumentException") (h) := by
  refine PT.mk (L0 := [some (.int (v)), some (.int (g)), some (.int (s)), some (.int (r))]) RX7 "requireLabel" 5 30 (by decide +kernel) rfl rfl ⟨rfl, rfl⟩ (by simp [Value.category]) (Nat.le_of_ble_eq_true rfl) rfl ?_
  refine pw_iload_n dX7_requireLabel_0 rfl ?_
  refine pw_iconst dX7_requireLabel_1 (v := (-1)) (by decide) ?_
  refine pw_bipush dX7_requireLabel_2 (v := 99) (by decide) ?_
  refine pw_okS dX7_requireLabel_4 (sp_X7_requireNumber_ok hfl e1) mi_X7_requireNumber ms_X7_requireNumber ml_X7_59 rfl rfl rfl rfl ?_
  refine pw_iload_n dX7_requireLabel_7 rfl ?_
  refine pw_iconst dX7_requireLabel_8 (v := (-1)) (by decide) ?_
  refine pw_iconst dX7_requireLabel_9 (v := 4) (by decide) ?_
  refine pw_okS dX7_requireLabel_10 (sp_X7_requireNumber_ok hfl e2) mi_X7_requireNumber ms_X7_requireNumber ml_X7_59 rfl rfl rfl rfl ?_
  refine pw_iload_n dX7_requireLabel_13 rfl ?_
  refine pw_iconst dX7_requireLabel_14 (v := (-1)) (by decide) ?_
  refine pw_iconst dX7_requireLabel_15 (v := 4) (by decide) ?_
  refine pw_okS dX7_requireLabel_16 (sp_X7_requireNumber_ok hfl e3) mi_X7_requireNumber ms_X7_requireNumber ml_X7_59 rfl rfl rfl rfl ?_
  refine pw_iload_n dX7_requireLabel_19 rfl ?_
  refine pw_iconst dX7_requireLabel_20 (v := (-1)) (by decide) ?_
  refine pw_iconst dX7_requireLabel_21 (v := 3) (by decide) ?_
  refine pw_flS dX7_requireLabel_22 (sp_X7_requireNumber_no hfl e4) mi_X7_requireNumber ms_X7_requireNumber ml_X7_59 rfl rfl rfl rfl ?_
  exact px_outT rfl rfl rfl rfl

set_option maxRecDepth 100000 in
set_option maxHeartbeats 4000000 in
theorem sp_X7_requireLabel_ok {l : Launch} {G : GC} {ad : Nat → Nat} (hfl : l.stackTraces = false) {S : List Sh} {h : HP} {v g s r : Int32}  (e1 : wiB v (-1) 99 = true) (e2 : wiB g (-1) 4 = true) (e3 : wiB s (-1) 4 = true) (e4 : wiB r (-1) 3 = true) (e5 : s = -1 ∨ (¬ g = -1 ∧ ¬ g = s)) : PT l G yX7_requireLabel (.code yX7_requireLabel cX7_requireLabel 4 ((Option.none : Option FieldType))) { frames := 7, cells := 5, slots := 30, locals := 112 } [.int (v), .int (g), .int (s), .int (r)] S ad (h) (.inl none) (h) := by
  refine PT.mk (L0 := [some (.int (v)), some (.int (g)), some (.int (s)), some (.int (r))]) RX7 "requireLabel" 5 30 (by decide +kernel) rfl rfl ⟨rfl, rfl⟩ (by simp [Value.category]) (Nat.le_of_ble_eq_true rfl) rfl ?_
  refine pw_iload_n dX7_requireLabel_0 rfl ?_
  refine pw_iconst dX7_requireLabel_1 (v := (-1)) (by decide) ?_
  refine pw_bipush dX7_requireLabel_2 (v := 99) (by decide) ?_
  refine pw_okS dX7_requireLabel_4 (sp_X7_requireNumber_ok hfl e1) mi_X7_requireNumber ms_X7_requireNumber ml_X7_59 rfl rfl rfl rfl ?_
  refine pw_iload_n dX7_requireLabel_7 rfl ?_
  refine pw_iconst dX7_requireLabel_8 (v := (-1)) (by decide) ?_
  refine pw_iconst dX7_requireLabel_9 (v := 4) (by decide) ?_
  refine pw_okS dX7_requireLabel_10 (sp_X7_requireNumber_ok hfl e2) mi_X7_requireNumber ms_X7_requireNumber ml_X7_59 rfl rfl rfl rfl ?_
  refine pw_iload_n dX7_requireLabel_13 rfl ?_
  refine pw_iconst dX7_requireLabel_14 (v := (-1)) (by decide) ?_
  refine pw_iconst dX7_requireLabel_15 (v := 4) (by decide) ?_
  refine pw_okS dX7_requireLabel_16 (sp_X7_requireNumber_ok hfl e3) mi_X7_requireNumber ms_X7_requireNumber ml_X7_59 rfl rfl rfl rfl ?_
  refine pw_iload_n dX7_requireLabel_19 rfl ?_
  refine pw_iconst dX7_requireLabel_20 (v := (-1)) (by decide) ?_
  refine pw_iconst dX7_requireLabel_21 (v := 3) (by decide) ?_
  refine pw_okS dX7_requireLabel_22 (sp_X7_requireNumber_ok hfl e4) mi_X7_requireNumber ms_X7_requireNumber ml_X7_59 rfl rfl rfl rfl ?_
  refine pw_iload_n dX7_requireLabel_25 rfl ?_
  refine pw_iconst dX7_requireLabel_26 (v := (-1)) (by decide) ?_
  refine pw_icmp_eq dX7_requireLabel_27 (tgt := 51) (by decide) (fun c27 => ?_) (fun c27 => ?_)
  · skip
    exact pw_retT dX7_requireLabel_51 rfl rfl rfl rfl
  · skip
    refine pw_iload_n dX7_requireLabel_30 rfl ?_
    refine pw_iconst dX7_requireLabel_31 (v := (-1)) (by decide) ?_
    refine pw_icmp_eq dX7_requireLabel_32 (tgt := 40) (by decide) (fun c32 => ?_) (fun c32 => ?_)
    · skip
      exact absurd e5 (by first | (rintro (q | ⟨q, -⟩); exact c27 q; exact q c32) | (rintro (q | ⟨-, q⟩); exact c27 q; exact q c37))
    · skip
      refine pw_iload_n dX7_requireLabel_35 rfl ?_
      refine pw_iload_n dX7_requireLabel_36 rfl ?_
      refine pw_icmp_ne dX7_requireLabel_37 (tgt := 51) (by decide) (fun c37 => ?_) (fun c37 => ?_)
      · skip
        exact pw_retT dX7_requireLabel_51 rfl rfl rfl rfl
      · skip
        exact absurd e5 (by first | (rintro (q | ⟨q, -⟩); exact c27 q; exact q c32) | (rintro (q | ⟨-, q⟩); exact c27 q; exact q c37))

set_option maxRecDepth 100000 in
set_option maxHeartbeats 4000000 in
theorem sp_X7_requireLabel_no5 {l : Launch} {G : GC} {ad : Nat → Nat} (hfl : l.stackTraces = false) {S : List Sh} {h : HP} {v g s r : Int32}  (e1 : wiB v (-1) 99 = true) (e2 : wiB g (-1) 4 = true) (e3 : wiB s (-1) 4 = true) (e4 : wiB r (-1) 3 = true) (e5 : ¬ (s = -1 ∨ (¬ g = -1 ∧ ¬ g = s))) : PT l G yX7_requireLabel (.code yX7_requireLabel cX7_requireLabel 4 ((Option.none : Option FieldType))) { frames := 7, cells := 5, slots := 30, locals := 112 } [.int (v), .int (g), .int (s), .int (r)] S ad (h) (.inr "java/lang/IllegalArgumentException") (h) := by
  refine PT.mk (L0 := [some (.int (v)), some (.int (g)), some (.int (s)), some (.int (r))]) RX7 "requireLabel" 5 30 (by decide +kernel) rfl rfl ⟨rfl, rfl⟩ (by simp [Value.category]) (Nat.le_of_ble_eq_true rfl) rfl ?_
  refine pw_iload_n dX7_requireLabel_0 rfl ?_
  refine pw_iconst dX7_requireLabel_1 (v := (-1)) (by decide) ?_
  refine pw_bipush dX7_requireLabel_2 (v := 99) (by decide) ?_
  refine pw_okS dX7_requireLabel_4 (sp_X7_requireNumber_ok hfl e1) mi_X7_requireNumber ms_X7_requireNumber ml_X7_59 rfl rfl rfl rfl ?_
  refine pw_iload_n dX7_requireLabel_7 rfl ?_
  refine pw_iconst dX7_requireLabel_8 (v := (-1)) (by decide) ?_
  refine pw_iconst dX7_requireLabel_9 (v := 4) (by decide) ?_
  refine pw_okS dX7_requireLabel_10 (sp_X7_requireNumber_ok hfl e2) mi_X7_requireNumber ms_X7_requireNumber ml_X7_59 rfl rfl rfl rfl ?_
  refine pw_iload_n dX7_requireLabel_13 rfl ?_
  refine pw_iconst dX7_requireLabel_14 (v := (-1)) (by decide) ?_
  refine pw_iconst dX7_requireLabel_15 (v := 4) (by decide) ?_
  refine pw_okS dX7_requireLabel_16 (sp_X7_requireNumber_ok hfl e3) mi_X7_requireNumber ms_X7_requireNumber ml_X7_59 rfl rfl rfl rfl ?_
  refine pw_iload_n dX7_requireLabel_19 rfl ?_
  refine pw_iconst dX7_requireLabel_20 (v := (-1)) (by decide) ?_
  refine pw_iconst dX7_requireLabel_21 (v := 3) (by decide) ?_
  refine pw_okS dX7_requireLabel_22 (sp_X7_requireNumber_ok hfl e4) mi_X7_requireNumber ms_X7_requireNumber ml_X7_59 rfl rfl rfl rfl ?_
  refine pw_iload_n dX7_requireLabel_25 rfl ?_
  refine pw_iconst dX7_requireLabel_26 (v := (-1)) (by decide) ?_
  refine pw_icmp_eq dX7_requireLabel_27 (tgt := 51) (by decide) (fun c27 => ?_) (fun c27 => ?_)
  · skip
    exact absurd (Or.inl c27) e5
  · skip
    refine pw_iload_n dX7_requireLabel_30 rfl ?_
    refine pw_iconst dX7_requireLabel_31 (v := (-1)) (by decide) ?_
    refine pw_icmp_eq dX7_requireLabel_32 (tgt := 40) (by decide) (fun c32 => ?_) (fun c32 => ?_)
    · skip
      exact pw_throwSW hfl tw_100_343_104 dX7_requireLabel_40 dX7_requireLabel_43 dX7_requireLabel_44 dX7_requireLabel_47 dX7_requireLabel_50 rfl ⟨Nat.le_of_ble_eq_true rfl, Nat.le_of_ble_eq_true rfl, Nat.le_of_ble_eq_true rfl, Nat.le_of_ble_eq_true rfl⟩ (⟨rfl, rfl⟩) (Nat.le_of_ble_eq_true rfl) (Nat.le_of_ble_eq_true rfl)
    · skip
      refine pw_iload_n dX7_requireLabel_35 rfl ?_
      refine pw_iload_n dX7_requireLabel_36 rfl ?_
      refine pw_icmp_ne dX7_requireLabel_37 (tgt := 51) (by decide) (fun c37 => ?_) (fun c37 => ?_)
      · skip
        exact absurd (Or.inr ⟨c32, c37⟩) e5
      · skip
        exact pw_throwSW hfl tw_100_343_104 dX7_requireLabel_40 dX7_requireLabel_43 dX7_requireLabel_44 dX7_requireLabel_47 dX7_requireLabel_50 rfl ⟨Nat.le_of_ble_eq_true rfl, Nat.le_of_ble_eq_true rfl, Nat.le_of_ble_eq_true rfl, Nat.le_of_ble_eq_true rfl⟩ (⟨rfl, rfl⟩) (Nat.le_of_ble_eq_true rfl) (Nat.le_of_ble_eq_true rfl)

set_option maxRecDepth 100000 in
set_option maxHeartbeats 4000000 in
theorem sp_X7_requireNoRefusal_ok {l : Launch} {G : GC} {ad : Nat → Nat} (hfl : l.stackTraces = false) {h : HP} {r : Int32} (e : r = 0) : PT l G yX7_requireNoRefusal (.code yX7_requireNoRefusal cX7_requireNoRefusal 2 ((Option.none : Option FieldType))) { frames := 6, cells := 1, slots := 6, locals := 90 } [.ref (ad 0), .int (r)] SW ad (h) (.inl none) (h) := by
  refine PT.mk (L0 := [some (.ref (ad 0)), some (.int (r))]) RX7 "requireNoRefusal" 1 6 (by decide +kernel) rfl rfl ⟨rfl, rfl⟩ (by simp [Value.category]) (Nat.le_of_ble_eq_true rfl) rfl ?_
  refine pw_iload_n dX7_requireNoRefusal_0 rfl ?_
  refine pw_if_eq dX7_requireNoRefusal_1 (tgt := 20) (by decide) (fun c1 => ?_) (fun c1 => absurd c1 (fun q => q e))
  exact pw_retT dX7_requireNoRefusal_20 rfl rfl rfl rfl

set_option maxRecDepth 100000 in
set_option maxHeartbeats 4000000 in
theorem sp_X7_requireNoRefusal_no {l : Launch} {G : GC} {ad : Nat → Nat} (hfl : l.stackTraces = false) {h : HP} {r : Int32} (e : ¬ r = 0) : PT l G yX7_requireNoRefusal (.code yX7_requireNoRefusal cX7_requireNoRefusal 2 ((Option.none : Option FieldType))) { frames := 6, cells := 1, slots := 6, locals := 90 } [.ref (ad 0), .int (r)] SW ad (h) (.inr "java/lang/IllegalStateException") (hput h 0 8 r) := by
  refine PT.mk (L0 := [some (.ref (ad 0)), some (.int (r))]) RX7 "requireNoRefusal" 1 6 (by decide +kernel) rfl rfl ⟨rfl, rfl⟩ (by simp [Value.category]) (Nat.le_of_ble_eq_true rfl) rfl ?_
  refine pw_iload_n dX7_requireNoRefusal_0 rfl ?_
  refine pw_if_eq dX7_requireNoRefusal_1 (tgt := 20) (by decide) (fun c1 => absurd c1 (e)) (fun c1 => ?_)
  refine pw_aload_n dX7_requireNoRefusal_4 rfl ?_
  refine pw_iload_n dX7_requireNoRefusal_5 rfl ?_
  refine pw_puti dX7_requireNoRefusal_6 lf_X7_52 lp_7_8 sh_0 rfl rfl rfl ?_
  exact pw_throwSW hfl tw_75_345_79 dX7_requireNoRefusal_9 dX7_requireNoRefusal_12 dX7_requireNoRefusal_13 dX7_requireNoRefusal_16 dX7_requireNoRefusal_19 rfl ⟨Nat.le_of_ble_eq_true rfl, Nat.le_of_ble_eq_true rfl, Nat.le_of_ble_eq_true rfl, Nat.le_of_ble_eq_true rfl⟩ (⟨rfl, rfl⟩) (Nat.le_of_ble_eq_true rfl) (Nat.le_of_ble_eq_true rfl)

