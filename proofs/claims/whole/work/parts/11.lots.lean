/-! THE LOTS -/
def WF (h : HP) (nL nH nB nC : Nat) (np : Nat → Nat) (pl : Nat → Nat → Nat) : Prop :=
  (h 2 5 = nI nL ∧ nL ≤ 24) ∧ (h 2 6 = nI nH ∧ nH ≤ 12) ∧ (h 13 1 = nI nB ∧ nB ≤ 16) ∧ (h 16 3 = nI nC ∧ nC ≤ 8) ∧
  (∀ b, b < 24 → h 4 (b * 5 + 2) = nI (np b) ∧ np b ≤ 4) ∧ (∀ b k, b < 24 → k < 4 → h 6 (b * 4 + k) = nI (pl b k) ∧ pl b k < 24)
/-- a counter below its bound, at its bound -/
theorem ltN {i N : Nat} {x : Int32} (hx : x = nI N) (hi : i ≤ N) (hN : N < 1000000) (c : ¬ (x ≤ nI i)) : i < N := by
  rcases Nat.lt_or_ge i N with q | q
  · exact q
  · exact absurd (by rw [hx]; exact nI_le q (by omega)) c
theorem eqN {i N : Nat} {x : Int32} (hx : x = nI N) (hi : i ≤ N) (hN : N < 1000000) (c : x ≤ nI i) : i = N := by
  rcases Nat.lt_or_ge i N with q | q
  · exact absurd (by rw [hx] at c; exact c) (nI_ge q (by omega))
  · omega
theorem sumC_if {p : Nat → Prop} [DecidablePred p] {f : Nat → Int32} {n : Nat} (h : p n) : sumC (fun k => if p k then f k else 0) (n + 1) = sumC (fun k => if p k then f k else 0) n + f n := by
  show _ + (if p n then f n else 0) = _
  rw [if_pos h]
theorem sumC_no {p : Nat → Prop} [DecidablePred p] {f : Nat → Int32} {n : Nat} (h : ¬ p n) : sumC (fun k => if p k then f k else 0) (n + 1) = sumC (fun k => if p k then f k else 0) n := by
  show _ + (if p n then f n else 0) = _
  rw [if_neg h, Int32.add_zero]
theorem cntB_yes {p : Nat → Bool} {n : Nat} (h : p n = true) : nI (cntB p n) + 1 = nI (cntB p (n + 1)) := by
  rw [nI_1]; simp [cntB, h]
theorem cntB_no {p : Nat → Bool} {n : Nat} (h : p n = false) : nI (cntB p n) = nI (cntB p (n + 1)) := by
  simp [cntB, h]
def orI (g : Nat → Int32) : Nat → Int32
  | 0 => 0
  | n + 1 => orI g n ||| g n
theorem cnt_s {p : Nat → Bool} {n : Nat} {x : Int32} (hx : x = nI (cntB p n)) (h : p n = true) : x + 1 = nI (cntB p (n + 1)) := by
  rw [hx, nI_1]; simp [cntB, h]
theorem cnt_n {p : Nat → Bool} {n : Nat} {x : Int32} (hx : x = nI (cntB p n)) (h : p n = false) : x = nI (cntB p (n + 1)) := by
  rw [hx]; simp [cntB, h]
theorem sum_s {p : Nat → Prop} [DecidablePred p] {f : Nat → Int32} {n : Nat} {x : Int32} (hx : x = sumC (fun k => if p k then f k else 0) n) (h : p n) : x + f n = sumC (fun k => if p k then f k else 0) (n + 1) := by
  rw [hx]; exact (sumC_if h).symm
theorem sum_n {p : Nat → Prop} [DecidablePred p] {f : Nat → Int32} {n : Nat} {x : Int32} (hx : x = sumC (fun k => if p k then f k else 0) n) (h : ¬ p n) : x = sumC (fun k => if p k then f k else 0) (n + 1) := by
  rw [hx]; exact (sumC_no h).symm
def ifOr (b : Bool) (x : Int32) : Int32 := if b then x else 0
theorem or_s {p : Nat → Bool} {g : Nat → Int32} {n : Nat} {x : Int32} (hx : x = orI (fun k => ifOr (p k) (g k)) n) (h : p n = true) : x ||| g n = orI (fun k => ifOr (p k) (g k)) (n + 1) := by
  rw [hx]; simp [orI, ifOr, h]
theorem or_n {p : Nat → Bool} {g : Nat → Int32} {n : Nat} {x : Int32} (hx : x = orI (fun k => ifOr (p k) (g k)) n) (h : p n = false) : x = orI (fun k => ifOr (p k) (g k)) (n + 1) := by
  rw [hx]; simp [orI, ifOr, h]
def inS (s m : Int32) : Bool := decide ((s >>> (m &&& 31)) &&& 1 = 1)
def b2i (b : Bool) : Int32 := if b then 1 else 0
theorem b2i_ne {b : Bool} (h : ¬ b2i b = 0) : b = true := by
  cases b
  · exact absurd rfl h
  · rfl
theorem b2i_eq {b : Bool} (h : b2i b = 0) : b = false := by
  cases b
  · rfl
  · exact absurd h (by decide)
def bit1 (k : Nat) : Int32 := 1 <<< (nI k &&& 31)
/-- the lots that are parts of a lot, as bits -/
def psI (np : Nat → Nat) (pl : Nat → Nat → Nat) (lot : Nat) : Int32 := orI (fun k => bit1 (pl lot k)) (np lot)
/-- the lots of which a lot is a part, as bits -/
def blP (np : Nat → Nat) (pl : Nat → Nat → Nat) (lot b : Nat) : Bool := decide (lot < b) && inS (psI np pl b) (nI lot)
def blI (np : Nat → Nat) (pl : Nat → Nat → Nat) (nL lot : Nat) : Int32 := orI (fun b => ifOr (blP np pl lot b) (bit1 b)) nL
theorem orI_none {p : Nat → Bool} {g : Nat → Int32} : ∀ {n : Nat}, (∀ k, k < n → p k = false) → orI (fun k => ifOr (p k) (g k)) n = 0
  | 0, _ => rfl
  | n + 1, h => by
    show orI _ n ||| ifOr (p n) (g n) = 0
    rw [orI_none (fun k hk => h k (by omega)), h n (by omega)]
    simp [ifOr]
def amF (bl : Nat → Int32) (s : Int32) (i : Nat) : Nat → Int32
  | 0 => s
  | m + 1 => amF bl (if inS s (nI i) then s ||| bl i else s) (i + 1) m
def atF (ps : Nat → Int32) (s : Int32) : Nat → Int32
  | 0 => s
  | n + 1 => atF ps (if inS s (nI n) then s ||| ps n else s) n
theorem blI_ge {np : Nat → Nat} {pl : Nat → Nat → Nat} {nL lot i : Nat} (h1 : nL ≤ i) (h2 : i ≤ nL ∨ i = lot + 1) (h3 : lot < i) : orI (fun b => ifOr (blP np pl lot b) (bit1 b)) i = blI np pl nL lot := by
  rcases h2 with h2 | h2
  · have e : i = nL := by omega
    rw [e]; rfl
  · unfold blI
    rw [orI_none (fun k hk => by simp [blP]; omega), orI_none (fun k hk => by simp [blP]; omega)]
theorem pk_m1p (n : Nat) : nI n + (-1) = nI n - 1 := by rw [Int32.sub_eq_add_neg]
set_option maxRecDepth 100000 in
set_option maxHeartbeats 4000000 in
theorem sp_X4_leftIn {l : Launch} {G : GC} {ad : Nat → Nat} {h : HP} {lot : Nat} (hlot : lot < 24) : PF l G yX4_leftIn (.code yX4_leftIn cX4_leftIn 2 ((Option.some FieldType.int))) { frames := 2, cells := 0, slots := 0, locals := 45 } [.ref (ad 2), .int (nI lot)] SW ad (h) (some (.int (h 4 (lot * 5 + 1)))) (h) := by
  refine PF.mk (L0 := [some (.ref (ad 2)), some (.int (nI lot))]) RX4 "leftIn" 0 0 (by decide +kernel) rfl rfl ⟨rfl, rfl⟩ (by simp [Value.category]) (Nat.le_of_ble_eq_true rfl) rfl ?_
  refine pw_aload_n dX4_leftIn_0 rfl ?_
  refine pw_getr dX4_leftIn_1 lf_X4_14 sh_2 rfl ?_
  refine pw_iload_n dX4_leftIn_4 rfl ?_
  refine pw_iconst dX4_leftIn_5 (v := 1) (by decide) ?_
  refine pw_cV dX4_leftIn_6 (sp_X6_at tq_3 (r := lot) (k := 1) rfl rfl (hlot) (by decide)) mi_X6_at mv_X6_at ml_X4_80 sh_3 rfl rfl rfl rfl ⟨rfl, rfl⟩ rfl rfl ?_
  exact pw_iretF dX4_leftIn_9 rfl rfl rfl rfl rfl

set_option maxRecDepth 100000 in
set_option maxHeartbeats 4000000 in
theorem sp_X4_partsOf {l : Launch} {G : GC} {ad : Nat → Nat} {h : HP} {lot : Nat} (hlot : lot < 24) : PF l G yX4_partsOf (.code yX4_partsOf cX4_partsOf 2 ((Option.some FieldType.int))) { frames := 2, cells := 0, slots := 0, locals := 45 } [.ref (ad 2), .int (nI lot)] SW ad (h) (some (.int (h 4 (lot * 5 + 2)))) (h) := by
  refine PF.mk (L0 := [some (.ref (ad 2)), some (.int (nI lot))]) RX4 "partsOf" 0 0 (by decide +kernel) rfl rfl ⟨rfl, rfl⟩ (by simp [Value.category]) (Nat.le_of_ble_eq_true rfl) rfl ?_
  refine pw_aload_n dX4_partsOf_0 rfl ?_
  refine pw_getr dX4_partsOf_1 lf_X4_14 sh_2 rfl ?_
  refine pw_iload_n dX4_partsOf_4 rfl ?_
  refine pw_iconst dX4_partsOf_5 (v := 2) (by decide) ?_
  refine pw_cV dX4_partsOf_6 (sp_X6_at tq_3 (r := lot) (k := 2) rfl rfl (hlot) (by decide)) mi_X6_at mv_X6_at ml_X4_80 sh_3 rfl rfl rfl rfl ⟨rfl, rfl⟩ rfl rfl ?_
  exact pw_iretF dX4_partsOf_9 rfl rfl rfl rfl rfl

set_option maxRecDepth 100000 in
set_option maxHeartbeats 4000000 in
theorem sp_X4_take {l : Launch} {G : GC} {ad : Nat → Nat} {h : HP} {lot : Nat} (hlot : lot < 24) {q : Int32} : PF l G yX4_take (.code yX4_take cX4_take 3 ((Option.none : Option FieldType))) { frames := 3, cells := 0, slots := 0, locals := 69 } [.ref (ad 2), .int (nI lot), .int (q)] SW ad (h) (none) (hput h 4 (lot * 5 + 1) (h 4 (lot * 5 + 1) + (-q))) := by
  refine PF.mk (L0 := [some (.ref (ad 2)), some (.int (nI lot)), some (.int (q))]) RX4 "take" 0 0 (by decide +kernel) rfl rfl ⟨rfl, rfl⟩ (by simp [Value.category]) (Nat.le_of_ble_eq_true rfl) rfl ?_
  refine pw_aload_n dX4_take_0 rfl ?_
  refine pw_getr dX4_take_1 lf_X4_14 sh_2 rfl ?_
  refine pw_iload_n dX4_take_4 rfl ?_
  refine pw_iconst dX4_take_5 (v := 1) (by decide) ?_
  refine pw_iload_n dX4_take_6 rfl ?_
  refine pw_ineg dX4_take_7 ?_
  refine pw_cVn dX4_take_8 (sp_X6_add tq_3 (r := lot) (k := 1) rfl rfl (hlot) (by decide)) mi_X6_add mv_X6_add ml_X4_77 sh_3 rfl rfl rfl rfl ⟨rfl, rfl⟩ rfl rfl ?_
  exact pw_retF dX4_take_11 rfl rfl rfl

set_option maxRecDepth 100000 in
set_option maxHeartbeats 4000000 in
theorem sp_X4_enter {l : Launch} {G : GC} {ad : Nat → Nat} {h : HP} {nL : Nat} (hn : h 2 5 = nI nL) (hn24 : nL < 24) {q p g v : Int32} : PF l G yX4_enter (.code yX4_enter cX4_enter 6 ((Option.some FieldType.int))) { frames := 2, cells := 0, slots := 0, locals := 46 } [.ref (ad 2), .int (q), .int (p), .int (g), .int (v)] SW ad (h) (some (.int (nI nL))) (hput (hput (hput (hput (hput (hput (h) 4 (nL * 5 + 0) q) 4 (nL * 5 + 1) q) 4 (nL * 5 + 2) p) 4 (nL * 5 + 3) g) 4 (nL * 5 + 4) v) 2 5 (nI (nL + 1))) := by
  refine PF.mk (L0 := [some (.ref (ad 2)), some (.int (q)), some (.int (p)), some (.int (g)), some (.int (v)), none]) RX4 "enter" 0 0 (by decide +kernel) rfl rfl ⟨rfl, rfl⟩ (by simp [Value.category]) (Nat.le_of_ble_eq_true rfl) rfl ?_
  refine pw_aload_n dX4_enter_0 rfl ?_
  refine pw_geti dX4_enter_1 lf_X4_32 sh_2 rfl ?_
  refine pw_istore dX4_enter_4 (by decide) rfl ?_
  rw [hn]
  refine pw_aload_n dX4_enter_6 rfl ?_
  refine pw_getr dX4_enter_7 lf_X4_14 sh_2 rfl ?_
  refine pw_iload dX4_enter_10 rfl ?_
  refine pw_iconst dX4_enter_12 (v := 0) (by decide) ?_
  refine pw_iload_n dX4_enter_13 rfl ?_
  refine pw_cVn dX4_enter_14 (sp_X6_put tq_3 (r := nL) (k := 0) rfl rfl (hn24) (by decide)) mi_X6_put mv_X6_put ml_X4_46 sh_3 rfl rfl rfl rfl ⟨rfl, rfl⟩ rfl rfl ?_
  refine pw_aload_n dX4_enter_17 rfl ?_
  refine pw_getr dX4_enter_18 lf_X4_14 sh_2 rfl ?_
  refine pw_iload dX4_enter_21 rfl ?_
  refine pw_iconst dX4_enter_23 (v := 1) (by decide) ?_
  refine pw_iload_n dX4_enter_24 rfl ?_
  refine pw_cVn dX4_enter_25 (sp_X6_put tq_3 (r := nL) (k := 1) rfl rfl (hn24) (by decide)) mi_X6_put mv_X6_put ml_X4_46 sh_3 rfl rfl rfl rfl ⟨rfl, rfl⟩ rfl rfl ?_
  refine pw_aload_n dX4_enter_28 rfl ?_
  refine pw_getr dX4_enter_29 lf_X4_14 sh_2 rfl ?_
  refine pw_iload dX4_enter_32 rfl ?_
  refine pw_iconst dX4_enter_34 (v := 2) (by decide) ?_
  refine pw_iload_n dX4_enter_35 rfl ?_
  refine pw_cVn dX4_enter_36 (sp_X6_put tq_3 (r := nL) (k := 2) rfl rfl (hn24) (by decide)) mi_X6_put mv_X6_put ml_X4_46 sh_3 rfl rfl rfl rfl ⟨rfl, rfl⟩ rfl rfl ?_
  refine pw_aload_n dX4_enter_39 rfl ?_
  refine pw_getr dX4_enter_40 lf_X4_14 sh_2 rfl ?_
  refine pw_iload dX4_enter_43 rfl ?_
  refine pw_iconst dX4_enter_45 (v := 3) (by decide) ?_
  refine pw_iload_n dX4_enter_46 rfl ?_
  refine pw_cVn dX4_enter_47 (sp_X6_put tq_3 (r := nL) (k := 3) rfl rfl (hn24) (by decide)) mi_X6_put mv_X6_put ml_X4_46 sh_3 rfl rfl rfl rfl ⟨rfl, rfl⟩ rfl rfl ?_
  refine pw_aload_n dX4_enter_50 rfl ?_
  refine pw_getr dX4_enter_51 lf_X4_14 sh_2 rfl ?_
  refine pw_iload dX4_enter_54 rfl ?_
  refine pw_iconst dX4_enter_56 (v := 4) (by decide) ?_
  refine pw_iload dX4_enter_57 rfl ?_
  refine pw_cVn dX4_enter_59 (sp_X6_put tq_3 (r := nL) (k := 4) rfl rfl (hn24) (by decide)) mi_X6_put mv_X6_put ml_X4_46 sh_3 rfl rfl rfl rfl ⟨rfl, rfl⟩ rfl rfl ?_
  refine pw_aload_n dX4_enter_62 rfl ?_
  refine pw_dup dX4_enter_63 rfl ?_
  refine pw_geti dX4_enter_64 lf_X4_32 sh_2 rfl ?_
  refine pw_iconst dX4_enter_67 (v := 1) (by decide) ?_
  refine pw_iadd dX4_enter_68 ?_
  rw [show hput (hput (hput (hput (hput h 4 (nL * 5 + 0) q) 4 (nL * 5 + 1) q) 4 (nL * 5 + 2) p) 4 (nL * 5 + 3) g) 4 (nL * 5 + 4) v 2 5 = nI nL from hn, nI_1]
  refine pw_puti dX4_enter_69 lf_X4_32 lp_4_5 sh_2 rfl rfl rfl ?_
  refine pw_iload dX4_enter_72 rfl ?_
  exact pw_iretF dX4_enter_74 rfl rfl rfl rfl rfl

set_option maxRecDepth 100000 in
set_option maxHeartbeats 4000000 in
theorem lp_X4_harvestsIn {l : Launch} {G : GC} {ad : Nat → Nat} {h : HP} {nL nH nB nC : Nat} {np : Nat → Nat} {pl : Nat → Nat → Nat} (hw : WF h nL nH nB nC np pl) {lot : Nat} (hlot : lot < 24)  : ∀ (mu9 : Nat) (i : Nat) (x2 : Int32) (hi : i ≤ nH) (hx2 : x2 = nI (cntB (fun k => decide (0 < h 10 (lot * 12 + k))) i)) (hmu9 : nH - i < mu9), PW l G cX4_harvestsIn RX4 4 ((Option.some FieldType.int)) [] { frames := 2, cells := 0, slots := 0, locals := 45 } (gNm "harvestsIn") (gME G SW ad (gR SW ad (some (.int (nI (cntB (fun k => decide (0 < h 10 (lot * 12 + k))) nH)))) (h)) gNo 0 0) 4 [some (.ref (ad 2)), some (.int (nI lot)), some (.int x2), some (.int (nI i))] [] SW ad (h) 0 0 := by
  intro mu9
  induction mu9 with
  | zero => intro i x2 hi hx2 hmu9; exact absurd hmu9 (Nat.not_lt_zero _)
  | succ mu9 ih =>
    intro i x2 hi hx2 hmu9
    have hb1 := hw.1.2
    have hb2 := hw.2.1.2
    have hb3 := hw.2.2.1.2
    have hb4 := hw.2.2.2.1.2
    refine pw_iload_n dX4_harvestsIn_4 rfl ?_
    refine pw_aload_n dX4_harvestsIn_5 rfl ?_
    refine pw_geti dX4_harvestsIn_6 lf_X4_36 sh_2 rfl ?_
    refine pw_icmp_ge dX4_harvestsIn_9 (tgt := 33) (by decide) (fun c9 => ?_) (fun c9 => ?_)
    · skip
      have hi8 : i = nH := eqN hw.2.1.1 hi (by omega) c9
      refine pw_iload_n dX4_harvestsIn_33 rfl ?_
      exact pw_iretF dX4_harvestsIn_34 rfl rfl rfl (by rw [hx2, hi8]) rfl
    · skip
      have hi9 : i < nH := ltN hw.2.1.1 hi (by omega) c9
      refine pw_aload_n dX4_harvestsIn_12 rfl ?_
      refine pw_getr dX4_harvestsIn_13 lf_X4_26 sh_2 rfl ?_
      refine pw_iload_n dX4_harvestsIn_16 rfl ?_
      refine pw_iload_n dX4_harvestsIn_17 rfl ?_
      refine pw_cV dX4_harvestsIn_18 (sp_X6_at tq_9 (r := lot) (k := i) rfl rfl (hlot) (by omega)) mi_X6_at mv_X6_at ml_X4_80 sh_9 rfl rfl rfl rfl ⟨rfl, rfl⟩ rfl rfl ?_
      refine pw_if_le dX4_harvestsIn_21 (tgt := 27) (by decide) (fun c21 => ?_) (fun c21 => ?_)
      · skip
        refine pw_iinc dX4_harvestsIn_27 rfl (d := 1) (by decide) (by decide) rfl ?_
        rw [nI_1]
        refine pw_goto dX4_harvestsIn_30 (tgt := 4) (by decide) ?_
        refine ih (i + 1) _ (by omega) ?_ (by omega)
        first | exact cnt_s hx2 (by simpa using c21) | exact cnt_n hx2 (by simpa using c21)
      · skip
        refine pw_iinc dX4_harvestsIn_24 rfl (d := 1) (by decide) (by decide) rfl ?_
        refine pw_iinc dX4_harvestsIn_27 rfl (d := 1) (by decide) (by decide) rfl ?_
        rw [nI_1]
        refine pw_goto dX4_harvestsIn_30 (tgt := 4) (by decide) ?_
        refine ih (i + 1) _ (by omega) ?_ (by omega)
        first | exact cnt_s hx2 (by simpa using c21) | exact cnt_n hx2 (by simpa using c21)

set_option maxRecDepth 100000 in
set_option maxHeartbeats 4000000 in
theorem sp_X4_harvestsIn {l : Launch} {G : GC} {ad : Nat → Nat} {h : HP} {nL nH nB nC : Nat} {np : Nat → Nat} {pl : Nat → Nat → Nat} (hw : WF h nL nH nB nC np pl) {lot : Nat} (hlot : lot < 24) : PF l G yX4_harvestsIn (.code yX4_harvestsIn cX4_harvestsIn 4 ((Option.some FieldType.int))) { frames := 2, cells := 0, slots := 0, locals := 45 } [.ref (ad 2), .int (nI lot)] SW ad (h) (some (.int (nI (cntB (fun k => decide (0 < h 10 (lot * 12 + k))) nH)))) (h) := by
  refine PF.mk (L0 := [some (.ref (ad 2)), some (.int (nI lot)), none, none]) RX4 "harvestsIn" 0 0 (by decide +kernel) rfl rfl ⟨rfl, rfl⟩ (by simp [Value.category]) (Nat.le_of_ble_eq_true rfl) rfl ?_
  refine pw_iconst dX4_harvestsIn_0 (v := 0) (by decide) ?_
  refine pw_istore_n dX4_harvestsIn_1 (by decide) rfl ?_
  refine pw_iconst dX4_harvestsIn_2 (v := 0) (by decide) ?_
  refine pw_istore_n dX4_harvestsIn_3 (by decide) rfl ?_
  exact lp_X4_harvestsIn hw hlot (nH + 1) 0 0 (Nat.zero_le _) rfl (by omega)

set_option maxRecDepth 100000 in
set_option maxHeartbeats 4000000 in
theorem lp_X4_shareBy {l : Launch} {G : GC} {ad : Nat → Nat} {h : HP} {nL nH nB nC : Nat} {np : Nat → Nat} {pl : Nat → Nat → Nat} (hw : WF h nL nH nB nC np pl) {lot : Nat} (hlot : lot < 24) {number : Int32} {w : Nat} (hw3 : w < 3)  : ∀ (mu9 : Nat) (i : Nat) (x4 : Int32) (hi : i ≤ nH) (hx4 : x4 = sumC (fun k => if h 12 (k * 3 + w) = number then h 10 (lot * 12 + k) else 0) i) (hmu9 : nH - i < mu9), PW l G cX4_shareBy RX4 6 ((Option.some FieldType.int)) [] { frames := 2, cells := 0, slots := 0, locals := 45 } (gNm "shareBy") (gME G SW ad (gR SW ad (some (.int (sumC (fun k => if h 12 (k * 3 + w) = number then h 10 (lot * 12 + k) else 0) nH))) (h)) gNo 0 0) 20 [some (.ref (ad 2)), some (.int (nI lot)), some (.int (nI (w + 1))), some (.int number), some (.int x4), some (.int (nI i))] [] SW ad (h) 0 0 := by
  intro mu9
  induction mu9 with
  | zero => intro i x4 hi hx4 hmu9; exact absurd hmu9 (Nat.not_lt_zero _)
  | succ mu9 ih =>
    intro i x4 hi hx4 hmu9
    have hb1 := hw.1.2
    have hb2 := hw.2.1.2
    have hb3 := hw.2.2.1.2
    have hb4 := hw.2.2.2.1.2
    refine pw_iload dX4_shareBy_20 rfl ?_
    refine pw_aload_n dX4_shareBy_22 rfl ?_
    refine pw_geti dX4_shareBy_23 lf_X4_36 sh_2 rfl ?_
    refine pw_icmp_ge dX4_shareBy_26 (tgt := 66) (by decide) (fun c26 => ?_) (fun c26 => ?_)
    · skip
      have hi8 : i = nH := eqN hw.2.1.1 hi (by omega) c26
      refine pw_iload dX4_shareBy_66 rfl ?_
      exact pw_iretF dX4_shareBy_68 rfl rfl rfl (by rw [hx4, hi8]) rfl
    · skip
      have hi9 : i < nH := ltN hw.2.1.1 hi (by omega) c26
      refine pw_aload_n dX4_shareBy_29 rfl ?_
      refine pw_getr dX4_shareBy_30 lf_X4_29 sh_2 rfl ?_
      refine pw_iload dX4_shareBy_33 rfl ?_
      refine pw_iload_n dX4_shareBy_35 rfl ?_
      refine pw_iconst dX4_shareBy_36 (v := 1) (by decide) ?_
      refine pw_isub dX4_shareBy_37 ?_
      rw [nI_pred]
      refine pw_cV dX4_shareBy_38 (sp_X6_at tq_11 (r := i) (k := w) rfl rfl (by omega) (hw3)) mi_X6_at mv_X6_at ml_X4_80 sh_11 rfl rfl rfl rfl ⟨rfl, rfl⟩ rfl rfl ?_
      refine pw_iload_n dX4_shareBy_41 rfl ?_
      refine pw_icmp_ne dX4_shareBy_42 (tgt := 60) (by decide) (fun c42 => ?_) (fun c42 => ?_)
      · skip
        refine pw_iinc dX4_shareBy_60 rfl (d := 1) (by decide) (by decide) rfl ?_
        rw [nI_1]
        refine pw_goto dX4_shareBy_63 (tgt := 20) (by decide) ?_
        refine ih (i + 1) _ (by omega) ?_ (by omega)
        first | exact sum_s (p := fun k => h 12 (k * 3 + w) = number) (f := fun k => h 10 (lot * 12 + k)) hx4 c42 | exact sum_n (p := fun k => h 12 (k * 3 + w) = number) (f := fun k => h 10 (lot * 12 + k)) hx4 c42
      · skip
        refine pw_iload dX4_shareBy_45 rfl ?_
        refine pw_aload_n dX4_shareBy_47 rfl ?_
        refine pw_getr dX4_shareBy_48 lf_X4_26 sh_2 rfl ?_
        refine pw_iload_n dX4_shareBy_51 rfl ?_
        refine pw_iload dX4_shareBy_52 rfl ?_
        refine pw_cV dX4_shareBy_54 (sp_X6_at tq_9 (r := lot) (k := i) rfl rfl (hlot) (by omega)) mi_X6_at mv_X6_at ml_X4_80 sh_9 rfl rfl rfl rfl ⟨rfl, rfl⟩ rfl rfl ?_
        refine pw_iadd dX4_shareBy_57 ?_
        refine pw_istore dX4_shareBy_58 (by decide) rfl ?_
        refine pw_iinc dX4_shareBy_60 rfl (d := 1) (by decide) (by decide) rfl ?_
        rw [nI_1]
        refine pw_goto dX4_shareBy_63 (tgt := 20) (by decide) ?_
        refine ih (i + 1) _ (by omega) ?_ (by omega)
        first | exact sum_s (p := fun k => h 12 (k * 3 + w) = number) (f := fun k => h 10 (lot * 12 + k)) hx4 c42 | exact sum_n (p := fun k => h 12 (k * 3 + w) = number) (f := fun k => h 10 (lot * 12 + k)) hx4 c42

set_option maxRecDepth 100000 in
set_option maxHeartbeats 4000000 in
theorem sp_X4_shareBy {l : Launch} {G : GC} {ad : Nat → Nat} {h : HP} {nL nH nB nC : Nat} {np : Nat → Nat} {pl : Nat → Nat → Nat} (hw : WF h nL nH nB nC np pl) {lot : Nat} (hlot : lot < 24) {number : Int32} {w : Nat} (hw3 : w < 3) : PF l G yX4_shareBy (.code yX4_shareBy cX4_shareBy 6 ((Option.some FieldType.int))) { frames := 2, cells := 0, slots := 0, locals := 45 } [.ref (ad 2), .int (nI lot), .int (nI (w + 1)), .int (number)] SW ad (h) (some (.int (sumC (fun k => if h 12 (k * 3 + w) = number then h 10 (lot * 12 + k) else 0) nH))) (h) := by
  refine PF.mk (L0 := [some (.ref (ad 2)), some (.int (nI lot)), some (.int (nI (w + 1))), some (.int (number)), none, none]) RX4 "shareBy" 0 0 (by decide +kernel) rfl rfl ⟨rfl, rfl⟩ (by simp [Value.category]) (Nat.le_of_ble_eq_true rfl) rfl ?_
  refine pw_iload_n dX4_shareBy_0 rfl ?_
  refine pw_if_ne dX4_shareBy_1 (tgt := 14) (by decide) (fun c1 => ?_) (fun c1 => absurd c1 (nI_ne0 (Nat.succ_pos _) (by omega)))
  refine pw_iconst dX4_shareBy_14 (v := 0) (by decide) ?_
  refine pw_istore dX4_shareBy_15 (by decide) rfl ?_
  refine pw_iconst dX4_shareBy_17 (v := 0) (by decide) ?_
  refine pw_istore dX4_shareBy_18 (by decide) rfl ?_
  exact lp_X4_shareBy hw hlot hw3 (nH + 1) 0 0 (Nat.zero_le _) rfl (by omega)

set_option maxRecDepth 100000 in
set_option maxHeartbeats 4000000 in
theorem sp_X4_shareBy0 {l : Launch} {G : GC} {ad : Nat → Nat} {h : HP} {lot : Nat} (hlot : lot < 24) {k : Nat} (hk : k < 12) : PF l G yX4_shareBy (.code yX4_shareBy cX4_shareBy 6 ((Option.some FieldType.int))) { frames := 2, cells := 0, slots := 0, locals := 45 } [.ref (ad 2), .int (nI lot), .int (0), .int (nI k)] SW ad (h) (some (.int (h 10 (lot * 12 + k)))) (h) := by
  refine PF.mk (L0 := [some (.ref (ad 2)), some (.int (nI lot)), some (.int (0)), some (.int (nI k)), none, none]) RX4 "shareBy" 0 0 (by decide +kernel) rfl rfl ⟨rfl, rfl⟩ (by simp [Value.category]) (Nat.le_of_ble_eq_true rfl) rfl ?_
  refine pw_iload_n dX4_shareBy_0 rfl ?_
  refine pw_if_ne dX4_shareBy_1 (tgt := 14) (by decide) (fun c1 => absurd c1 (fun q => q rfl)) (fun c1 => ?_)
  refine pw_aload_n dX4_shareBy_4 rfl ?_
  refine pw_getr dX4_shareBy_5 lf_X4_26 sh_2 rfl ?_
  refine pw_iload_n dX4_shareBy_8 rfl ?_
  refine pw_iload_n dX4_shareBy_9 rfl ?_
  refine pw_cV dX4_shareBy_10 (sp_X6_at tq_9 (r := lot) (k := k) rfl rfl (hlot) (hk)) mi_X6_at mv_X6_at ml_X4_80 sh_9 rfl rfl rfl rfl ⟨rfl, rfl⟩ rfl rfl ?_
  exact pw_iretF dX4_shareBy_13 rfl rfl rfl rfl rfl

set_option maxRecDepth 100000 in
set_option maxHeartbeats 4000000 in
theorem lp_X4_vintageSum {l : Launch} {G : GC} {ad : Nat → Nat} {h : HP} {nL nH nB nC : Nat} {np : Nat → Nat} {pl : Nat → Nat → Nat} (hw : WF h nL nH nB nC np pl) {lot : Nat} (hlot : lot < 24)  : ∀ (mu9 : Nat) (i : Nat) (x2 : Int32) (hi : i ≤ nH) (hx2 : x2 = sumC (fun k => h 10 (lot * 12 + k) * h 12 (k * 3 + 0)) i) (hmu9 : nH - i < mu9), PW l G cX4_vintageSum RX4 4 ((Option.some FieldType.int)) [] { frames := 2, cells := 0, slots := 0, locals := 45 } (gNm "vintageSum") (gME G SW ad (gR SW ad (some (.int (sumC (fun k => h 10 (lot * 12 + k) * h 12 (k * 3 + 0)) nH))) (h)) gNo 0 0) 4 [some (.ref (ad 2)), some (.int (nI lot)), some (.int x2), some (.int (nI i))] [] SW ad (h) 0 0 := by
  intro mu9
  induction mu9 with
  | zero => intro i x2 hi hx2 hmu9; exact absurd hmu9 (Nat.not_lt_zero _)
  | succ mu9 ih =>
    intro i x2 hi hx2 hmu9
    have hb1 := hw.1.2
    have hb2 := hw.2.1.2
    have hb3 := hw.2.2.1.2
    have hb4 := hw.2.2.2.1.2
    refine pw_iload_n dX4_vintageSum_4 rfl ?_
    refine pw_aload_n dX4_vintageSum_5 rfl ?_
    refine pw_geti dX4_vintageSum_6 lf_X4_36 sh_2 rfl ?_
    refine pw_icmp_ge dX4_vintageSum_9 (tgt := 40) (by decide) (fun c9 => ?_) (fun c9 => ?_)
    · skip
      have hi8 : i = nH := eqN hw.2.1.1 hi (by omega) c9
      refine pw_iload_n dX4_vintageSum_40 rfl ?_
      exact pw_iretF dX4_vintageSum_41 rfl rfl rfl (by rw [hx2, hi8]) rfl
    · skip
      have hi9 : i < nH := ltN hw.2.1.1 hi (by omega) c9
      refine pw_iload_n dX4_vintageSum_12 rfl ?_
      refine pw_aload_n dX4_vintageSum_13 rfl ?_
      refine pw_getr dX4_vintageSum_14 lf_X4_26 sh_2 rfl ?_
      refine pw_iload_n dX4_vintageSum_17 rfl ?_
      refine pw_iload_n dX4_vintageSum_18 rfl ?_
      refine pw_cV dX4_vintageSum_19 (sp_X6_at tq_9 (r := lot) (k := i) rfl rfl (hlot) (by omega)) mi_X6_at mv_X6_at ml_X4_80 sh_9 rfl rfl rfl rfl ⟨rfl, rfl⟩ rfl rfl ?_
      refine pw_aload_n dX4_vintageSum_22 rfl ?_
      refine pw_getr dX4_vintageSum_23 lf_X4_29 sh_2 rfl ?_
      refine pw_iload_n dX4_vintageSum_26 rfl ?_
      refine pw_iconst dX4_vintageSum_27 (v := 0) (by decide) ?_
      refine pw_cV dX4_vintageSum_28 (sp_X6_at tq_11 (r := i) (k := 0) rfl rfl (by omega) (by decide)) mi_X6_at mv_X6_at ml_X4_80 sh_11 rfl rfl rfl rfl ⟨rfl, rfl⟩ rfl rfl ?_
      refine pw_imul dX4_vintageSum_31 ?_
      refine pw_iadd dX4_vintageSum_32 ?_
      refine pw_istore_n dX4_vintageSum_33 (by decide) rfl ?_
      refine pw_iinc dX4_vintageSum_34 rfl (d := 1) (by decide) (by decide) rfl ?_
      rw [nI_1]
      refine pw_goto dX4_vintageSum_37 (tgt := 4) (by decide) ?_
      refine ih (i + 1) _ (by omega) ?_ (by omega)
      rw [hx2]; rfl

set_option maxRecDepth 100000 in
set_option maxHeartbeats 4000000 in
theorem sp_X4_vintageSum {l : Launch} {G : GC} {ad : Nat → Nat} {h : HP} {nL nH nB nC : Nat} {np : Nat → Nat} {pl : Nat → Nat → Nat} (hw : WF h nL nH nB nC np pl) {lot : Nat} (hlot : lot < 24) : PF l G yX4_vintageSum (.code yX4_vintageSum cX4_vintageSum 4 ((Option.some FieldType.int))) { frames := 2, cells := 0, slots := 0, locals := 45 } [.ref (ad 2), .int (nI lot)] SW ad (h) (some (.int (sumC (fun k => h 10 (lot * 12 + k) * h 12 (k * 3 + 0)) nH))) (h) := by
  refine PF.mk (L0 := [some (.ref (ad 2)), some (.int (nI lot)), none, none]) RX4 "vintageSum" 0 0 (by decide +kernel) rfl rfl ⟨rfl, rfl⟩ (by simp [Value.category]) (Nat.le_of_ble_eq_true rfl) rfl ?_
  refine pw_iconst dX4_vintageSum_0 (v := 0) (by decide) ?_
  refine pw_istore_n dX4_vintageSum_1 (by decide) rfl ?_
  refine pw_iconst dX4_vintageSum_2 (v := 0) (by decide) ?_
  refine pw_istore_n dX4_vintageSum_3 (by decide) rfl ?_
  exact lp_X4_vintageSum hw hlot (nH + 1) 0 0 (Nat.zero_le _) rfl (by omega)

set_option maxRecDepth 100000 in
set_option maxHeartbeats 4000000 in
theorem sp_X7_isIn {l : Launch} {G : GC} {ad : Nat → Nat} {S : List Sh} {h : HP} {s9 m9 : Int32} : PF l G yX7_isIn (.code yX7_isIn cX7_isIn 2 ((Option.some FieldType.boolean))) { frames := 0, cells := 0, slots := 0, locals := 0 } [.int (s9), .int (m9)] S ad (h) (some (.int (b2i (inS s9 m9)))) (h) := by
  refine PF.mk (L0 := [some (.int (s9)), some (.int (m9))]) RX7 "isIn" 0 0 (by decide +kernel) rfl rfl ⟨rfl, rfl⟩ (by simp [Value.category]) (Nat.le_of_ble_eq_true rfl) rfl ?_
  refine pw_iload_n dX7_isIn_0 rfl ?_
  refine pw_iload_n dX7_isIn_1 rfl ?_
  refine pw_ishr dX7_isIn_2 ?_
  refine pw_iconst dX7_isIn_3 (v := 1) (by decide) ?_
  refine pw_iand dX7_isIn_4 ?_
  refine pw_iconst dX7_isIn_5 (v := 1) (by decide) ?_
  refine pw_icmp_ne dX7_isIn_6 (tgt := 13) (by decide) (fun c6 => ?_) (fun c6 => ?_)
  · skip
    refine pw_iconst dX7_isIn_13 (v := 0) (by decide) ?_
    refine pw_iretF dX7_isIn_14 rfl rfl rfl ?_ rfl
    first | (simp only [b2i, inS, c6, decide_true, if_true]; done) | (simp [b2i, inS, c6])
  · skip
    refine pw_iconst dX7_isIn_9 (v := 1) (by decide) ?_
    refine pw_goto dX7_isIn_10 (tgt := 14) (by decide) ?_
    refine pw_iretF dX7_isIn_14 rfl rfl rfl ?_ rfl
    first | (simp only [b2i, inS, c6, decide_true, if_true]; done) | (simp [b2i, inS, c6])

set_option maxRecDepth 100000 in
set_option maxHeartbeats 4000000 in
theorem sp_X7_isWithin {l : Launch} {G : GC} {ad : Nat → Nat} {S : List Sh} {h : HP} {a9 b9 e9 : Int32} : PF l G yX7_isWithin (.code yX7_isWithin cX7_isWithin 3 ((Option.some FieldType.boolean))) { frames := 0, cells := 0, slots := 0, locals := 0 } [.int (a9), .int (b9), .int (e9)] S ad (h) (some (.int (b2i (decide (b9 ≤ a9) && decide (a9 ≤ e9))))) (h) := by
  refine PF.mk (L0 := [some (.int (a9)), some (.int (b9)), some (.int (e9))]) RX7 "isWithin" 0 0 (by decide +kernel) rfl rfl ⟨rfl, rfl⟩ (by simp [Value.category]) (Nat.le_of_ble_eq_true rfl) rfl ?_
  refine pw_iload_n dX7_isWithin_0 rfl ?_
  refine pw_iload_n dX7_isWithin_1 rfl ?_
  refine pw_icmp_lt dX7_isWithin_2 (tgt := 14) (by decide) (fun c2 => ?_) (fun c2 => ?_)
  · skip
    refine pw_iconst dX7_isWithin_14 (v := 0) (by decide) ?_
    refine pw_iretF dX7_isWithin_15 rfl rfl rfl ?_ rfl; first | (have e1 : b9 ≤ a9 := Int32.not_lt.mp c2; have e2 : a9 ≤ e9 := Int32.not_lt.mp c7; simp [b2i, e1, e2]) | (have e1 : ¬ a9 ≤ e9 := Int32.not_le.mpr c7; simp [b2i, e1]) | (have e1 : ¬ b9 ≤ a9 := Int32.not_le.mpr c2; simp [b2i, e1])
  · skip
    refine pw_iload_n dX7_isWithin_5 rfl ?_
    refine pw_iload_n dX7_isWithin_6 rfl ?_
    refine pw_icmp_gt dX7_isWithin_7 (tgt := 14) (by decide) (fun c7 => ?_) (fun c7 => ?_)
    · skip
      refine pw_iconst dX7_isWithin_14 (v := 0) (by decide) ?_
      refine pw_iretF dX7_isWithin_15 rfl rfl rfl ?_ rfl; first | (have e1 : b9 ≤ a9 := Int32.not_lt.mp c2; have e2 : a9 ≤ e9 := Int32.not_lt.mp c7; simp [b2i, e1, e2]) | (have e1 : ¬ a9 ≤ e9 := Int32.not_le.mpr c7; simp [b2i, e1]) | (have e1 : ¬ b9 ≤ a9 := Int32.not_le.mpr c2; simp [b2i, e1])
    · skip
      refine pw_iconst dX7_isWithin_10 (v := 1) (by decide) ?_
      refine pw_goto dX7_isWithin_11 (tgt := 15) (by decide) ?_
      refine pw_iretF dX7_isWithin_15 rfl rfl rfl ?_ rfl; first | (have e1 : b9 ≤ a9 := Int32.not_lt.mp c2; have e2 : a9 ≤ e9 := Int32.not_lt.mp c7; simp [b2i, e1, e2]) | (have e1 : ¬ a9 ≤ e9 := Int32.not_le.mpr c7; simp [b2i, e1]) | (have e1 : ¬ b9 ≤ a9 := Int32.not_le.mpr c2; simp [b2i, e1])

set_option maxRecDepth 100000 in
set_option maxHeartbeats 4000000 in
theorem lp_X4_partSetOf {l : Launch} {G : GC} {ad : Nat → Nat} {h : HP} {nL nH nB nC : Nat} {np : Nat → Nat} {pl : Nat → Nat → Nat} (hw : WF h nL nH nB nC np pl) {lot : Nat} (hlot : lot < 24)  : ∀ (mu9 : Nat) (i : Nat) (x2 : Int32) (hi : i ≤ np lot) (hx2 : x2 = orI (fun k => bit1 (pl lot k)) i) (hmu9 : np lot - i < mu9), PW l G cX4_partSetOf RX4 4 ((Option.some FieldType.int)) [] { frames := 3, cells := 0, slots := 0, locals := 66 } (gNm "partSetOf") (gME G SW ad (gR SW ad (some (.int (psI np pl lot))) (h)) gNo 0 0) 4 [some (.ref (ad 2)), some (.int (nI lot)), some (.int x2), some (.int (nI i))] [] SW ad (h) 0 0 := by
  intro mu9
  induction mu9 with
  | zero => intro i x2 hi hx2 hmu9; exact absurd hmu9 (Nat.not_lt_zero _)
  | succ mu9 ih =>
    intro i x2 hi hx2 hmu9
    have hb1 := hw.1.2
    have hb2 := hw.2.1.2
    have hb3 := hw.2.2.1.2
    have hb4 := hw.2.2.2.1.2
    have hb5 := (hw.2.2.2.2.1 lot hlot).2
    refine pw_iload_n dX4_partSetOf_4 rfl ?_
    refine pw_aload_n dX4_partSetOf_5 rfl ?_
    refine pw_iload_n dX4_partSetOf_6 rfl ?_
    refine pw_cV dX4_partSetOf_7 (sp_X4_partsOf hlot) mi_X4_partsOf mv_X4_partsOf ml_X4_105 sh_2 rfl rfl rfl rfl ⟨rfl, rfl⟩ rfl rfl ?_
    refine pw_icmp_ge dX4_partSetOf_10 (tgt := 33) (by decide) (fun c10 => ?_) (fun c10 => ?_)
    · skip
      have hi8 : i = np lot := eqN (hw.2.2.2.2.1 lot hlot).1 hi (by omega) c10
      refine pw_iload_n dX4_partSetOf_33 rfl ?_
      exact pw_iretF dX4_partSetOf_34 rfl rfl rfl (by rw [hx2, hi8]; rfl) rfl
    · skip
      have hi9 : i < np lot := ltN (hw.2.2.2.2.1 lot hlot).1 hi (by omega) c10
      refine pw_iload_n dX4_partSetOf_13 rfl ?_
      refine pw_iconst dX4_partSetOf_14 (v := 1) (by decide) ?_
      refine pw_aload_n dX4_partSetOf_15 rfl ?_
      refine pw_getr dX4_partSetOf_16 lf_X4_20 sh_2 rfl ?_
      refine pw_iload_n dX4_partSetOf_19 rfl ?_
      refine pw_iload_n dX4_partSetOf_20 rfl ?_
      refine pw_cV dX4_partSetOf_21 (sp_X6_at tq_5 (r := lot) (k := i) rfl rfl (hlot) (by omega)) mi_X6_at mv_X6_at ml_X4_80 sh_5 rfl rfl rfl rfl ⟨rfl, rfl⟩ rfl rfl ?_
      rw [(hw.2.2.2.2.2 lot i hlot (by omega)).1]
      refine pw_ishl dX4_partSetOf_24 ?_
      refine pw_ior dX4_partSetOf_25 ?_
      refine pw_istore_n dX4_partSetOf_26 (by decide) rfl ?_
      refine pw_iinc dX4_partSetOf_27 rfl (d := 1) (by decide) (by decide) rfl ?_
      rw [nI_1]
      refine pw_goto dX4_partSetOf_30 (tgt := 4) (by decide) ?_
      refine ih (i + 1) _ (by omega) ?_ (by omega)
      rw [hx2]; rfl

set_option maxRecDepth 100000 in
set_option maxHeartbeats 4000000 in
theorem sp_X4_partSetOf {l : Launch} {G : GC} {ad : Nat → Nat} {h : HP} {nL nH nB nC : Nat} {np : Nat → Nat} {pl : Nat → Nat → Nat} (hw : WF h nL nH nB nC np pl) {lot : Nat} (hlot : lot < 24) : PF l G yX4_partSetOf (.code yX4_partSetOf cX4_partSetOf 4 ((Option.some FieldType.int))) { frames := 3, cells := 0, slots := 0, locals := 66 } [.ref (ad 2), .int (nI lot)] SW ad (h) (some (.int (psI np pl lot))) (h) := by
  refine PF.mk (L0 := [some (.ref (ad 2)), some (.int (nI lot)), none, none]) RX4 "partSetOf" 0 0 (by decide +kernel) rfl rfl ⟨rfl, rfl⟩ (by simp [Value.category]) (Nat.le_of_ble_eq_true rfl) rfl ?_
  refine pw_iconst dX4_partSetOf_0 (v := 0) (by decide) ?_
  refine pw_istore_n dX4_partSetOf_1 (by decide) rfl ?_
  refine pw_iconst dX4_partSetOf_2 (v := 0) (by decide) ?_
  refine pw_istore_n dX4_partSetOf_3 (by decide) rfl ?_
  exact lp_X4_partSetOf hw hlot (np lot + 1) 0 0 (Nat.zero_le _) rfl (by omega)

set_option maxRecDepth 100000 in
set_option maxHeartbeats 4000000 in
theorem lp_X4_blendsOf {l : Launch} {G : GC} {ad : Nat → Nat} {h : HP} {nL nH nB nC : Nat} {np : Nat → Nat} {pl : Nat → Nat → Nat} (hw : WF h nL nH nB nC np pl) {lot : Nat} (hlot : lot < 24)  : ∀ (mu9 : Nat) (i : Nat) (x2 : Int32) (hi : i ≤ nL ∨ i = lot + 1) (hli : lot < i) (hx2 : x2 = orI (fun b => ifOr (blP np pl lot b) (bit1 b)) i) (hmu9 : nL - i < mu9), PW l G cX4_blendsOf RX4 4 ((Option.some FieldType.int)) [] { frames := 4, cells := 0, slots := 0, locals := 89 } (gNm "blendsOf") (gME G SW ad (gR SW ad (some (.int (blI np pl nL lot))) (h)) gNo 0 0) 6 [some (.ref (ad 2)), some (.int (nI lot)), some (.int x2), some (.int (nI i))] [] SW ad (h) 0 0 := by
  intro mu9
  induction mu9 with
  | zero => intro i x2 hi hli hx2 hmu9; exact absurd hmu9 (Nat.not_lt_zero _)
  | succ mu9 ih =>
    intro i x2 hi hli hx2 hmu9
    have hb1 := hw.1.2
    have hb2 := hw.2.1.2
    have hb3 := hw.2.2.1.2
    have hb4 := hw.2.2.2.1.2
    refine pw_iload_n dX4_blendsOf_6 rfl ?_
    refine pw_aload_n dX4_blendsOf_7 rfl ?_
    refine pw_geti dX4_blendsOf_8 lf_X4_32 sh_2 rfl ?_
    refine pw_icmp_ge dX4_blendsOf_11 (tgt := 38) (by decide) (fun c11 => ?_) (fun c11 => ?_)
    · skip
      have hi8 : nL ≤ i := by
        rcases Nat.lt_or_ge i nL with q | q
        · exact absurd (by rw [hw.1.1] at c11; exact c11) (nI_ge q (by omega))
        · exact q
      refine pw_iload_n dX4_blendsOf_38 rfl ?_
      exact pw_iretF dX4_blendsOf_39 rfl rfl rfl (by rw [hx2]; exact blI_ge hi8 hi hli) rfl
    · skip
      have hi9 : i < nL := by
        rcases Nat.lt_or_ge i nL with q | q
        · exact q
        · exact absurd (by rw [hw.1.1]; exact nI_le q (by omega)) c11
      refine pw_aload_n dX4_blendsOf_14 rfl ?_
      refine pw_iload_n dX4_blendsOf_15 rfl ?_
      refine pw_cV dX4_blendsOf_16 (sp_X4_partSetOf hw (lot := i) (by omega)) mi_X4_partSetOf mv_X4_partSetOf ml_X4_108 sh_2 rfl rfl rfl rfl ⟨rfl, rfl⟩ rfl rfl ?_
      refine pw_iload_n dX4_blendsOf_19 rfl ?_
      refine pw_cS dX4_blendsOf_20 (sp_X7_isIn) mi_X7_isIn ms_X7_isIn ml_X4_111 rfl rfl ⟨rfl, rfl⟩ rfl rfl ?_
      refine pw_if_eq dX4_blendsOf_23 (tgt := 32) (by decide) (fun c23 => ?_) (fun c23 => ?_)
      · skip
        refine pw_iinc dX4_blendsOf_32 rfl (d := 1) (by decide) (by decide) rfl ?_
        rw [nI_1]
        refine pw_goto dX4_blendsOf_35 (tgt := 6) (by decide) ?_
        refine ih (i + 1) _ (Or.inl (by omega)) (by omega) ?_ (by omega)
        first | exact or_s (p := blP np pl lot) (g := bit1) hx2 (by simp [blP, hli, b2i_ne c23]) | exact or_n (p := blP np pl lot) (g := bit1) hx2 (by simp [blP, b2i_eq c23])
      · skip
        refine pw_iload_n dX4_blendsOf_26 rfl ?_
        refine pw_iconst dX4_blendsOf_27 (v := 1) (by decide) ?_
        refine pw_iload_n dX4_blendsOf_28 rfl ?_
        refine pw_ishl dX4_blendsOf_29 ?_
        refine pw_ior dX4_blendsOf_30 ?_
        refine pw_istore_n dX4_blendsOf_31 (by decide) rfl ?_
        refine pw_iinc dX4_blendsOf_32 rfl (d := 1) (by decide) (by decide) rfl ?_
        rw [nI_1]
        refine pw_goto dX4_blendsOf_35 (tgt := 6) (by decide) ?_
        refine ih (i + 1) _ (Or.inl (by omega)) (by omega) ?_ (by omega)
        first | exact or_s (p := blP np pl lot) (g := bit1) hx2 (by simp [blP, hli, b2i_ne c23]) | exact or_n (p := blP np pl lot) (g := bit1) hx2 (by simp [blP, b2i_eq c23])

set_option maxRecDepth 100000 in
set_option maxHeartbeats 4000000 in
theorem sp_X4_blendsOf {l : Launch} {G : GC} {ad : Nat → Nat} {h : HP} {nL nH nB nC : Nat} {np : Nat → Nat} {pl : Nat → Nat → Nat} (hw : WF h nL nH nB nC np pl) {lot : Nat} (hlot : lot < 24) : PF l G yX4_blendsOf (.code yX4_blendsOf cX4_blendsOf 4 ((Option.some FieldType.int))) { frames := 4, cells := 0, slots := 0, locals := 89 } [.ref (ad 2), .int (nI lot)] SW ad (h) (some (.int (blI np pl nL lot))) (h) := by
  refine PF.mk (L0 := [some (.ref (ad 2)), some (.int (nI lot)), none, none]) RX4 "blendsOf" 0 0 (by decide +kernel) rfl rfl ⟨rfl, rfl⟩ (by simp [Value.category]) (Nat.le_of_ble_eq_true rfl) rfl ?_
  refine pw_iconst dX4_blendsOf_0 (v := 0) (by decide) ?_
  refine pw_istore_n dX4_blendsOf_1 (by decide) rfl ?_
  refine pw_iload_n dX4_blendsOf_2 rfl ?_
  refine pw_iconst dX4_blendsOf_3 (v := 1) (by decide) ?_
  refine pw_iadd dX4_blendsOf_4 ?_
  rw [nI_1]
  refine pw_istore_n dX4_blendsOf_5 (by decide) rfl ?_
  exact lp_X4_blendsOf hw hlot (nL + 1) (lot + 1) 0 (Or.inr rfl) (by omega) (orI_none (fun k hk => by simp [blP]; omega)).symm (by omega)

set_option maxRecDepth 100000 in
set_option maxHeartbeats 4000000 in
theorem lp_X4_allMadeOf {l : Launch} {G : GC} {ad : Nat → Nat} {h : HP} {nL nH nB nC : Nat} {np : Nat → Nat} {pl : Nat → Nat → Nat} (hw : WF h nL nH nB nC np pl) {lot : Nat} (hlot : lot < nL)  : ∀ (mu9 : Nat) (i : Nat) (x2 : Int32) (hi : i ≤ nL) (hF : amF (blI np pl nL) (bit1 lot) lot (nL - lot) = amF (blI np pl nL) x2 i (nL - i)) (hmu9 : nL - i < mu9), PW l G cX4_allMadeOf RX4 4 ((Option.some FieldType.int)) [] { frames := 5, cells := 0, slots := 0, locals := 112 } (gNm "allMadeOf") (gME G SW ad (gR SW ad (some (.int (amF (blI np pl nL) (bit1 lot) lot (nL - lot)))) (h)) gNo 0 0) 6 [some (.ref (ad 2)), some (.int (nI lot)), some (.int x2), some (.int (nI i))] [] SW ad (h) 0 0 := by
  intro mu9
  induction mu9 with
  | zero => intro i x2 hi hF hmu9; exact absurd hmu9 (Nat.not_lt_zero _)
  | succ mu9 ih =>
    intro i x2 hi hF hmu9
    have hb1 := hw.1.2
    have hb2 := hw.2.1.2
    have hb3 := hw.2.2.1.2
    have hb4 := hw.2.2.2.1.2
    refine pw_iload_n dX4_allMadeOf_6 rfl ?_
    refine pw_aload_n dX4_allMadeOf_7 rfl ?_
    refine pw_geti dX4_allMadeOf_8 lf_X4_32 sh_2 rfl ?_
    refine pw_icmp_ge dX4_allMadeOf_11 (tgt := 36) (by decide) (fun c11 => ?_) (fun c11 => ?_)
    · skip
      have hi8 : i = nL := eqN hw.1.1 hi (by omega) c11
      refine pw_iload_n dX4_allMadeOf_36 rfl ?_
      exact pw_iretF dX4_allMadeOf_37 rfl rfl rfl (by rw [hF, hi8, Nat.sub_self]; rfl) rfl
    · skip
      have hi9 : i < nL := ltN hw.1.1 hi (by omega) c11
      refine pw_iload_n dX4_allMadeOf_14 rfl ?_
      refine pw_iload_n dX4_allMadeOf_15 rfl ?_
      refine pw_cS dX4_allMadeOf_16 (sp_X7_isIn) mi_X7_isIn ms_X7_isIn ml_X4_111 rfl rfl ⟨rfl, rfl⟩ rfl rfl ?_
      refine pw_if_eq dX4_allMadeOf_19 (tgt := 30) (by decide) (fun c19 => ?_) (fun c19 => ?_)
      · skip
        refine pw_iinc dX4_allMadeOf_30 rfl (d := 1) (by decide) (by decide) rfl ?_
        rw [nI_1]
        refine pw_goto dX4_allMadeOf_33 (tgt := 6) (by decide) ?_
        refine ih (i + 1) _ (by omega) ?_ (by omega)
        rw [hF, show nL - i = (nL - (i + 1)) + 1 by omega, amF]
        first | rw [if_pos (b2i_ne c19)] | rw [if_neg (by rw [b2i_eq c19]; decide)]
      · skip
        refine pw_iload_n dX4_allMadeOf_22 rfl ?_
        refine pw_aload_n dX4_allMadeOf_23 rfl ?_
        refine pw_iload_n dX4_allMadeOf_24 rfl ?_
        refine pw_cV dX4_allMadeOf_25 (sp_X4_blendsOf hw (lot := i) (by omega)) mi_X4_blendsOf mv_X4_blendsOf ml_X4_115 sh_2 rfl rfl rfl rfl ⟨rfl, rfl⟩ rfl rfl ?_
        refine pw_ior dX4_allMadeOf_28 ?_
        refine pw_istore_n dX4_allMadeOf_29 (by decide) rfl ?_
        refine pw_iinc dX4_allMadeOf_30 rfl (d := 1) (by decide) (by decide) rfl ?_
        rw [nI_1]
        refine pw_goto dX4_allMadeOf_33 (tgt := 6) (by decide) ?_
        refine ih (i + 1) _ (by omega) ?_ (by omega)
        rw [hF, show nL - i = (nL - (i + 1)) + 1 by omega, amF]
        first | rw [if_pos (b2i_ne c19)] | rw [if_neg (by rw [b2i_eq c19]; decide)]

set_option maxRecDepth 100000 in
set_option maxHeartbeats 4000000 in
theorem sp_X4_allMadeOf {l : Launch} {G : GC} {ad : Nat → Nat} {h : HP} {nL nH nB nC : Nat} {np : Nat → Nat} {pl : Nat → Nat → Nat} (hw : WF h nL nH nB nC np pl) {lot : Nat} (hlot : lot < nL) : PF l G yX4_allMadeOf (.code yX4_allMadeOf cX4_allMadeOf 4 ((Option.some FieldType.int))) { frames := 5, cells := 0, slots := 0, locals := 112 } [.ref (ad 2), .int (nI lot)] SW ad (h) (some (.int (amF (blI np pl nL) (bit1 lot) lot (nL - lot)))) (h) := by
  refine PF.mk (L0 := [some (.ref (ad 2)), some (.int (nI lot)), none, none]) RX4 "allMadeOf" 0 0 (by decide +kernel) rfl rfl ⟨rfl, rfl⟩ (by simp [Value.category]) (Nat.le_of_ble_eq_true rfl) rfl ?_
  refine pw_iconst dX4_allMadeOf_0 (v := 1) (by decide) ?_
  refine pw_iload_n dX4_allMadeOf_1 rfl ?_
  refine pw_ishl dX4_allMadeOf_2 ?_
  refine pw_istore_n dX4_allMadeOf_3 (by decide) rfl ?_
  refine pw_iload_n dX4_allMadeOf_4 rfl ?_
  refine pw_istore_n dX4_allMadeOf_5 (by decide) rfl ?_
  exact lp_X4_allMadeOf hw hlot (nL + 1) lot _ (by omega) rfl (by omega)

set_option maxRecDepth 100000 in
set_option maxHeartbeats 4000000 in
theorem lp_X4_allThatMake {l : Launch} {G : GC} {ad : Nat → Nat} {h : HP} {nL nH nB nC : Nat} {np : Nat → Nat} {pl : Nat → Nat → Nat} (hw : WF h nL nH nB nC np pl) {lot : Nat} (hlot : lot < 24)  : ∀ (mu9 : Nat) (n : Nat) (x2 : Int32) (x3 : Int32) (hn : n ≤ 24) (hx3 : x3 = nI n - 1) (hF : atF (psI np pl) (bit1 lot) (lot + 1) = atF (psI np pl) x2 n) (hmu9 : n < mu9), PW l G cX4_allThatMake RX4 4 ((Option.some FieldType.int)) [] { frames := 4, cells := 0, slots := 0, locals := 89 } (gNm "allThatMake") (gME G SW ad (gR SW ad (some (.int (atF (psI np pl) (bit1 lot) (lot + 1)))) (h)) gNo 0 0) 6 [some (.ref (ad 2)), some (.int (nI lot)), some (.int x2), some (.int x3)] [] SW ad (h) 0 0 := by
  intro mu9
  induction mu9 with
  | zero => intro n x2 x3 hn hx3 hF hmu9; exact absurd hmu9 (Nat.not_lt_zero _)
  | succ mu9 ih =>
    intro n x2 x3 hn hx3 hF hmu9
    have hb1 := hw.1.2
    have hb2 := hw.2.1.2
    have hb3 := hw.2.2.1.2
    have hb4 := hw.2.2.2.1.2
    refine pw_iload_n dX4_allThatMake_6 rfl ?_
    refine pw_if_lt dX4_allThatMake_7 (tgt := 32) (by decide) (fun c7 => ?_) (fun c7 => ?_)
    · skip
      have hi8 : n = 0 := by
        rcases n with _ | n
        · rfl
        · exact absurd (by rw [hx3, nI_pred] at c7; exact c7) (nI_pos (by omega))
      refine pw_iload_n dX4_allThatMake_32 rfl ?_
      exact pw_iretF dX4_allThatMake_33 rfl rfl rfl (by rw [hF, hi8]; rfl) rfl
    · skip
      obtain ⟨n, rfl⟩ : ∃ j, n = j + 1 := ⟨n - 1, by rcases n with _ | n; exact absurd (by rw [hx3]; decide) c7; omega⟩
      rw [nI_pred] at hx3
      subst hx3
      refine pw_iload_n dX4_allThatMake_10 rfl ?_
      refine pw_iload_n dX4_allThatMake_11 rfl ?_
      refine pw_cS dX4_allThatMake_12 (sp_X7_isIn) mi_X7_isIn ms_X7_isIn ml_X4_111 rfl rfl ⟨rfl, rfl⟩ rfl rfl ?_
      refine pw_if_eq dX4_allThatMake_15 (tgt := 26) (by decide) (fun c15 => ?_) (fun c15 => ?_)
      · skip
        refine pw_iinc dX4_allThatMake_26 rfl (d := (-1)) (by decide) (by decide) rfl ?_
        refine pw_goto dX4_allThatMake_29 (tgt := 6) (by decide) ?_
        refine ih n _ _ (by omega) (pk_m1p n) ?_ (by omega)
        rw [hF, atF]
        first | rw [if_pos (b2i_ne c15)] | rw [if_neg (by rw [b2i_eq c15]; decide)]
      · skip
        refine pw_iload_n dX4_allThatMake_18 rfl ?_
        refine pw_aload_n dX4_allThatMake_19 rfl ?_
        refine pw_iload_n dX4_allThatMake_20 rfl ?_
        refine pw_cV dX4_allThatMake_21 (sp_X4_partSetOf hw (lot := n) (by omega)) mi_X4_partSetOf mv_X4_partSetOf ml_X4_108 sh_2 rfl rfl rfl rfl ⟨rfl, rfl⟩ rfl rfl ?_
        refine pw_ior dX4_allThatMake_24 ?_
        refine pw_istore_n dX4_allThatMake_25 (by decide) rfl ?_
        refine pw_iinc dX4_allThatMake_26 rfl (d := (-1)) (by decide) (by decide) rfl ?_
        refine pw_goto dX4_allThatMake_29 (tgt := 6) (by decide) ?_
        refine ih n _ _ (by omega) (pk_m1p n) ?_ (by omega)
        rw [hF, atF]
        first | rw [if_pos (b2i_ne c15)] | rw [if_neg (by rw [b2i_eq c15]; decide)]

set_option maxRecDepth 100000 in
set_option maxHeartbeats 4000000 in
theorem sp_X4_allThatMake {l : Launch} {G : GC} {ad : Nat → Nat} {h : HP} {nL nH nB nC : Nat} {np : Nat → Nat} {pl : Nat → Nat → Nat} (hw : WF h nL nH nB nC np pl) {lot : Nat} (hlot : lot < 24) : PF l G yX4_allThatMake (.code yX4_allThatMake cX4_allThatMake 4 ((Option.some FieldType.int))) { frames := 4, cells := 0, slots := 0, locals := 89 } [.ref (ad 2), .int (nI lot)] SW ad (h) (some (.int (atF (psI np pl) (bit1 lot) (lot + 1)))) (h) := by
  refine PF.mk (L0 := [some (.ref (ad 2)), some (.int (nI lot)), none, none]) RX4 "allThatMake" 0 0 (by decide +kernel) rfl rfl ⟨rfl, rfl⟩ (by simp [Value.category]) (Nat.le_of_ble_eq_true rfl) rfl ?_
  refine pw_iconst dX4_allThatMake_0 (v := 1) (by decide) ?_
  refine pw_iload_n dX4_allThatMake_1 rfl ?_
  refine pw_ishl dX4_allThatMake_2 ?_
  refine pw_istore_n dX4_allThatMake_3 (by decide) rfl ?_
  refine pw_iload_n dX4_allThatMake_4 rfl ?_
  refine pw_istore_n dX4_allThatMake_5 (by decide) rfl ?_
  exact lp_X4_allThatMake hw hlot (lot + 2) (lot + 1) _ _ (by omega) (nI_pred lot).symm rfl (by omega)

set_option maxRecDepth 100000 in
set_option maxHeartbeats 4000000 in
theorem lp_X4_harvestedQuarters {l : Launch} {G : GC} {ad : Nat → Nat} {h : HP} {nL nH nB nC : Nat} {np : Nat → Nat} {pl : Nat → Nat → Nat} (hw : WF h nL nH nB nC np pl)  : ∀ (mu9 : Nat) (i : Nat) (x1 : Int32) (hi : i ≤ nL) (hx1 : x1 = sumC (fun k => if ¬ (h 4 (k * 5 + 4) = -1) then h 4 (k * 5 + 0) else 0) i) (hmu9 : nL - i < mu9), PW l G cX4_harvestedQuarters RX4 3 ((Option.some FieldType.int)) [] { frames := 2, cells := 0, slots := 0, locals := 45 } (gNm "harvestedQuarters") (gME G SW ad (gR SW ad (some (.int (sumC (fun k => if ¬ (h 4 (k * 5 + 4) = -1) then h 4 (k * 5 + 0) else 0) nL))) (h)) gNo 0 0) 4 [some (.ref (ad 2)), some (.int x1), some (.int (nI i))] [] SW ad (h) 0 0 := by
  intro mu9
  induction mu9 with
  | zero => intro i x1 hi hx1 hmu9; exact absurd hmu9 (Nat.not_lt_zero _)
  | succ mu9 ih =>
    intro i x1 hi hx1 hmu9
    have hb1 := hw.1.2
    have hb2 := hw.2.1.2
    have hb3 := hw.2.2.1.2
    have hb4 := hw.2.2.2.1.2
    refine pw_iload_n dX4_harvestedQuarters_4 rfl ?_
    refine pw_aload_n dX4_harvestedQuarters_5 rfl ?_
    refine pw_geti dX4_harvestedQuarters_6 lf_X4_32 sh_2 rfl ?_
    refine pw_icmp_ge dX4_harvestedQuarters_9 (tgt := 43) (by decide) (fun c9 => ?_) (fun c9 => ?_)
    · skip
      have hi8 : i = nL := eqN hw.1.1 hi (by omega) c9
      refine pw_iload_n dX4_harvestedQuarters_43 rfl ?_
      exact pw_iretF dX4_harvestedQuarters_44 rfl rfl rfl (by rw [hx1, hi8]) rfl
    · skip
      have hi9 : i < nL := ltN hw.1.1 hi (by omega) c9
      refine pw_aload_n dX4_harvestedQuarters_12 rfl ?_
      refine pw_getr dX4_harvestedQuarters_13 lf_X4_14 sh_2 rfl ?_
      refine pw_iload_n dX4_harvestedQuarters_16 rfl ?_
      refine pw_iconst dX4_harvestedQuarters_17 (v := 4) (by decide) ?_
      refine pw_cV dX4_harvestedQuarters_18 (sp_X6_at tq_3 (r := i) (k := 4) rfl rfl (by omega) (by decide)) mi_X6_at mv_X6_at ml_X4_80 sh_3 rfl rfl rfl rfl ⟨rfl, rfl⟩ rfl rfl ?_
      refine pw_iconst dX4_harvestedQuarters_21 (v := (-1)) (by decide) ?_
      refine pw_icmp_eq dX4_harvestedQuarters_22 (tgt := 37) (by decide) (fun c22 => ?_) (fun c22 => ?_)
      · skip
        refine pw_iinc dX4_harvestedQuarters_37 rfl (d := 1) (by decide) (by decide) rfl ?_
        rw [nI_1]
        refine pw_goto dX4_harvestedQuarters_40 (tgt := 4) (by decide) ?_
        refine ih (i + 1) _ (by omega) ?_ (by omega)
        first | exact sum_s (p := fun k => ¬ (h 4 (k * 5 + 4) = -1)) (f := fun k => h 4 (k * 5 + 0)) hx1 c22 | exact sum_n (p := fun k => ¬ (h 4 (k * 5 + 4) = -1)) (f := fun k => h 4 (k * 5 + 0)) hx1 (fun q => q c22)
      · skip
        refine pw_iload_n dX4_harvestedQuarters_25 rfl ?_
        refine pw_aload_n dX4_harvestedQuarters_26 rfl ?_
        refine pw_getr dX4_harvestedQuarters_27 lf_X4_14 sh_2 rfl ?_
        refine pw_iload_n dX4_harvestedQuarters_30 rfl ?_
        refine pw_iconst dX4_harvestedQuarters_31 (v := 0) (by decide) ?_
        refine pw_cV dX4_harvestedQuarters_32 (sp_X6_at tq_3 (r := i) (k := 0) rfl rfl (by omega) (by decide)) mi_X6_at mv_X6_at ml_X4_80 sh_3 rfl rfl rfl rfl ⟨rfl, rfl⟩ rfl rfl ?_
        refine pw_iadd dX4_harvestedQuarters_35 ?_
        refine pw_istore_n dX4_harvestedQuarters_36 (by decide) rfl ?_
        refine pw_iinc dX4_harvestedQuarters_37 rfl (d := 1) (by decide) (by decide) rfl ?_
        rw [nI_1]
        refine pw_goto dX4_harvestedQuarters_40 (tgt := 4) (by decide) ?_
        refine ih (i + 1) _ (by omega) ?_ (by omega)
        first | exact sum_s (p := fun k => ¬ (h 4 (k * 5 + 4) = -1)) (f := fun k => h 4 (k * 5 + 0)) hx1 c22 | exact sum_n (p := fun k => ¬ (h 4 (k * 5 + 4) = -1)) (f := fun k => h 4 (k * 5 + 0)) hx1 (fun q => q c22)

set_option maxRecDepth 100000 in
set_option maxHeartbeats 4000000 in
theorem sp_X4_harvestedQuarters {l : Launch} {G : GC} {ad : Nat → Nat} {h : HP} {nL nH nB nC : Nat} {np : Nat → Nat} {pl : Nat → Nat → Nat} (hw : WF h nL nH nB nC np pl) : PF l G yX4_harvestedQuarters (.code yX4_harvestedQuarters cX4_harvestedQuarters 3 ((Option.some FieldType.int))) { frames := 2, cells := 0, slots := 0, locals := 45 } [.ref (ad 2)] SW ad (h) (some (.int (sumC (fun k => if ¬ (h 4 (k * 5 + 4) = -1) then h 4 (k * 5 + 0) else 0) nL))) (h) := by
  refine PF.mk (L0 := [some (.ref (ad 2)), none, none]) RX4 "harvestedQuarters" 0 0 (by decide +kernel) rfl rfl ⟨rfl, rfl⟩ (by simp [Value.category]) (Nat.le_of_ble_eq_true rfl) rfl ?_
  refine pw_iconst dX4_harvestedQuarters_0 (v := 0) (by decide) ?_
  refine pw_istore_n dX4_harvestedQuarters_1 (by decide) rfl ?_
  refine pw_iconst dX4_harvestedQuarters_2 (v := 0) (by decide) ?_
  refine pw_istore_n dX4_harvestedQuarters_3 (by decide) rfl ?_
  exact lp_X4_harvestedQuarters hw (nL + 1) 0 0 (Nat.zero_le _) rfl (by omega)

set_option maxRecDepth 100000 in
set_option maxHeartbeats 4000000 in
theorem sp_X4_leftInAll {l : Launch} {G : GC} {ad : Nat → Nat} {h : HP} : PF l G yX4_leftInAll (.code yX4_leftInAll cX4_leftInAll 1 ((Option.some FieldType.int))) { frames := 3, cells := 0, slots := 0, locals := 68 } [.ref (ad 2)] SW ad (h) (some (.int (sumC (fun r => h 4 (r * 5 + 1)) 24))) (h) := by
  refine PF.mk (L0 := [some (.ref (ad 2))]) RX4 "leftInAll" 0 0 (by decide +kernel) rfl rfl ⟨rfl, rfl⟩ (by simp [Value.category]) (Nat.le_of_ble_eq_true rfl) rfl ?_
  refine pw_aload_n dX4_leftInAll_0 rfl ?_
  refine pw_getr dX4_leftInAll_1 lf_X4_14 sh_2 rfl ?_
  refine pw_iconst dX4_leftInAll_4 (v := 1) (by decide) ?_
  refine pw_cV dX4_leftInAll_5 (sp_X6_sumOfColumn tq_3 (k := 1) rfl (by decide)) mi_X6_sumOfColumn mv_X6_sumOfColumn ml_X4_118 sh_3 rfl rfl rfl rfl ⟨rfl, rfl⟩ rfl rfl ?_
  exact pw_iretF dX4_leftInAll_8 rfl rfl rfl rfl rfl

set_option maxRecDepth 100000 in
set_option maxHeartbeats 4000000 in
theorem sp_X4_numbersBy0 {l : Launch} {G : GC} {ad : Nat → Nat} {h : HP} : PF l G yX4_numbersBy (.code yX4_numbersBy cX4_numbersBy 2 ((Option.some FieldType.int))) { frames := 0, cells := 0, slots := 0, locals := 0 } [.ref (ad 2), .int (0)] SW ad (h) (some (.int (h 2 6))) (h) := by
  refine PF.mk (L0 := [some (.ref (ad 2)), some (.int (0))]) RX4 "numbersBy" 0 0 (by decide +kernel) rfl rfl ⟨rfl, rfl⟩ (by simp [Value.category]) (Nat.le_of_ble_eq_true rfl) rfl ?_
  refine pw_iload_n dX4_numbersBy_0 rfl ?_
  refine pw_tabOut dX4_numbersBy_1 (by decide) (tgt := 35) (by decide) ?_
  refine pw_aload_n dX4_numbersBy_35 rfl ?_
  refine pw_geti dX4_numbersBy_36 lf_X4_36 sh_2 rfl ?_
  exact pw_iretF dX4_numbersBy_39 rfl rfl rfl rfl rfl

set_option maxRecDepth 100000 in
set_option maxHeartbeats 4000000 in
theorem sp_X4_numbersBy1 {l : Launch} {G : GC} {ad : Nat → Nat} {h : HP} : PF l G yX4_numbersBy (.code yX4_numbersBy cX4_numbersBy 2 ((Option.some FieldType.int))) { frames := 0, cells := 0, slots := 0, locals := 0 } [.ref (ad 2), .int (1)] SW ad (h) (some (.int (100))) (h) := by
  refine PF.mk (L0 := [some (.ref (ad 2)), some (.int (1))]) RX4 "numbersBy" 0 0 (by decide +kernel) rfl rfl ⟨rfl, rfl⟩ (by simp [Value.category]) (Nat.le_of_ble_eq_true rfl) rfl ?_
  refine pw_iload_n dX4_numbersBy_0 rfl ?_
  refine pw_tabIn dX4_numbersBy_1 (by decide) (by decide) (off := 27) rfl (tgt := 28) (by decide) ?_
  refine pw_bipush dX4_numbersBy_28 (v := 100) (by decide) ?_
  exact pw_iretF dX4_numbersBy_30 rfl rfl rfl rfl rfl

set_option maxRecDepth 100000 in
set_option maxHeartbeats 4000000 in
theorem sp_X4_numbersBy2 {l : Launch} {G : GC} {ad : Nat → Nat} {h : HP} : PF l G yX4_numbersBy (.code yX4_numbersBy cX4_numbersBy 2 ((Option.some FieldType.int))) { frames := 0, cells := 0, slots := 0, locals := 0 } [.ref (ad 2), .int (2)] SW ad (h) (some (.int (5))) (h) := by
  refine PF.mk (L0 := [some (.ref (ad 2)), some (.int (2))]) RX4 "numbersBy" 0 0 (by decide +kernel) rfl rfl ⟨rfl, rfl⟩ (by simp [Value.category]) (Nat.le_of_ble_eq_true rfl) rfl ?_
  refine pw_iload_n dX4_numbersBy_0 rfl ?_
  refine pw_tabIn dX4_numbersBy_1 (by decide) (by decide) (off := 30) rfl (tgt := 31) (by decide) ?_
  refine pw_iconst dX4_numbersBy_31 (v := 5) (by decide) ?_
  exact pw_iretF dX4_numbersBy_32 rfl rfl rfl rfl rfl

set_option maxRecDepth 100000 in
set_option maxHeartbeats 4000000 in
theorem sp_X4_numbersBy3 {l : Launch} {G : GC} {ad : Nat → Nat} {h : HP} : PF l G yX4_numbersBy (.code yX4_numbersBy cX4_numbersBy 2 ((Option.some FieldType.int))) { frames := 0, cells := 0, slots := 0, locals := 0 } [.ref (ad 2), .int (3)] SW ad (h) (some (.int (4))) (h) := by
  refine PF.mk (L0 := [some (.ref (ad 2)), some (.int (3))]) RX4 "numbersBy" 0 0 (by decide +kernel) rfl rfl ⟨rfl, rfl⟩ (by simp [Value.category]) (Nat.le_of_ble_eq_true rfl) rfl ?_
  refine pw_iload_n dX4_numbersBy_0 rfl ?_
  refine pw_tabIn dX4_numbersBy_1 (by decide) (by decide) (off := 32) rfl (tgt := 33) (by decide) ?_
  refine pw_iconst dX4_numbersBy_33 (v := 4) (by decide) ?_
  exact pw_iretF dX4_numbersBy_34 rfl rfl rfl rfl rfl

