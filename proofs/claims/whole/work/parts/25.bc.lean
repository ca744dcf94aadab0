/-! THE NUMBER OF BITS -/
def usI (x n : Int32) : Int32 := (x.toUInt32 >>> (n.toUInt32 &&& Int32.toUInt32 31)).toInt32
def bc1 (x : Int32) : Int32 := x - (usI x 1 &&& 1431655765)
def bc2 (x : Int32) : Int32 := (x &&& 858993459) + (usI x 2 &&& 858993459)
def bc3 (x : Int32) : Int32 := (x + usI x 4) &&& 252645135
def bc4 (x : Int32) : Int32 := x + usI x 8
def bc5 (x : Int32) : Int32 := x + usI x 16
def bcI (x : Int32) : Int32 := bc5 (bc4 (bc3 (bc2 (bc1 x)))) &&& 63
set_option maxRecDepth 100000 in
set_option maxHeartbeats 4000000 in
theorem sp_J6_bitCount_0f7a4 {l : Launch} {G : GC} {ad : Nat → Nat} {h : HP} {S : List Sh} {x : Int32} : PF l G yJ6_bitCount_0f7a4 (.code yJ6_bitCount_0f7a4 cJ6_bitCount_0f7a4 1 ((Option.some FieldType.int))) { frames := 0, cells := 0, slots := 0, locals := 0 } [.int (x)] S ad (h) (some (.int (bcI x))) (h) := by
  refine PF.mk (L0 := [some (.int (x))]) RJ6 "bitCount" 0 0 (by decide +kernel) rfl rfl ⟨rfl, rfl⟩ (by simp [Value.category]) (Nat.le_of_ble_eq_true rfl) rfl ?_
  refine pw_iload_n dJ6_bitCount_0f7a4_0 rfl ?_
  refine pw_iload_n dJ6_bitCount_0f7a4_1 rfl ?_
  refine pw_iconst dJ6_bitCount_0f7a4_2 (v := 1) (by decide) ?_
  refine pw_iushr dJ6_bitCount_0f7a4_3 ?_
  refine pw_ldcw dJ6_bitCount_0f7a4_4 lk_J6_265 ?_
  refine pw_iand dJ6_bitCount_0f7a4_7 ?_
  refine pw_isub dJ6_bitCount_0f7a4_8 ?_
  refine pw_istore_n dJ6_bitCount_0f7a4_9 (by decide) rfl ?_
  refine pw_iload_n dJ6_bitCount_0f7a4_10 rfl ?_
  refine pw_ldcw dJ6_bitCount_0f7a4_11 lk_J6_266 ?_
  refine pw_iand dJ6_bitCount_0f7a4_14 ?_
  refine pw_iload_n dJ6_bitCount_0f7a4_15 rfl ?_
  refine pw_iconst dJ6_bitCount_0f7a4_16 (v := 2) (by decide) ?_
  refine pw_iushr dJ6_bitCount_0f7a4_17 ?_
  refine pw_ldcw dJ6_bitCount_0f7a4_18 lk_J6_266 ?_
  refine pw_iand dJ6_bitCount_0f7a4_21 ?_
  refine pw_iadd dJ6_bitCount_0f7a4_22 ?_
  refine pw_istore_n dJ6_bitCount_0f7a4_23 (by decide) rfl ?_
  refine pw_iload_n dJ6_bitCount_0f7a4_24 rfl ?_
  refine pw_iload_n dJ6_bitCount_0f7a4_25 rfl ?_
  refine pw_iconst dJ6_bitCount_0f7a4_26 (v := 4) (by decide) ?_
  refine pw_iushr dJ6_bitCount_0f7a4_27 ?_
  refine pw_iadd dJ6_bitCount_0f7a4_28 ?_
  refine pw_ldcw dJ6_bitCount_0f7a4_29 lk_J6_267 ?_
  refine pw_iand dJ6_bitCount_0f7a4_32 ?_
  refine pw_istore_n dJ6_bitCount_0f7a4_33 (by decide) rfl ?_
  refine pw_iload_n dJ6_bitCount_0f7a4_34 rfl ?_
  refine pw_iload_n dJ6_bitCount_0f7a4_35 rfl ?_
  refine pw_bipush dJ6_bitCount_0f7a4_36 (v := 8) (by decide) ?_
  refine pw_iushr dJ6_bitCount_0f7a4_38 ?_
  refine pw_iadd dJ6_bitCount_0f7a4_39 ?_
  refine pw_istore_n dJ6_bitCount_0f7a4_40 (by decide) rfl ?_
  refine pw_iload_n dJ6_bitCount_0f7a4_41 rfl ?_
  refine pw_iload_n dJ6_bitCount_0f7a4_42 rfl ?_
  refine pw_bipush dJ6_bitCount_0f7a4_43 (v := 16) (by decide) ?_
  refine pw_iushr dJ6_bitCount_0f7a4_45 ?_
  refine pw_iadd dJ6_bitCount_0f7a4_46 ?_
  refine pw_istore_n dJ6_bitCount_0f7a4_47 (by decide) rfl ?_
  refine pw_iload_n dJ6_bitCount_0f7a4_48 rfl ?_
  refine pw_bipush dJ6_bitCount_0f7a4_49 (v := 63) (by decide) ?_
  refine pw_iand dJ6_bitCount_0f7a4_51 ?_
  exact pw_iretF dJ6_bitCount_0f7a4_52 rfl rfl rfl rfl rfl

set_option maxRecDepth 100000 in
set_option maxHeartbeats 4000000 in
theorem sp_X7_lot_k6 {l : Launch} {G : GC} {ad : Nat → Nat} (hfl : l.stackTraces = false) {h : HP} {nL nH nB nC : Nat} {np : Nat → Nat} {pl : Nat → Nat → Nat} (hw : WF h nL nH nB nC np pl) {lot : Nat} (hlot : lot < nL)  : PT l G yX7_lot (.code yX7_lot cX7_lot 3 ((Option.some FieldType.int))) { frames := 8, cells := 2, slots := 12, locals := 132 } [.ref (ad 0), .int (nI lot), .int (6)] SW ad (h) (.inl (some (.int (bcI (blI np pl nL lot))))) (h) := by
  refine PT.mk (L0 := [some (.ref (ad 0)), some (.int (nI lot)), some (.int (6))]) RX7 "lot" 2 12 (by decide +kernel) rfl rfl ⟨rfl, rfl⟩ (by simp [Value.category]) (Nat.le_of_ble_eq_true rfl) rfl ?_
  have hb1 := hw.1.2
  have hlot24 : lot < 24 := by omega
  refine pw_aload_n dX7_lot_0 rfl ?_
  refine pw_iload_n dX7_lot_1 rfl ?_
  refine pw_okV dX7_lot_2 (sp_X7_requireLot_ok hfl (wi_ok hw.1.1 hlot (by have := hw.1.2; omega))) mi_X7_requireLot mv_X7_requireLot ml_X7_122 sh_0 rfl rfl rfl rfl rfl rfl ?_
  refine pw_iload_n dX7_lot_5 rfl ?_
  refine pw_iconst dX7_lot_6 (v := 0) (by decide) ?_
  refine pw_bipush dX7_lot_7 (v := 6) (by decide) ?_
  refine pw_okS dX7_lot_9 (sp_X7_requireNumber_ok hfl (by decide)) mi_X7_requireNumber ms_X7_requireNumber ml_X7_59 rfl rfl rfl rfl ?_
  refine pw_iload_n dX7_lot_12 rfl ?_
  refine pw_iconst dX7_lot_13 (v := 5) (by decide) ?_
  refine pw_icmp_ne dX7_lot_14 (tgt := 29) (by decide) (fun c14 => ?_) (fun c14 => absurd c14 (by decide))
  refine pw_iload_n dX7_lot_29 rfl ?_
  refine pw_bipush dX7_lot_30 (v := 6) (by decide) ?_
  refine pw_icmp_ne dX7_lot_32 (tgt := 50) (by decide) (fun c32 => absurd c32 (fun q => q rfl)) (fun c32 => ?_)
  refine pw_aload_n dX7_lot_35 rfl ?_
  refine pw_getr dX7_lot_36 lf_X7_10 sh_0 rfl ?_
  refine pw_getr dX7_lot_39 lf_X7_63 sh_1 rfl ?_
  refine pw_iload_n dX7_lot_42 rfl ?_
  refine pw_cV dX7_lot_43 (sp_X4_blendsOf hw hlot24) mi_X4_blendsOf mv_X4_blendsOf ml_X7_144 sh_2 rfl rfl rfl rfl ⟨rfl, rfl⟩ rfl rfl ?_
  refine pw_cS dX7_lot_46 (sp_J6_bitCount_0f7a4) mi_J6_bitCount_0f7a4 ms_J6_bitCount_0f7a4 ml_X7_147 rfl rfl ⟨rfl, rfl⟩ rfl rfl ?_
  exact pw_iretT dX7_lot_49 rfl rfl rfl rfl rfl

