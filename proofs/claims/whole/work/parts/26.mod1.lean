/-! THE MODEL'S SMALL METHODS -/
theorem nar_b (x : Bool) : narrow FieldType.boolean (.int (b2i x)) = .int (b2i x) := by cases x <;> rfl
theorem ixM (c m a b : Nat) : nI c + nI m * nI a + nI b = nI (c + m * a + b) := by rw [pk_mul, nI_add, nI_add]
def mL (h : HP) (lot k : Nat) : Int32 := h 254 (8 + 25 * lot + k)
def mHv (h : HP) (r k : Nat) : Int32 := h 254 (608 + 4 * r + k)
def mB (h : HP) (b k : Nat) : Int32 := h 254 (656 + 7 * b + k)
def mHd (h : HP) (c b : Nat) : Int32 := h 254 (776 + 16 * c + b)
def mWi (h : HP) (c b : Nat) : Int32 := h 254 (904 + 16 * c + b)
def sL (h : HP) (lot k : Nat) (v : Int32) : HP := hput h 254 (8 + 25 * lot + k) v
def sB (h : HP) (b k : Nat) (v : Int32) : HP := hput h 254 (656 + 7 * b + k) v
def faH (h : HP) (w : Int32) : HP := hput h 253 5 w
def mostI (w : Int32) : Int32 := if w = 0 then 99 else if w = 1 then 4 else 3
def portI (h : HP) (c : Nat) : Int32 := if h 254 (768 + c) = 0 then 12 else if h 254 (768 + c) = 1 then 6 else 3
set_option maxRecDepth 100000 in
set_option maxHeartbeats 4000000 in
theorem sp_X8_isIn {l : Launch} {G : GC} {ad : Nat → Nat} {S : List Sh} {h : HP} {a9 b9 e9 : Int32} : PF l G yX8_isIn (.code yX8_isIn cX8_isIn 3 ((Option.some FieldType.boolean))) { frames := 0, cells := 0, slots := 0, locals := 0 } [.int (a9), .int (b9), .int (e9)] S ad (h) (some (.int (b2i (wiB a9 b9 e9)))) (h) := by
  refine PF.mk (L0 := [some (.int (a9)), some (.int (b9)), some (.int (e9))]) RX8 "isIn" 0 0 (by decide +kernel) rfl rfl ⟨rfl, rfl⟩ (by simp [Value.category]) (Nat.le_of_ble_eq_true rfl) rfl ?_
  refine pw_iload_n dX8_isIn_0 rfl ?_
  refine pw_iload_n dX8_isIn_1 rfl ?_
  refine pw_icmp_lt dX8_isIn_2 (tgt := 14) (by decide) (fun c2 => ?_) (fun c2 => ?_)
  · skip
    refine pw_iconst dX8_isIn_14 (v := 0) (by decide) ?_
    refine pw_iretF dX8_isIn_15 rfl rfl rfl ?_ rfl; first | (have e1 : b9 ≤ a9 := Int32.not_lt.mp c2; have e2 : a9 ≤ e9 := Int32.not_lt.mp c7; simp [wiB, b2i, e1, e2]) | (have e1 : ¬ a9 ≤ e9 := Int32.not_le.mpr c7; simp [wiB, b2i, e1]) | (have e1 : ¬ b9 ≤ a9 := Int32.not_le.mpr c2; simp [wiB, b2i, e1])
  · skip
    refine pw_iload_n dX8_isIn_5 rfl ?_
    refine pw_iload_n dX8_isIn_6 rfl ?_
    refine pw_icmp_gt dX8_isIn_7 (tgt := 14) (by decide) (fun c7 => ?_) (fun c7 => ?_)
    · skip
      refine pw_iconst dX8_isIn_14 (v := 0) (by decide) ?_
      refine pw_iretF dX8_isIn_15 rfl rfl rfl ?_ rfl; first | (have e1 : b9 ≤ a9 := Int32.not_lt.mp c2; have e2 : a9 ≤ e9 := Int32.not_lt.mp c7; simp [wiB, b2i, e1, e2]) | (have e1 : ¬ a9 ≤ e9 := Int32.not_le.mpr c7; simp [wiB, b2i, e1]) | (have e1 : ¬ b9 ≤ a9 := Int32.not_le.mpr c2; simp [wiB, b2i, e1])
    · skip
      refine pw_iconst dX8_isIn_10 (v := 1) (by decide) ?_
      refine pw_goto dX8_isIn_11 (tgt := 15) (by decide) ?_
      refine pw_iretF dX8_isIn_15 rfl rfl rfl ?_ rfl; first | (have e1 : b9 ≤ a9 := Int32.not_lt.mp c2; have e2 : a9 ≤ e9 := Int32.not_lt.mp c7; simp [wiB, b2i, e1, e2]) | (have e1 : ¬ a9 ≤ e9 := Int32.not_le.mpr c7; simp [wiB, b2i, e1]) | (have e1 : ¬ b9 ≤ a9 := Int32.not_le.mpr c2; simp [wiB, b2i, e1])

set_option maxRecDepth 100000 in
set_option maxHeartbeats 4000000 in
theorem sp_X8_l {l : Launch} {G : GC} {ad : Nat → Nat} {h : HP} {lot k : Nat} (hlk : 8 + 25 * lot + k < 1032) : PF l G yX8_l (.code yX8_l cX8_l 3 ((Option.some FieldType.int))) { frames := 0, cells := 0, slots := 0, locals := 0 } [.ref (ad 253), .int (nI lot), .int (nI k)] SW ad (h) (some (.int (mL h lot k))) (h) := by
  refine PF.mk (L0 := [some (.ref (ad 253)), some (.int (nI lot)), some (.int (nI k))]) RX8 "l" 0 0 (by decide +kernel) rfl rfl ⟨rfl, rfl⟩ (by simp [Value.category]) (Nat.le_of_ble_eq_true rfl) rfl ?_
  refine pw_aload_n dX8_l_0 rfl ?_
  refine pw_getr dX8_l_1 lf_X8_9 sh_253 rfl ?_
  refine pw_bipush dX8_l_4 (v := 8) (by decide) ?_
  refine pw_bipush dX8_l_6 (v := 25) (by decide) ?_
  refine pw_iload_n dX8_l_8 rfl ?_
  refine pw_imul dX8_l_9 ?_
  refine pw_iadd dX8_l_10 ?_
  refine pw_iload_n dX8_l_11 rfl ?_
  refine pw_iadd dX8_l_12 ?_
  rw [show (8 : Int32) + 25 * nI lot + nI k = nI (8 + 25 * lot + k) from ixM 8 25 lot k]
  refine pw_iaload dX8_l_13 sh_254 (vpin (by omega) (by decide)) ?_
  exact pw_iretF dX8_l_14 rfl rfl rfl (by rw [nI_cl (by omega)]; rfl) rfl

set_option maxRecDepth 100000 in
set_option maxHeartbeats 4000000 in
theorem sp_X8_h {l : Launch} {G : GC} {ad : Nat → Nat} {h : HP} {r k : Nat} (hlk : 608 + 4 * r + k < 1032) : PF l G yX8_h (.code yX8_h cX8_h 3 ((Option.some FieldType.int))) { frames := 0, cells := 0, slots := 0, locals := 0 } [.ref (ad 253), .int (nI r), .int (nI k)] SW ad (h) (some (.int (mHv h r k))) (h) := by
  refine PF.mk (L0 := [some (.ref (ad 253)), some (.int (nI r)), some (.int (nI k))]) RX8 "h" 0 0 (by decide +kernel) rfl rfl ⟨rfl, rfl⟩ (by simp [Value.category]) (Nat.le_of_ble_eq_true rfl) rfl ?_
  refine pw_aload_n dX8_h_0 rfl ?_
  refine pw_getr dX8_h_1 lf_X8_9 sh_253 rfl ?_
  refine pw_sipush dX8_h_4 (v := 608) (by decide) ?_
  refine pw_iconst dX8_h_7 (v := 4) (by decide) ?_
  refine pw_iload_n dX8_h_8 rfl ?_
  refine pw_imul dX8_h_9 ?_
  refine pw_iadd dX8_h_10 ?_
  refine pw_iload_n dX8_h_11 rfl ?_
  refine pw_iadd dX8_h_12 ?_
  rw [show (608 : Int32) + 4 * nI r + nI k = nI (608 + 4 * r + k) from ixM 608 4 r k]
  refine pw_iaload dX8_h_13 sh_254 (vpin (by omega) (by decide)) ?_
  exact pw_iretF dX8_h_14 rfl rfl rfl (by rw [nI_cl (by omega)]; rfl) rfl

set_option maxRecDepth 100000 in
set_option maxHeartbeats 4000000 in
theorem sp_X8_b {l : Launch} {G : GC} {ad : Nat → Nat} {h : HP} {b k : Nat} (hlk : 656 + 7 * b + k < 1032) : PF l G yX8_b (.code yX8_b cX8_b 3 ((Option.some FieldType.int))) { frames := 0, cells := 0, slots := 0, locals := 0 } [.ref (ad 253), .int (nI b), .int (nI k)] SW ad (h) (some (.int (mB h b k))) (h) := by
  refine PF.mk (L0 := [some (.ref (ad 253)), some (.int (nI b)), some (.int (nI k))]) RX8 "b" 0 0 (by decide +kernel) rfl rfl ⟨rfl, rfl⟩ (by simp [Value.category]) (Nat.le_of_ble_eq_true rfl) rfl ?_
  refine pw_aload_n dX8_b_0 rfl ?_
  refine pw_getr dX8_b_1 lf_X8_9 sh_253 rfl ?_
  refine pw_sipush dX8_b_4 (v := 656) (by decide) ?_
  refine pw_bipush dX8_b_7 (v := 7) (by decide) ?_
  refine pw_iload_n dX8_b_9 rfl ?_
  refine pw_imul dX8_b_10 ?_
  refine pw_iadd dX8_b_11 ?_
  refine pw_iload_n dX8_b_12 rfl ?_
  refine pw_iadd dX8_b_13 ?_
  rw [show (656 : Int32) + 7 * nI b + nI k = nI (656 + 7 * b + k) from ixM 656 7 b k]
  refine pw_iaload dX8_b_14 sh_254 (vpin (by omega) (by decide)) ?_
  exact pw_iretF dX8_b_15 rfl rfl rfl (by rw [nI_cl (by omega)]; rfl) rfl

set_option maxRecDepth 100000 in
set_option maxHeartbeats 4000000 in
theorem sp_X8_held {l : Launch} {G : GC} {ad : Nat → Nat} {h : HP} {c b : Nat} (hlk : 776 + 16 * c + b < 1032) : PF l G yX8_held (.code yX8_held cX8_held 3 ((Option.some FieldType.int))) { frames := 0, cells := 0, slots := 0, locals := 0 } [.ref (ad 253), .int (nI c), .int (nI b)] SW ad (h) (some (.int (mHd h c b))) (h) := by
  refine PF.mk (L0 := [some (.ref (ad 253)), some (.int (nI c)), some (.int (nI b))]) RX8 "held" 0 0 (by decide +kernel) rfl rfl ⟨rfl, rfl⟩ (by simp [Value.category]) (Nat.le_of_ble_eq_true rfl) rfl ?_
  refine pw_aload_n dX8_held_0 rfl ?_
  refine pw_getr dX8_held_1 lf_X8_9 sh_253 rfl ?_
  refine pw_sipush dX8_held_4 (v := 776) (by decide) ?_
  refine pw_bipush dX8_held_7 (v := 16) (by decide) ?_
  refine pw_iload_n dX8_held_9 rfl ?_
  refine pw_imul dX8_held_10 ?_
  refine pw_iadd dX8_held_11 ?_
  refine pw_iload_n dX8_held_12 rfl ?_
  refine pw_iadd dX8_held_13 ?_
  rw [show (776 : Int32) + 16 * nI c + nI b = nI (776 + 16 * c + b) from ixM 776 16 c b]
  refine pw_iaload dX8_held_14 sh_254 (vpin (by omega) (by decide)) ?_
  exact pw_iretF dX8_held_15 rfl rfl rfl (by rw [nI_cl (by omega)]; rfl) rfl

set_option maxRecDepth 100000 in
set_option maxHeartbeats 4000000 in
theorem sp_X8_wished {l : Launch} {G : GC} {ad : Nat → Nat} {h : HP} {c b : Nat} (hlk : 904 + 16 * c + b < 1032) : PF l G yX8_wished (.code yX8_wished cX8_wished 3 ((Option.some FieldType.int))) { frames := 0, cells := 0, slots := 0, locals := 0 } [.ref (ad 253), .int (nI c), .int (nI b)] SW ad (h) (some (.int (mWi h c b))) (h) := by
  refine PF.mk (L0 := [some (.ref (ad 253)), some (.int (nI c)), some (.int (nI b))]) RX8 "wished" 0 0 (by decide +kernel) rfl rfl ⟨rfl, rfl⟩ (by simp [Value.category]) (Nat.le_of_ble_eq_true rfl) rfl ?_
  refine pw_aload_n dX8_wished_0 rfl ?_
  refine pw_getr dX8_wished_1 lf_X8_9 sh_253 rfl ?_
  refine pw_sipush dX8_wished_4 (v := 904) (by decide) ?_
  refine pw_bipush dX8_wished_7 (v := 16) (by decide) ?_
  refine pw_iload_n dX8_wished_9 rfl ?_
  refine pw_imul dX8_wished_10 ?_
  refine pw_iadd dX8_wished_11 ?_
  refine pw_iload_n dX8_wished_12 rfl ?_
  refine pw_iadd dX8_wished_13 ?_
  rw [show (904 : Int32) + 16 * nI c + nI b = nI (904 + 16 * c + b) from ixM 904 16 c b]
  refine pw_iaload dX8_wished_14 sh_254 (vpin (by omega) (by decide)) ?_
  exact pw_iretF dX8_wished_15 rfl rfl rfl (by rw [nI_cl (by omega)]; rfl) rfl

set_option maxRecDepth 100000 in
set_option maxHeartbeats 4000000 in
theorem sp_X8_setL {l : Launch} {G : GC} {ad : Nat → Nat} {h : HP} {lot k : Nat} (hlk : 8 + 25 * lot + k < 1032) {v : Int32} : PF l G yX8_setL (.code yX8_setL cX8_setL 4 ((Option.none : Option FieldType))) { frames := 0, cells := 0, slots := 0, locals := 0 } [.ref (ad 253), .int (nI lot), .int (nI k), .int (v)] SW ad (h) (none) (sL h lot k v) := by
  refine PF.mk (L0 := [some (.ref (ad 253)), some (.int (nI lot)), some (.int (nI k)), some (.int (v))]) RX8 "setL" 0 0 (by decide +kernel) rfl rfl ⟨rfl, rfl⟩ (by simp [Value.category]) (Nat.le_of_ble_eq_true rfl) rfl ?_
  refine pw_aload_n dX8_setL_0 rfl ?_
  refine pw_getr dX8_setL_1 lf_X8_9 sh_253 rfl ?_
  refine pw_bipush dX8_setL_4 (v := 8) (by decide) ?_
  refine pw_bipush dX8_setL_6 (v := 25) (by decide) ?_
  refine pw_iload_n dX8_setL_8 rfl ?_
  refine pw_imul dX8_setL_9 ?_
  refine pw_iadd dX8_setL_10 ?_
  refine pw_iload_n dX8_setL_11 rfl ?_
  refine pw_iadd dX8_setL_12 ?_
  rw [show (8 : Int32) + 25 * nI lot + nI k = nI (8 + 25 * lot + k) from ixM 8 25 lot k]
  refine pw_iload_n dX8_setL_13 rfl ?_
  refine pw_iastore dX8_setL_14 sh_254 (vpin (by omega) (by decide)) ?_
  exact pw_retF dX8_setL_15 rfl rfl (by rw [nI_cl (by omega)]; rfl)

set_option maxRecDepth 100000 in
set_option maxHeartbeats 4000000 in
theorem sp_X8_setB {l : Launch} {G : GC} {ad : Nat → Nat} {h : HP} {b k : Nat} (hlk : 656 + 7 * b + k < 1032) {v : Int32} : PF l G yX8_setB (.code yX8_setB cX8_setB 4 ((Option.none : Option FieldType))) { frames := 0, cells := 0, slots := 0, locals := 0 } [.ref (ad 253), .int (nI b), .int (nI k), .int (v)] SW ad (h) (none) (sB h b k v) := by
  refine PF.mk (L0 := [some (.ref (ad 253)), some (.int (nI b)), some (.int (nI k)), some (.int (v))]) RX8 "setB" 0 0 (by decide +kernel) rfl rfl ⟨rfl, rfl⟩ (by simp [Value.category]) (Nat.le_of_ble_eq_true rfl) rfl ?_
  refine pw_aload_n dX8_setB_0 rfl ?_
  refine pw_getr dX8_setB_1 lf_X8_9 sh_253 rfl ?_
  refine pw_sipush dX8_setB_4 (v := 656) (by decide) ?_
  refine pw_bipush dX8_setB_7 (v := 7) (by decide) ?_
  refine pw_iload_n dX8_setB_9 rfl ?_
  refine pw_imul dX8_setB_10 ?_
  refine pw_iadd dX8_setB_11 ?_
  refine pw_iload_n dX8_setB_12 rfl ?_
  refine pw_iadd dX8_setB_13 ?_
  rw [show (656 : Int32) + 7 * nI b + nI k = nI (656 + 7 * b + k) from ixM 656 7 b k]
  refine pw_iload_n dX8_setB_14 rfl ?_
  refine pw_iastore dX8_setB_15 sh_254 (vpin (by omega) (by decide)) ?_
  exact pw_retF dX8_setB_16 rfl rfl (by rw [nI_cl (by omega)]; rfl)

set_option maxRecDepth 100000 in
set_option maxHeartbeats 4000000 in
theorem sp_X8_isLot {l : Launch} {G : GC} {ad : Nat → Nat} {h : HP} {n : Int32} : PF l G yX8_isLot (.code yX8_isLot cX8_isLot 2 ((Option.some FieldType.boolean))) { frames := 1, cells := 0, slots := 0, locals := 22 } [.ref (ad 253), .int (n)] SW ad (h) (some (.int (b2i (wiB n 0 (h 254 0 - 1))))) (h) := by
  refine PF.mk (L0 := [some (.ref (ad 253)), some (.int (n))]) RX8 "isLot" 0 0 (by decide +kernel) rfl rfl ⟨rfl, rfl⟩ (by simp [Value.category]) (Nat.le_of_ble_eq_true rfl) rfl ?_
  refine pw_iload_n dX8_isLot_0 rfl ?_
  refine pw_iconst dX8_isLot_1 (v := 0) (by decide) ?_
  refine pw_aload_n dX8_isLot_2 rfl ?_
  refine pw_getr dX8_isLot_3 lf_X8_9 sh_253 rfl ?_
  refine pw_iconst dX8_isLot_6 (v := 0) (by decide) ?_
  refine pw_iaload dX8_isLot_7 sh_254 (vpin (n := 0) (N := 1032) (by decide) (by decide)) ?_
  refine pw_iconst dX8_isLot_8 (v := 1) (by decide) ?_
  refine pw_isub dX8_isLot_9 ?_
  refine pw_cS dX8_isLot_10 (sp_X8_isIn) mi_X8_isIn ms_X8_isIn ml_X8_55 rfl rfl ⟨rfl, rfl⟩ rfl rfl ?_
  exact pw_iretF dX8_isLot_13 rfl (nar_b _) rfl rfl rfl

set_option maxRecDepth 100000 in
set_option maxHeartbeats 4000000 in
theorem sp_X8_isBottling {l : Launch} {G : GC} {ad : Nat → Nat} {h : HP} {n : Int32} : PF l G yX8_isBottling (.code yX8_isBottling cX8_isBottling 2 ((Option.some FieldType.boolean))) { frames := 1, cells := 0, slots := 0, locals := 22 } [.ref (ad 253), .int (n)] SW ad (h) (some (.int (b2i (wiB n 0 (h 254 2 - 1))))) (h) := by
  refine PF.mk (L0 := [some (.ref (ad 253)), some (.int (n))]) RX8 "isBottling" 0 0 (by decide +kernel) rfl rfl ⟨rfl, rfl⟩ (by simp [Value.category]) (Nat.le_of_ble_eq_true rfl) rfl ?_
  refine pw_iload_n dX8_isBottling_0 rfl ?_
  refine pw_iconst dX8_isBottling_1 (v := 0) (by decide) ?_
  refine pw_aload_n dX8_isBottling_2 rfl ?_
  refine pw_getr dX8_isBottling_3 lf_X8_9 sh_253 rfl ?_
  refine pw_iconst dX8_isBottling_6 (v := 2) (by decide) ?_
  refine pw_iaload dX8_isBottling_7 sh_254 (vpin (n := 2) (N := 1032) (by decide) (by decide)) ?_
  refine pw_iconst dX8_isBottling_8 (v := 1) (by decide) ?_
  refine pw_isub dX8_isBottling_9 ?_
  refine pw_cS dX8_isBottling_10 (sp_X8_isIn) mi_X8_isIn ms_X8_isIn ml_X8_55 rfl rfl ⟨rfl, rfl⟩ rfl rfl ?_
  exact pw_iretF dX8_isBottling_13 rfl (nar_b _) rfl rfl rfl

set_option maxRecDepth 100000 in
set_option maxHeartbeats 4000000 in
theorem sp_X8_isCustomer {l : Launch} {G : GC} {ad : Nat → Nat} {h : HP} {n : Int32} : PF l G yX8_isCustomer (.code yX8_isCustomer cX8_isCustomer 2 ((Option.some FieldType.boolean))) { frames := 1, cells := 0, slots := 0, locals := 22 } [.ref (ad 253), .int (n)] SW ad (h) (some (.int (b2i (wiB n 0 (h 254 3 - 1))))) (h) := by
  refine PF.mk (L0 := [some (.ref (ad 253)), some (.int (n))]) RX8 "isCustomer" 0 0 (by decide +kernel) rfl rfl ⟨rfl, rfl⟩ (by simp [Value.category]) (Nat.le_of_ble_eq_true rfl) rfl ?_
  refine pw_iload_n dX8_isCustomer_0 rfl ?_
  refine pw_iconst dX8_isCustomer_1 (v := 0) (by decide) ?_
  refine pw_aload_n dX8_isCustomer_2 rfl ?_
  refine pw_getr dX8_isCustomer_3 lf_X8_9 sh_253 rfl ?_
  refine pw_iconst dX8_isCustomer_6 (v := 3) (by decide) ?_
  refine pw_iaload dX8_isCustomer_7 sh_254 (vpin (n := 3) (N := 1032) (by decide) (by decide)) ?_
  refine pw_iconst dX8_isCustomer_8 (v := 1) (by decide) ?_
  refine pw_isub dX8_isCustomer_9 ?_
  refine pw_cS dX8_isCustomer_10 (sp_X8_isIn) mi_X8_isIn ms_X8_isIn ml_X8_55 rfl rfl ⟨rfl, rfl⟩ rfl rfl ?_
  exact pw_iretF dX8_isCustomer_13 rfl (nar_b _) rfl rfl rfl

set_option maxRecDepth 100000 in
set_option maxHeartbeats 4000000 in
theorem sp_X8_thrown {l : Launch} {G : GC} {ad : Nat → Nat} {h : HP} : PF l G yX8_thrown (.code yX8_thrown cX8_thrown 1 ((Option.some FieldType.int))) { frames := 0, cells := 0, slots := 0, locals := 0 } [.ref (ad 253)] SW ad (h) (some (.int (h 253 5))) (h) := by
  refine PF.mk (L0 := [some (.ref (ad 253))]) RX8 "thrown" 0 0 (by decide +kernel) rfl rfl ⟨rfl, rfl⟩ (by simp [Value.category]) (Nat.le_of_ble_eq_true rfl) rfl ?_
  refine pw_aload_n dX8_thrown_0 rfl ?_
  refine pw_geti dX8_thrown_1 lf_X8_42 sh_253 rfl ?_
  exact pw_iretF dX8_thrown_4 rfl rfl rfl rfl rfl

set_option maxRecDepth 100000 in
set_option maxHeartbeats 4000000 in
theorem sp_X8_fail {l : Launch} {G : GC} {ad : Nat → Nat} {h : HP} {w : Int32} : PF l G yX8_fail (.code yX8_fail cX8_fail 2 ((Option.some FieldType.int))) { frames := 0, cells := 0, slots := 0, locals := 0 } [.ref (ad 253), .int (w)] SW ad (h) (some (.int 0)) (faH h w) := by
  refine PF.mk (L0 := [some (.ref (ad 253)), some (.int (w))]) RX8 "fail" 0 0 (by decide +kernel) rfl rfl ⟨rfl, rfl⟩ (by simp [Value.category]) (Nat.le_of_ble_eq_true rfl) rfl ?_
  refine pw_aload_n dX8_fail_0 rfl ?_
  refine pw_iload_n dX8_fail_1 rfl ?_
  refine pw_puti dX8_fail_2 lf_X8_42 lp_8_5 sh_253 rfl rfl rfl ?_
  refine pw_iconst dX8_fail_5 (v := 0) (by decide) ?_
  exact pw_iretF dX8_fail_6 rfl rfl rfl rfl rfl

set_option maxRecDepth 100000 in
set_option maxHeartbeats 4000000 in
theorem sp_X8_refuse {l : Launch} {G : GC} {ad : Nat → Nat} {h : HP} {w y : Int32} : PF l G yX8_refuse (.code yX8_refuse cX8_refuse 3 ((Option.some FieldType.int))) { frames := 1, cells := 0, slots := 0, locals := 21 } [.ref (ad 253), .int (w), .int (y)] SW ad (h) (some (.int 0)) (faH (hput h 253 6 y) w) := by
  refine PF.mk (L0 := [some (.ref (ad 253)), some (.int (w)), some (.int (y))]) RX8 "refuse" 0 0 (by decide +kernel) rfl rfl ⟨rfl, rfl⟩ (by simp [Value.category]) (Nat.le_of_ble_eq_true rfl) rfl ?_
  refine pw_aload_n dX8_refuse_0 rfl ?_
  refine pw_iload_n dX8_refuse_1 rfl ?_
  refine pw_puti dX8_refuse_2 lf_X8_45 lp_8_6 sh_253 rfl rfl rfl ?_
  refine pw_aload_n dX8_refuse_5 rfl ?_
  refine pw_iload_n dX8_refuse_6 rfl ?_
  refine pw_cV dX8_refuse_7 (sp_X8_fail) mi_X8_fail mv_X8_fail ml_X8_48 sh_253 rfl rfl rfl rfl ⟨rfl, rfl⟩ rfl rfl ?_
  exact pw_iretF dX8_refuse_10 rfl rfl rfl rfl rfl

set_option maxRecDepth 100000 in
set_option maxHeartbeats 4000000 in
theorem sp_X8_mostOf {l : Launch} {G : GC} {ad : Nat → Nat} {S : List Sh} {h : HP} {w : Int32} : PF l G yX8_mostOf (.code yX8_mostOf cX8_mostOf 1 ((Option.some FieldType.int))) { frames := 0, cells := 0, slots := 0, locals := 0 } [.int (w)] S ad (h) (some (.int (mostI w))) (h) := by
  refine PF.mk (L0 := [some (.int (w))]) RX8 "mostOf" 0 0 (by decide +kernel) rfl rfl ⟨rfl, rfl⟩ (by simp [Value.category]) (Nat.le_of_ble_eq_true rfl) rfl ?_
  refine pw_iload_n dX8_mostOf_0 rfl ?_
  refine pw_if_ne dX8_mostOf_1 (tgt := 9) (by decide) (fun c1 => ?_) (fun c1 => ?_)
  · skip
    refine pw_iload_n dX8_mostOf_9 rfl ?_
    refine pw_iconst dX8_mostOf_10 (v := 1) (by decide) ?_
    refine pw_icmp_ne dX8_mostOf_11 (tgt := 18) (by decide) (fun c11 => ?_) (fun c11 => ?_)
    · skip
      refine pw_iconst dX8_mostOf_18 (v := 3) (by decide) ?_
      exact pw_iretF dX8_mostOf_19 rfl rfl rfl (by rw [mostI, if_neg c1, if_neg c11]) rfl
    · skip
      refine pw_iconst dX8_mostOf_14 (v := 4) (by decide) ?_
      refine pw_goto dX8_mostOf_15 (tgt := 19) (by decide) ?_
      exact pw_iretF dX8_mostOf_19 rfl rfl rfl (by rw [mostI, if_neg c1, if_pos c11]) rfl
  · skip
    refine pw_bipush dX8_mostOf_4 (v := 99) (by decide) ?_
    refine pw_goto dX8_mostOf_6 (tgt := 19) (by decide) ?_
    exact pw_iretF dX8_mostOf_19 rfl rfl rfl (by rw [mostI, if_pos c1]) rfl

set_option maxRecDepth 100000 in
set_option maxHeartbeats 4000000 in
theorem sp_X8_lesser {l : Launch} {G : GC} {ad : Nat → Nat} {S : List Sh} {h : HP} {x y : Int32} : PF l G yX8_lesser (.code yX8_lesser cX8_lesser 2 ((Option.some FieldType.int))) { frames := 0, cells := 0, slots := 0, locals := 0 } [.int (x), .int (y)] S ad (h) (some (.int (if x < y then x else y))) (h) := by
  refine PF.mk (L0 := [some (.int (x)), some (.int (y))]) RX8 "lesser" 0 0 (by decide +kernel) rfl rfl ⟨rfl, rfl⟩ (by simp [Value.category]) (Nat.le_of_ble_eq_true rfl) rfl ?_
  refine pw_iload_n dX8_lesser_0 rfl ?_
  refine pw_iload_n dX8_lesser_1 rfl ?_
  refine pw_icmp_ge dX8_lesser_2 (tgt := 9) (by decide) (fun c2 => ?_) (fun c2 => ?_)
  · skip
    refine pw_iload_n dX8_lesser_9 rfl ?_
    exact pw_iretF dX8_lesser_10 rfl rfl rfl (by rw [if_neg (Int32.not_lt.mpr c2)]) rfl
  · skip
    refine pw_iload_n dX8_lesser_5 rfl ?_
    refine pw_goto dX8_lesser_6 (tgt := 10) (by decide) ?_
    exact pw_iretF dX8_lesser_10 rfl rfl rfl (by rw [if_pos (Int32.not_le.mp c2)]) rfl

set_option maxRecDepth 100000 in
set_option maxHeartbeats 4000000 in
theorem sp_X8_portionOf {l : Launch} {G : GC} {ad : Nat → Nat} {h : HP} {c : Nat} (hc : c < 8) : PF l G yX8_portionOf (.code yX8_portionOf cX8_portionOf 2 ((Option.some FieldType.int))) { frames := 0, cells := 0, slots := 0, locals := 0 } [.ref (ad 253), .int (nI c)] SW ad (h) (some (.int (portI h c))) (h) := by
  refine PF.mk (L0 := [some (.ref (ad 253)), some (.int (nI c))]) RX8 "portionOf" 0 0 (by decide +kernel) rfl rfl ⟨rfl, rfl⟩ (by simp [Value.category]) (Nat.le_of_ble_eq_true rfl) rfl ?_
  refine pw_aload_n dX8_portionOf_0 rfl ?_
  refine pw_getr dX8_portionOf_1 lf_X8_9 sh_253 rfl ?_
  refine pw_sipush dX8_portionOf_4 (v := 768) (by decide) ?_
  refine pw_iload_n dX8_portionOf_7 rfl ?_
  refine pw_iadd dX8_portionOf_8 ?_
  rw [show (768 : Int32) + nI c = nI (768 + c) from nI_add 768 c]
  refine pw_iaload dX8_portionOf_9 sh_254 (vpin (N := 1032) (by omega) (by decide)) ?_
  rw [nI_cl (by omega)]
  refine pw_if_ne dX8_portionOf_10 (tgt := 18) (by decide) (fun c10 => ?_) (fun c10 => ?_)
  · skip
    refine pw_aload_n dX8_portionOf_18 rfl ?_
    refine pw_getr dX8_portionOf_19 lf_X8_9 sh_253 rfl ?_
    refine pw_sipush dX8_portionOf_22 (v := 768) (by decide) ?_
    refine pw_iload_n dX8_portionOf_25 rfl ?_
    refine pw_iadd dX8_portionOf_26 ?_
    rw [show (768 : Int32) + nI c = nI (768 + c) from nI_add 768 c]
    refine pw_iaload dX8_portionOf_27 sh_254 (vpin (N := 1032) (by omega) (by decide)) ?_
    rw [nI_cl (by omega)]
    refine pw_iconst dX8_portionOf_28 (v := 1) (by decide) ?_
    refine pw_icmp_ne dX8_portionOf_29 (tgt := 37) (by decide) (fun c29 => ?_) (fun c29 => ?_)
    · skip
      refine pw_iconst dX8_portionOf_37 (v := 3) (by decide) ?_
      exact pw_iretF dX8_portionOf_38 rfl rfl rfl (by rw [portI, if_neg c10, if_neg c29]) rfl
    · skip
      refine pw_bipush dX8_portionOf_32 (v := 6) (by decide) ?_
      refine pw_goto dX8_portionOf_34 (tgt := 38) (by decide) ?_
      exact pw_iretF dX8_portionOf_38 rfl rfl rfl (by rw [portI, if_neg c10, if_pos c29]) rfl
  · skip
    refine pw_bipush dX8_portionOf_13 (v := 12) (by decide) ?_
    refine pw_goto dX8_portionOf_15 (tgt := 38) (by decide) ?_
    exact pw_iretF dX8_portionOf_38 rfl rfl rfl (by rw [portI, if_pos c10]) rfl

set_option maxRecDepth 100000 in
set_option maxHeartbeats 4000000 in
theorem sp_X8_isListed {l : Launch} {G : GC} {ad : Nat → Nat} {h : HP} {c b : Nat} (hc : c < 8) (hb : b < 16) : PF l G yX8_isListed (.code yX8_isListed cX8_isListed 3 ((Option.some FieldType.boolean))) { frames := 1, cells := 0, slots := 0, locals := 22 } [.ref (ad 253), .int (nI c), .int (nI b)] SW ad (h) (some (.int (b2i (decide (mHd h c b < mWi h c b))))) (h) := by
  refine PF.mk (L0 := [some (.ref (ad 253)), some (.int (nI c)), some (.int (nI b))]) RX8 "isListed" 0 0 (by decide +kernel) rfl rfl ⟨rfl, rfl⟩ (by simp [Value.category]) (Nat.le_of_ble_eq_true rfl) rfl ?_
  refine pw_aload_n dX8_isListed_0 rfl ?_
  refine pw_iload_n dX8_isListed_1 rfl ?_
  refine pw_iload_n dX8_isListed_2 rfl ?_
  refine pw_cV dX8_isListed_3 (sp_X8_held (by omega)) mi_X8_held mv_X8_held ml_X8_181 sh_253 rfl rfl rfl rfl ⟨rfl, rfl⟩ rfl rfl ?_
  refine pw_aload_n dX8_isListed_6 rfl ?_
  refine pw_iload_n dX8_isListed_7 rfl ?_
  refine pw_iload_n dX8_isListed_8 rfl ?_
  refine pw_cV dX8_isListed_9 (sp_X8_wished (by omega)) mi_X8_wished mv_X8_wished ml_X8_184 sh_253 rfl rfl rfl rfl ⟨rfl, rfl⟩ rfl rfl ?_
  refine pw_icmp_ge dX8_isListed_12 (tgt := 19) (by decide) (fun c12 => ?_) (fun c12 => ?_)
  · skip
    refine pw_iconst dX8_isListed_19 (v := 0) (by decide) ?_
    exact pw_iretF dX8_isListed_20 rfl rfl rfl (by rw [decide_eq_false (Int32.not_lt.mpr c12)]; rfl) rfl
  · skip
    refine pw_iconst dX8_isListed_15 (v := 1) (by decide) ?_
    refine pw_goto dX8_isListed_16 (tgt := 20) (by decide) ?_
    exact pw_iretF dX8_isListed_20 rfl rfl rfl (by rw [decide_eq_true (Int32.not_le.mp c12)]; rfl) rfl

