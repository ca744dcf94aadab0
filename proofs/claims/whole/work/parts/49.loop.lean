/-! THE LAW'S LOOP -/
set_option maxRecDepth 100000 in
set_option maxHeartbeats 4000000 in
theorem law_loop {l : Launch} {G : GC} {ad : Nat → Nat} {hh : List (Nat × Nat × Nat × Nat)} {b L9 : Nat} {xs : Nat → Int32} {INV : HP → Prop} (hL : L9 ≤ 3584) (j_harvest : J_harvest l G ad INV) (j_blend : J_blend l G ad INV) (j_spill : J_spill l G ad INV) (j_lot : J_lot l G ad INV) (j_part : J_part l G ad INV) (j_share : J_share l G ad INV) (j_greatest : J_greatest l G ad INV) (j_meanVintage : J_meanVintage l G ad INV) (j_setLaw : J_setLaw l G ad INV) (j_bottle : J_bottle l G ad INV) (j_forbids : J_forbids l G ad INV) (j_bottling : J_bottling l G ad INV) (j_reason : J_reason l G ad INV) (j_addCustomer : J_addCustomer l G ad INV) (j_wish : J_wish l G ad INV) (j_serve : J_serve l G ad INV) (j_giveBack : J_giveBack l G ad INV) (j_holds : J_holds l G ad INV) (j_listed : J_listed l G ad INV) (j_recalled : J_recalled l G ad INV) (j_recalledAgain : J_recalledAgain l G ad INV) (j_bottlesOf : J_bottlesOf l G ad INV) (j_ways : J_ways l G ad INV) (j_account : J_account l G ad INV) (j_feed : J_feed l G ad INV) (j_errorPosition : J_errorPosition l G ad INV) (j_undo : J_undo l G ad INV) (j_save : J_save l G ad INV) (j_restore : J_restore l G ad INV) : ∀ (mu9 : Nat) (j : Nat) (h : HP) (u6 u7 u8 : Option Value) (hI : INV h) (hj : 7 * j ≤ L9) (hmu : L9 - 7 * j < mu9), PW l G cL_law RL 9 ret hh room_1 (lwCX b L9 xs) lwE 28 [some (.ref b), some (.ref (ad 0)), some (.ref (ad 253)), some (.ref (ad 263)), some (.ref (ad 264)), some (.int (nI (7 * j))), u6, u7, u8] [] SW ad h (300 + 8 * j) (30000 + 48 * j) := by
  intro mu9
  induction mu9 with
  | zero => intro j h u6 u7 u8 hI hj hmu; exact absurd hmu (Nat.not_lt_zero _)
  | succ mu9 ih =>
    intro j h u6 u7 u8 hI hj hmu
    refine pw_iload dL_law_28 rfl ?_
    refine pw_aload_n dL_law_30 rfl ?_
    refine pw_slen dL_law_31 rfl ?_
    refine pw_bipush dL_law_32 (v := 7) (by decide) ?_
    refine pw_isub dL_law_34 ?_
    refine pw_icmp_gt dL_law_35 (tgt := 2088) (by decide) (fun _ => ?_) (fun c35 => ?_)
    · skip
      refine pw_iconst dL_law_2088 (v := 1) (by decide) ?_
      exact pw_lawret dL_law_2089 (by omega) (by omega)
    · skip
      have hj7 : 7 * j + 7 ≤ L9 := le7 hL hj c35
      refine pw_aload_n dL_law_38 rfl ?_
      refine pw_iload dL_law_39 rfl ?_
      refine pw_sld dL_law_41 rfl (vpin (N := L9) (by omega) (by omega)) ?_
      refine pw_bipush dL_law_42 (v := 31) (by decide) ?_
      refine pw_iand dL_law_44 ?_
      obtain ⟨n, hn, hv⟩ := and31 (xs (nI (7 * j)).toNatClampNeg)
      rw [hv]
      have K : ∀ (h2 : HP) (w6 w7 w8 : Option Value), INV h2 → PW l G cL_law RL 9 ret hh room_1 (lwCX b L9 xs) lwE 28 [some (.ref b), some (.ref (ad 0)), some (.ref (ad 253)), some (.ref (ad 263)), some (.ref (ad 264)), some (.int (nI (7 * (j + 1)))), w6, w7, w8] [] SW ad h2 (300 + 8 * (j + 1)) (30000 + 48 * (j + 1)) := fun h2 w6 w7 w8 hI2 => ih (j + 1) h2 w6 w7 w8 hI2 (by omega) (by omega)
      clear ih hv
      match n, hn with
      | 0, _ => exact pw_tabIn dL_law_45 (x := nI 0) (by decide) (by decide) (off := 131) rfl (tgt := 176) (by decide) (lc_harvest (S9 := 0) hj7 hL hI j_harvest K)
      | 1, _ => exact pw_tabIn dL_law_45 (x := nI 1) (by decide) (by decide) (off := 223) rfl (tgt := 268) (by decide) (lc_blend (S9 := 0) hj7 hL hI j_blend K)
      | 2, _ => exact pw_tabIn dL_law_45 (x := nI 2) (by decide) (by decide) (off := 267) rfl (tgt := 312) (by decide) (lc_spill (S9 := 0) hj7 hL hI j_spill K)
      | 3, _ => exact pw_tabIn dL_law_45 (x := nI 3) (by decide) (by decide) (off := 335) rfl (tgt := 380) (by decide) (lc_lot (S9 := 0) hj7 hL hI j_lot K)
      | 4, _ => exact pw_tabIn dL_law_45 (x := nI 4) (by decide) (by decide) (off := 403) rfl (tgt := 448) (by decide) (lc_part (S9 := 0) hj7 hL hI j_part K)
      | 5, _ => exact pw_tabIn dL_law_45 (x := nI 5) (by decide) (by decide) (off := 483) rfl (tgt := 528) (by decide) (lc_share (S9 := 0) hj7 hL hI j_share K)
      | 6, _ => exact pw_tabIn dL_law_45 (x := nI 6) (by decide) (by decide) (off := 563) rfl (tgt := 608) (by decide) (lc_greatest (S9 := 0) hj7 hL hI j_greatest K)
      | 7, _ => exact pw_tabIn dL_law_45 (x := nI 7) (by decide) (by decide) (off := 631) rfl (tgt := 676) (by decide) (lc_meanVintage (S9 := 0) hj7 hL hI j_meanVintage K)
      | 8, _ => exact pw_tabIn dL_law_45 (x := nI 8) (by decide) (by decide) (off := 708) rfl (tgt := 753) (by decide) (lc_setLaw (S9 := 0) hj7 hL hI j_setLaw K)
      | 9, _ => exact pw_tabIn dL_law_45 (x := nI 9) (by decide) (by decide) (off := 776) rfl (tgt := 821) (by decide) (lc_bottle (S9 := 0) hj7 hL hI j_bottle K)
      | 10, _ => exact pw_tabIn dL_law_45 (x := nI 10) (by decide) (by decide) (off := 894) rfl (tgt := 939) (by decide) (lc_forbids (S9 := 0) hj7 hL hI j_forbids K)
      | 11, _ => exact pw_tabIn dL_law_45 (x := nI 11) (by decide) (by decide) (off := 998) rfl (tgt := 1043) (by decide) (lc_bottling (S9 := 0) hj7 hL hI j_bottling K)
      | 12, _ => exact pw_tabIn dL_law_45 (x := nI 12) (by decide) (by decide) (off := 1066) rfl (tgt := 1111) (by decide) (lc_reason (S9 := 0) hj7 hL hI j_reason K)
      | 13, _ => exact pw_tabIn dL_law_45 (x := nI 13) (by decide) (by decide) (off := 1110) rfl (tgt := 1155) (by decide) (lc_addCustomer (S9 := 0) hj7 hL hI j_addCustomer K)
      | 14, _ => exact pw_tabIn dL_law_45 (x := nI 14) (by decide) (by decide) (off := 1166) rfl (tgt := 1211) (by decide) (lc_wish (S9 := 0) hj7 hL hI j_wish K)
      | 15, _ => exact pw_tabIn dL_law_45 (x := nI 15) (by decide) (by decide) (off := 1246) rfl (tgt := 1291) (by decide) (lc_serve (S9 := 0) hj7 hL hI j_serve K)
      | 16, _ => exact pw_tabIn dL_law_45 (x := nI 16) (by decide) (by decide) (off := 1302) rfl (tgt := 1347) (by decide) (lc_giveBack (S9 := 0) hj7 hL hI j_giveBack K)
      | 17, _ => exact pw_tabIn dL_law_45 (x := nI 17) (by decide) (by decide) (off := 1382) rfl (tgt := 1427) (by decide) (lc_holds (S9 := 0) hj7 hL hI j_holds K)
      | 18, _ => exact pw_tabIn dL_law_45 (x := nI 18) (by decide) (by decide) (off := 1462) rfl (tgt := 1507) (by decide) (lc_listed (S9 := 0) hj7 hL hI j_listed K)
      | 19, _ => exact pw_tabIn dL_law_45 (x := nI 19) (by decide) (by decide) (off := 1530) rfl (tgt := 1575) (by decide) (lc_recalled (S9 := 0) hj7 hL hI j_recalled K)
      | 20, _ => exact pw_tabIn dL_law_45 (x := nI 20) (by decide) (by decide) (off := 1586) rfl (tgt := 1631) (by decide) (lc_recalledAgain (S9 := 0) hj7 hL hI j_recalledAgain K)
      | 21, _ => exact pw_tabIn dL_law_45 (x := nI 21) (by decide) (by decide) (off := 1642) rfl (tgt := 1687) (by decide) (lc_bottlesOf (S9 := 0) hj7 hL hI j_bottlesOf K)
      | 22, _ => exact pw_tabIn dL_law_45 (x := nI 22) (by decide) (by decide) (off := 1710) rfl (tgt := 1755) (by decide) (lc_ways (S9 := 0) hj7 hL hI j_ways K)
      | 23, _ => exact pw_tabIn dL_law_45 (x := nI 23) (by decide) (by decide) (off := 1778) rfl (tgt := 1823) (by decide) (lc_account (S9 := 0) hj7 hL hI j_account K)
      | 24, _ => exact pw_tabIn dL_law_45 (x := nI 24) (by decide) (by decide) (off := 1834) rfl (tgt := 1879) (by decide) (lc_feed (S9 := 0) hj7 hL hI j_feed K)
      | 25, _ => exact pw_tabIn dL_law_45 (x := nI 25) (by decide) (by decide) (off := 1892) rfl (tgt := 1937) (by decide) (lc_errorPosition (S9 := 0) hj7 hL hI j_errorPosition K)
      | 26, _ => exact pw_tabIn dL_law_45 (x := nI 26) (by decide) (by decide) (off := 1936) rfl (tgt := 1981) (by decide) (lc_undo (S9 := 0) hj7 hL hI j_undo K)
      | 27, _ => exact pw_tabIn dL_law_45 (x := nI 27) (by decide) (by decide) (off := 1980) rfl (tgt := 2025) (by decide) (lc_save (S9 := 0) hj7 hL hI j_save K)
      | 28, _ => exact pw_tabIn dL_law_45 (x := nI 28) (by decide) (by decide) (off := 1993) rfl (tgt := 2038) (by decide) (lc_restore (S9 := 0) hj7 hL hI j_restore K)
      | 29, _ =>
        refine pw_tabOut dL_law_45 (x := nI 29) (by decide) (tgt := 2082) (by decide) ?_
        refine pw_iinc dL_law_2082 rfl (d := 7) (by decide) (by decide) rfl ?_
        refine pw_goto dL_law_2085 (tgt := 28) (by decide) ?_
        rw [show nI (7 * j) + 7 = nI (7 * (j + 1)) from nI_add _ 7]
        exact PW.widen (by omega) (by omega) (K h _ _ _ hI)
      | 30, _ =>
        refine pw_tabOut dL_law_45 (x := nI 30) (by decide) (tgt := 2082) (by decide) ?_
        refine pw_iinc dL_law_2082 rfl (d := 7) (by decide) (by decide) rfl ?_
        refine pw_goto dL_law_2085 (tgt := 28) (by decide) ?_
        rw [show nI (7 * j) + 7 = nI (7 * (j + 1)) from nI_add _ 7]
        exact PW.widen (by omega) (by omega) (K h _ _ _ hI)
      | 31, _ =>
        refine pw_tabOut dL_law_45 (x := nI 31) (by decide) (tgt := 2082) (by decide) ?_
        refine pw_iinc dL_law_2082 rfl (d := 7) (by decide) (by decide) rfl ?_
        refine pw_goto dL_law_2085 (tgt := 28) (by decide) ?_
        rw [show nI (7 * j) + 7 = nI (7 * (j + 1)) from nI_add _ 7]
        exact PW.widen (by omega) (by omega) (K h _ _ _ hI)
      | n + 32, q => exact absurd q (by omega)
