/-! THE BOOK'S CALLS, part 3 -/
theorem tq_247' : isTab SW 247 248 1 8 := tq_247
def hoB (h : HP) (kd ln : Nat → Nat) (b nC : Nat) : HP × Int32 := hoR kd ln b (h 15 (b * 7 + 2)) (lnK h b nC 3).2 3333 ((lnK h b nC 3).1, 0)
def serH (h : HP) (kd ln : Nat → Nat) (b nC : Nat) : HP := hput (hoB h kd ln b nC).1 15 (b * 7 + 2) ((hoB h kd ln b nC).1 15 (b * 7 + 2) + (-(hoB h kd ln b nC).2))
set_option maxRecDepth 100000 in
set_option maxHeartbeats 4000000 in
theorem sp_X7_listed_no1 {l : Launch} {G : GC} {ad : Nat → Nat} (hfl : l.stackTraces = false) {h : HP} {n m : Int32} (e : wiB n 0 (h 13 1 - 1) = false) : PT l G yX7_listed (.code yX7_listed cX7_listed 4 ((Option.some FieldType.int))) { frames := 7, cells := 2, slots := 12, locals := 111 } [.ref (ad 0), .int (n), .int (m)] SW ad (h) (.inr "java/lang/IndexOutOfBoundsException") (h) := by
  refine PT.mk (L0 := [some (.ref (ad 0)), some (.int (n)), some (.int (m)), none]) RX7 "listed" 2 12 (by decide +kernel) rfl rfl ⟨rfl, rfl⟩ (by simp [Value.category]) (Nat.le_of_ble_eq_true rfl) rfl ?_
  refine pw_iload_n dX7_listed_0 rfl ?_
  refine pw_aload_n dX7_listed_1 rfl ?_
  refine pw_getr dX7_listed_2 lf_X7_10 sh_0 rfl ?_
  refine pw_getr dX7_listed_5 lf_X7_213 sh_1 rfl ?_
  refine pw_geti dX7_listed_8 lf_X7_230 sh_13 rfl ?_
  refine pw_flS dX7_listed_11 (sp_X7_requirePlace_no hfl e) mi_X7_requirePlace ms_X7_requirePlace ml_X7_196 rfl rfl rfl rfl ?_
  exact px_outT rfl rfl rfl rfl

set_option maxRecDepth 100000 in
set_option maxHeartbeats 4000000 in
theorem sp_X7_listed_no2 {l : Launch} {G : GC} {ad : Nat → Nat} (hfl : l.stackTraces = false) {h : HP} {nL nH nB nC : Nat} {np : Nat → Nat} {pl : Nat → Nat → Nat} (hw : WF h nL nH nB nC np pl) {b : Nat} (hb : b < nB) {m : Int32} (e : wiB m 0 (nI (lnK h b nC 3).2 - 1) = false) : PT l G yX7_listed (.code yX7_listed cX7_listed 4 ((Option.some FieldType.int))) { frames := 7, cells := 2, slots := 12, locals := 111 } [.ref (ad 0), .int (nI b), .int (m)] SW ad (h) (.inr "java/util/NoSuchElementException") ((lnK h b nC 3).1) := by
  refine PT.mk (L0 := [some (.ref (ad 0)), some (.int (nI b)), some (.int (m)), none]) RX7 "listed" 2 12 (by decide +kernel) rfl rfl ⟨rfl, rfl⟩ (by simp [Value.category]) (Nat.le_of_ble_eq_true rfl) rfl ?_
  have hb3 := hw.2.2.1.2
  have hb4 := hw.2.2.2.1.2
  have hb16 : b < 16 := by omega
  refine pw_iload_n dX7_listed_0 rfl ?_
  refine pw_aload_n dX7_listed_1 rfl ?_
  refine pw_getr dX7_listed_2 lf_X7_10 sh_0 rfl ?_
  refine pw_getr dX7_listed_5 lf_X7_213 sh_1 rfl ?_
  refine pw_geti dX7_listed_8 lf_X7_230 sh_13 rfl ?_
  refine pw_okS dX7_listed_11 (sp_X7_requirePlace_ok hfl (wi_ok hw.2.2.1.1 hb (by have := hw.2.2.1.2; omega))) mi_X7_requirePlace ms_X7_requirePlace ml_X7_196 rfl rfl rfl rfl ?_
  refine pw_aload_n dX7_listed_14 rfl ?_
  refine pw_getr dX7_listed_15 lf_X7_10 sh_0 rfl ?_
  refine pw_getr dX7_listed_18 lf_X7_231 sh_1 rfl ?_
  refine pw_iload_n dX7_listed_21 rfl ?_
  refine pw_aload_n dX7_listed_22 rfl ?_
  refine pw_getr dX7_listed_23 lf_X7_38 sh_0 rfl ?_
  refine pw_cV dX7_listed_26 (sp_X1_lineUp hw.2.2.2.1.1 hb4 hb16) mi_X1_lineUp mv_X1_lineUp ml_X7_235 sh_16 rfl rfl rfl rfl ⟨rfl, rfl⟩ rfl rfl ?_
  refine pw_istore_n dX7_listed_29 (by decide) rfl ?_
  refine pw_iload_n dX7_listed_30 rfl ?_
  refine pw_iconst dX7_listed_31 (v := 0) (by decide) ?_
  refine pw_iload_n dX7_listed_32 rfl ?_
  refine pw_iconst dX7_listed_33 (v := 1) (by decide) ?_
  refine pw_isub dX7_listed_34 ?_
  refine pw_cS dX7_listed_35 (sp_X7_isWithin) mi_X7_isWithin ms_X7_isWithin ml_X7_161 rfl rfl ⟨rfl, rfl⟩ rfl rfl ?_
  refine pw_if_ne dX7_listed_38 (tgt := 51) (by decide) (fun c38 => absurd c38 (by rw [show (decide (0 ≤ m) && decide (m ≤ nI (lnK h b nC 3).2 - 1)) = false from e]; decide)) (fun c38 => ?_)
  exact pw_throwN hfl tw_165_183_169 dX7_listed_41 dX7_listed_44 dX7_listed_45 dX7_listed_47 dX7_listed_50 rfl ⟨Nat.le_of_ble_eq_true rfl, Nat.le_of_ble_eq_true rfl, Nat.le_of_ble_eq_true rfl, Nat.le_of_ble_eq_true rfl⟩ (⟨rfl, rfl⟩) (Nat.le_of_ble_eq_true rfl) (Nat.le_of_ble_eq_true rfl)

set_option maxRecDepth 100000 in
set_option maxHeartbeats 4000000 in
theorem sp_X7_listed_ok {l : Launch} {G : GC} {ad : Nat → Nat} (hfl : l.stackTraces = false) {h : HP} {nL nH nB nC : Nat} {np : Nat → Nat} {pl : Nat → Nat → Nat} (hw : WF h nL nH nB nC np pl) {b : Nat} (hb : b < nB) {t : Nat} (ht : t < (lnK h b nC 3).2) (hl8 : (lnK h b nC 3).2 ≤ 8)  : PT l G yX7_listed (.code yX7_listed cX7_listed 4 ((Option.some FieldType.int))) { frames := 7, cells := 2, slots := 12, locals := 111 } [.ref (ad 0), .int (nI b), .int (nI t)] SW ad (h) (.inl (some (.int ((lnK h b nC 3).1 248 (0 * 8 + t))))) ((lnK h b nC 3).1) := by
  refine PT.mk (L0 := [some (.ref (ad 0)), some (.int (nI b)), some (.int (nI t)), none]) RX7 "listed" 2 12 (by decide +kernel) rfl rfl ⟨rfl, rfl⟩ (by simp [Value.category]) (Nat.le_of_ble_eq_true rfl) rfl ?_
  have hb3 := hw.2.2.1.2
  have hb4 := hw.2.2.2.1.2
  have hb16 : b < 16 := by omega
  have e : wiB (nI t) 0 (nI (lnK h b nC 3).2 - 1) = true := wi_ok rfl ht (by omega)
  refine pw_iload_n dX7_listed_0 rfl ?_
  refine pw_aload_n dX7_listed_1 rfl ?_
  refine pw_getr dX7_listed_2 lf_X7_10 sh_0 rfl ?_
  refine pw_getr dX7_listed_5 lf_X7_213 sh_1 rfl ?_
  refine pw_geti dX7_listed_8 lf_X7_230 sh_13 rfl ?_
  refine pw_okS dX7_listed_11 (sp_X7_requirePlace_ok hfl (wi_ok hw.2.2.1.1 hb (by have := hw.2.2.1.2; omega))) mi_X7_requirePlace ms_X7_requirePlace ml_X7_196 rfl rfl rfl rfl ?_
  refine pw_aload_n dX7_listed_14 rfl ?_
  refine pw_getr dX7_listed_15 lf_X7_10 sh_0 rfl ?_
  refine pw_getr dX7_listed_18 lf_X7_231 sh_1 rfl ?_
  refine pw_iload_n dX7_listed_21 rfl ?_
  refine pw_aload_n dX7_listed_22 rfl ?_
  refine pw_getr dX7_listed_23 lf_X7_38 sh_0 rfl ?_
  refine pw_cV dX7_listed_26 (sp_X1_lineUp hw.2.2.2.1.1 hb4 hb16) mi_X1_lineUp mv_X1_lineUp ml_X7_235 sh_16 rfl rfl rfl rfl ⟨rfl, rfl⟩ rfl rfl ?_
  refine pw_istore_n dX7_listed_29 (by decide) rfl ?_
  refine pw_iload_n dX7_listed_30 rfl ?_
  refine pw_iconst dX7_listed_31 (v := 0) (by decide) ?_
  refine pw_iload_n dX7_listed_32 rfl ?_
  refine pw_iconst dX7_listed_33 (v := 1) (by decide) ?_
  refine pw_isub dX7_listed_34 ?_
  refine pw_cS dX7_listed_35 (sp_X7_isWithin) mi_X7_isWithin ms_X7_isWithin ml_X7_161 rfl rfl ⟨rfl, rfl⟩ rfl rfl ?_
  refine pw_if_ne dX7_listed_38 (tgt := 51) (by decide) (fun c38 => ?_) (fun c38 => absurd c38 (by rw [show (decide (0 ≤ nI t) && decide (nI t ≤ nI (lnK h b nC 3).2 - 1)) = true from e]; decide))
  refine pw_aload_n dX7_listed_51 rfl ?_
  refine pw_getr dX7_listed_52 lf_X7_38 sh_0 rfl ?_
  refine pw_iconst dX7_listed_55 (v := 0) (by decide) ?_
  refine pw_iload_n dX7_listed_56 rfl ?_
  refine pw_cV dX7_listed_57 (sp_X6_at tq_247 (r := 0) (k := t) rfl rfl (by decide) (by omega)) mi_X6_at mv_X6_at ml_X7_155 sh_247 rfl rfl rfl rfl ⟨rfl, rfl⟩ rfl rfl ?_
  exact pw_iretT dX7_listed_60 rfl rfl rfl rfl rfl

set_option maxRecDepth 100000 in
set_option maxHeartbeats 4000000 in
theorem sp_X7_serve_no1 {l : Launch} {G : GC} {ad : Nat → Nat} (hfl : l.stackTraces = false) {h : HP} {n : Int32} (e : wiB n 0 (h 13 1 - 1) = false) : PT l G yX7_serve (.code yX7_serve cX7_serve 4 ((Option.some FieldType.int))) { frames := 7, cells := 1, slots := 6, locals := 125 } [.ref (ad 0), .int (n)] SW ad (h) (.inr "java/lang/IndexOutOfBoundsException") (h) := by
  refine PT.mk (L0 := [some (.ref (ad 0)), some (.int (n)), none, none]) RX7 "serve" 1 6 (by decide +kernel) rfl rfl ⟨rfl, rfl⟩ (by simp [Value.category]) (Nat.le_of_ble_eq_true rfl) rfl ?_
  refine pw_iload_n dX7_serve_0 rfl ?_
  refine pw_aload_n dX7_serve_1 rfl ?_
  refine pw_getr dX7_serve_2 lf_X7_10 sh_0 rfl ?_
  refine pw_getr dX7_serve_5 lf_X7_213 sh_1 rfl ?_
  refine pw_geti dX7_serve_8 lf_X7_230 sh_13 rfl ?_
  refine pw_flS dX7_serve_11 (sp_X7_requirePlace_no hfl e) mi_X7_requirePlace ms_X7_requirePlace ml_X7_196 rfl rfl rfl rfl ?_
  exact px_outT rfl rfl rfl rfl

set_option maxRecDepth 100000 in
set_option maxHeartbeats 4000000 in
theorem sp_X7_serve_ok {l : Launch} {G : GC} {ad : Nat → Nat} (hfl : l.stackTraces = false) {h : HP} {nL nH nB nC : Nat} {np : Nat → Nat} {pl : Nat → Nat → Nat} (hw : WF h nL nH nB nC np pl) {b : Nat} (hb : b < nB) {k c : Nat} (hk : h 49 1 = nI k) (hk8 : k < 8) (hc : h 49 2 = nI c) (hc8 : c ≤ 8) {kd ln : Nat → Nat} (hkd : ∀ c, c < 8 → h 18 (c * 1 + 0) = nI (kd c) ∧ kd c < 3) (hln : ∀ k9, k9 < (lnK (remH h 1 k c) b nC 3).2 → (lnK (remH h 1 k c) b nC 3).1 248 (0 * 8 + k9) = nI (ln k9) ∧ ln k9 < 8) (hl8 : (lnK (remH h 1 k c) b nC 3).2 ≤ 8)  : PT l G yX7_serve (.code yX7_serve cX7_serve 4 ((Option.some FieldType.int))) { frames := 7, cells := 1, slots := 6, locals := 125 } [.ref (ad 0), .int (nI b)] SW ad (h) (.inl (some (.int ((hoB (remH h 1 k c) kd ln b nC).2)))) (serH (remH h 1 k c) kd ln b nC) := by
  refine PT.mk (L0 := [some (.ref (ad 0)), some (.int (nI b)), none, none]) RX7 "serve" 1 6 (by decide +kernel) rfl rfl ⟨rfl, rfl⟩ (by simp [Value.category]) (Nat.le_of_ble_eq_true rfl) rfl ?_
  have hb3 := hw.2.2.1.2
  have hb4 := hw.2.2.2.1.2
  have hb16 : b < 16 := by omega
  have hw1 : WF (remH h 1 k c) nL nH nB nC np pl := WF_o hw (fun a ha => remH_o h 1 k c hk8 (Or.inl ha))
  refine pw_iload_n dX7_serve_0 rfl ?_
  refine pw_aload_n dX7_serve_1 rfl ?_
  refine pw_getr dX7_serve_2 lf_X7_10 sh_0 rfl ?_
  refine pw_getr dX7_serve_5 lf_X7_213 sh_1 rfl ?_
  refine pw_geti dX7_serve_8 lf_X7_230 sh_13 rfl ?_
  refine pw_okS dX7_serve_11 (sp_X7_requirePlace_ok hfl (wi_ok hw.2.2.1.1 hb (by have := hw.2.2.1.2; omega))) mi_X7_requirePlace ms_X7_requirePlace ml_X7_196 rfl rfl rfl rfl ?_
  refine pw_aload_n dX7_serve_14 rfl ?_
  refine pw_getr dX7_serve_15 lf_X7_22 sh_0 rfl ?_
  refine pw_aload_n dX7_serve_18 rfl ?_
  refine pw_getr dX7_serve_19 lf_X7_10 sh_0 rfl ?_
  refine pw_cVn dX7_serve_22 (sp_X2_remember st_1 hk hk8 hc hc8) mi_X2_remember mv_X2_remember ml_X7_82 sh_49 rfl rfl rfl rfl ⟨rfl, rfl⟩ rfl rfl ?_
  refine pw_aload_n dX7_serve_25 rfl ?_
  refine pw_getr dX7_serve_26 lf_X7_10 sh_0 rfl ?_
  refine pw_getr dX7_serve_29 lf_X7_213 sh_1 rfl ?_
  refine pw_iload_n dX7_serve_32 rfl ?_
  refine pw_cV dX7_serve_33 (sp_X0_stockOf hb16) mi_X0_stockOf mv_X0_stockOf ml_X7_260 sh_13 rfl rfl rfl rfl ⟨rfl, rfl⟩ rfl rfl ?_
  refine pw_istore_n dX7_serve_36 (by decide) rfl ?_
  refine pw_aload_n dX7_serve_37 rfl ?_
  refine pw_getr dX7_serve_38 lf_X7_10 sh_0 rfl ?_
  refine pw_getr dX7_serve_41 lf_X7_231 sh_1 rfl ?_
  refine pw_iload_n dX7_serve_44 rfl ?_
  refine pw_iload_n dX7_serve_45 rfl ?_
  refine pw_aload_n dX7_serve_46 rfl ?_
  refine pw_getr dX7_serve_47 lf_X7_38 sh_0 rfl ?_
  refine pw_cV dX7_serve_50 (sp_X1_handOut (kd := kd) (ln := ln) hw1.2.2.2.1.1 hb4 hb16 (fun c9 h9 => by rw [remH_o h 1 k c hk8 (Or.inl (by decide))]; exact hkd c9 h9) hln hl8) mi_X1_handOut mv_X1_handOut ml_X7_263 sh_16 rfl rfl rfl rfl ⟨rfl, rfl⟩ rfl rfl ?_
  refine pw_istore_n dX7_serve_53 (by decide) rfl ?_
  refine pw_aload_n dX7_serve_54 rfl ?_
  refine pw_getr dX7_serve_55 lf_X7_10 sh_0 rfl ?_
  refine pw_getr dX7_serve_58 lf_X7_213 sh_1 rfl ?_
  refine pw_iload_n dX7_serve_61 rfl ?_
  refine pw_iload_n dX7_serve_62 rfl ?_
  refine pw_ineg dX7_serve_63 ?_
  refine pw_cVn dX7_serve_64 (sp_X0_addToStock hb16) mi_X0_addToStock mv_X0_addToStock ml_X7_267 sh_13 rfl rfl rfl rfl ⟨rfl, rfl⟩ rfl rfl ?_
  refine pw_iload_n dX7_serve_67 rfl ?_
  exact pw_iretT dX7_serve_68 rfl rfl rfl rfl rfl

set_option maxRecDepth 100000 in
set_option maxHeartbeats 4000000 in
theorem sp_X7_recalled_no1 {l : Launch} {G : GC} {ad : Nat → Nat} (hfl : l.stackTraces = false) {h : HP} {n : Int32} (e1 : wiB n 0 (h 2 5 - 1) = false) : PT l G yX7_recalled (.code yX7_recalled cX7_recalled 2 ((Option.some FieldType.int))) { frames := 8, cells := 1, slots := 6, locals := 135 } [.ref (ad 0), .int (n)] SW ad (h) (.inr "java/lang/IndexOutOfBoundsException") (h) := by
  refine PT.mk (L0 := [some (.ref (ad 0)), some (.int (n))]) RX7 "recalled" 1 6 (by decide +kernel) rfl rfl ⟨rfl, rfl⟩ (by simp [Value.category]) (Nat.le_of_ble_eq_true rfl) rfl ?_
  refine pw_aload_n dX7_recalled_0 rfl ?_
  refine pw_iload_n dX7_recalled_1 rfl ?_
  refine pw_flV dX7_recalled_2 (sp_X7_requireLot_no hfl e1) mi_X7_requireLot mv_X7_requireLot ml_X7_122 sh_0 rfl rfl rfl rfl rfl rfl ?_
  exact px_outT rfl rfl rfl rfl

set_option maxRecDepth 100000 in
set_option maxHeartbeats 4000000 in
theorem sp_X7_recalled_ok {l : Launch} {G : GC} {ad : Nat → Nat} (hfl : l.stackTraces = false) {h : HP} {nL nH nB nC : Nat} {np : Nat → Nat} {pl : Nat → Nat → Nat} (hw : WF h nL nH nB nC np pl) {lot : Nat} (hlot : lot < nL)  : PT l G yX7_recalled (.code yX7_recalled cX7_recalled 2 ((Option.some FieldType.int))) { frames := 8, cells := 1, slots := 6, locals := 135 } [.ref (ad 0), .int (nI lot)] SW ad (h) (.inl (some (.int (orI (fun b => ifOr ((fun b => inS (amF (blI np pl nL) (bit1 lot) lot (nL - lot)) (h 15 (b * 7 + 0))) b) (bit1 b)) nB)))) (h) := by
  refine PT.mk (L0 := [some (.ref (ad 0)), some (.int (nI lot))]) RX7 "recalled" 1 6 (by decide +kernel) rfl rfl ⟨rfl, rfl⟩ (by simp [Value.category]) (Nat.le_of_ble_eq_true rfl) rfl ?_
  have hb1 := hw.1.2
  have hlot24 : lot < 24 := by omega
  refine pw_aload_n dX7_recalled_0 rfl ?_
  refine pw_iload_n dX7_recalled_1 rfl ?_
  refine pw_okV dX7_recalled_2 (sp_X7_requireLot_ok hfl (wi_ok hw.1.1 hlot (by have := hw.1.2; omega))) mi_X7_requireLot mv_X7_requireLot ml_X7_122 sh_0 rfl rfl rfl rfl rfl rfl ?_
  refine pw_aload_n dX7_recalled_5 rfl ?_
  refine pw_getr dX7_recalled_6 lf_X7_10 sh_0 rfl ?_
  refine pw_getr dX7_recalled_9 lf_X7_213 sh_1 rfl ?_
  refine pw_aload_n dX7_recalled_12 rfl ?_
  refine pw_getr dX7_recalled_13 lf_X7_10 sh_0 rfl ?_
  refine pw_getr dX7_recalled_16 lf_X7_63 sh_1 rfl ?_
  refine pw_iload_n dX7_recalled_19 rfl ?_
  refine pw_cV dX7_recalled_20 (sp_X4_allMadeOf hw hlot) mi_X4_allMadeOf mv_X4_allMadeOf ml_X7_279 sh_2 rfl rfl rfl rfl ⟨rfl, rfl⟩ rfl rfl ?_
  refine pw_cV dX7_recalled_23 (sp_X0_ofLots hw.2.2.1.1 hw.2.2.1.2) mi_X0_ofLots mv_X0_ofLots ml_X7_282 sh_13 rfl rfl rfl rfl ⟨rfl, rfl⟩ rfl rfl ?_
  exact pw_iretT dX7_recalled_26 rfl rfl rfl rfl rfl

set_option maxRecDepth 100000 in
set_option maxHeartbeats 4000000 in
theorem sp_X7_recalledAgain_no1 {l : Launch} {G : GC} {ad : Nat → Nat} (hfl : l.stackTraces = false) {h : HP} {n : Int32} (e1 : wiB n 0 (h 2 5 - 1) = false) : PT l G yX7_recalledAgain (.code yX7_recalledAgain cX7_recalledAgain 5 ((Option.some FieldType.int))) { frames := 8, cells := 1, slots := 6, locals := 132 } [.ref (ad 0), .int (n)] SW ad (h) (.inr "java/lang/IndexOutOfBoundsException") (h) := by
  refine PT.mk (L0 := [some (.ref (ad 0)), some (.int (n)), none, none, none]) RX7 "recalledAgain" 1 6 (by decide +kernel) rfl rfl ⟨rfl, rfl⟩ (by simp [Value.category]) (Nat.le_of_ble_eq_true rfl) rfl ?_
  refine pw_aload_n dX7_recalledAgain_0 rfl ?_
  refine pw_iload_n dX7_recalledAgain_1 rfl ?_
  refine pw_flV dX7_recalledAgain_2 (sp_X7_requireLot_no hfl e1) mi_X7_requireLot mv_X7_requireLot ml_X7_122 sh_0 rfl rfl rfl rfl rfl rfl ?_
  exact px_outT rfl rfl rfl rfl

set_option maxRecDepth 100000 in
set_option maxHeartbeats 4000000 in
theorem lp_X7_recalledAgain {l : Launch} {G : GC} {ad : Nat → Nat} (hfl : l.stackTraces = false) {h : HP} {nL nH nB nC : Nat} {np : Nat → Nat} {pl : Nat → Nat → Nat} (hw : WF h nL nH nB nC np pl) {lot : Nat} (hlot : lot < nL) {lb : Nat → Nat} (hlb : ∀ b, b < nB → h 15 (b * 7 + 0) = nI (lb b) ∧ lb b < 24)  : ∀ (mu9 : Nat) (i : Nat) (x2 : Int32) (ls4 : Option Value) (hi : i ≤ nB) (hx2 : x2 = orI (fun b => ifOr ((fun b => inS (atF (psI np pl) (bit1 (lb b)) (lb b + 1)) (nI lot)) b) (bit1 b)) i) (hmu9 : nB - i < mu9), PW l G cX7_recalledAgain RX7 5 ((Option.some FieldType.int)) [] { frames := 8, cells := 1, slots := 6, locals := 132 } (gNm "recalledAgain") (gME G SW ad (gRX SW ad (.inl (some (.int (orI (fun b => ifOr ((fun b => inS (atF (psI np pl) (bit1 (lb b)) (lb b + 1)) (nI lot)) b) (bit1 b)) nB)))) (h)) (gXX (.inl (some (.int (orI (fun b => ifOr ((fun b => inS (atF (psI np pl) (bit1 (lb b)) (lb b + 1)) (nI lot)) b) (bit1 b)) nB)))) (h)) 1 6) 9 [some (.ref (ad 0)), some (.int (nI lot)), some (.int x2), some (.int (nI i)), ls4] [] SW ad (h) 1 6 := by
  intro mu9
  induction mu9 with
  | zero => intro i x2 ls4 hi hx2 hmu9; exact absurd hmu9 (Nat.not_lt_zero _)
  | succ mu9 ih =>
    intro i x2 ls4 hi hx2 hmu9
    refine pw_iload_n dX7_recalledAgain_9 rfl ?_
    refine pw_aload_n dX7_recalledAgain_10 rfl ?_
    refine pw_getr dX7_recalledAgain_11 lf_X7_10 sh_0 rfl ?_
    refine pw_getr dX7_recalledAgain_14 lf_X7_213 sh_1 rfl ?_
    refine pw_geti dX7_recalledAgain_17 lf_X7_230 sh_13 rfl ?_
    refine pw_icmp_ge dX7_recalledAgain_20 (tgt := 67) (by decide) (fun c20 => ?_) (fun c20 => ?_)
    · skip
      have hb3 := hw.2.2.1.2
      have hi8 : i = nB := eqN hw.2.2.1.1 hi (by omega) c20
      refine pw_iload_n dX7_recalledAgain_67 rfl ?_
      exact pw_iretT dX7_recalledAgain_68 rfl rfl rfl (by rw [hx2, hi8]) rfl
    · skip
      have hb3 := hw.2.2.1.2
      have hi9 : i < nB := ltN hw.2.2.1.1 hi (by omega) c20
      refine pw_aload_n dX7_recalledAgain_23 rfl ?_
      refine pw_getr dX7_recalledAgain_24 lf_X7_10 sh_0 rfl ?_
      refine pw_getr dX7_recalledAgain_27 lf_X7_63 sh_1 rfl ?_
      refine pw_aload_n dX7_recalledAgain_30 rfl ?_
      refine pw_getr dX7_recalledAgain_31 lf_X7_10 sh_0 rfl ?_
      refine pw_getr dX7_recalledAgain_34 lf_X7_213 sh_1 rfl ?_
      refine pw_iload_n dX7_recalledAgain_37 rfl ?_
      refine pw_cV dX7_recalledAgain_38 (sp_X0_lotOf (b := i) (by omega)) mi_X0_lotOf mv_X0_lotOf ml_X7_285 sh_13 rfl rfl rfl rfl ⟨rfl, rfl⟩ rfl rfl ?_
      rw [(hlb i hi9).1]
      refine pw_cV dX7_recalledAgain_41 (sp_X4_allThatMake hw (hlb i hi9).2) mi_X4_allThatMake mv_X4_allThatMake ml_X7_288 sh_2 rfl rfl rfl rfl ⟨rfl, rfl⟩ rfl rfl ?_
      refine pw_istore dX7_recalledAgain_44 (by decide) rfl ?_
      refine pw_iload dX7_recalledAgain_46 rfl ?_
      refine pw_iload_n dX7_recalledAgain_48 rfl ?_
      refine pw_cS dX7_recalledAgain_49 (sp_X7_isIn) mi_X7_isIn ms_X7_isIn ml_X7_291 rfl rfl ⟨rfl, rfl⟩ rfl rfl ?_
      refine pw_if_eq dX7_recalledAgain_52 (tgt := 61) (by decide) (fun c52 => ?_) (fun c52 => ?_)
      · skip
        refine pw_iinc dX7_recalledAgain_61 rfl (d := 1) (by decide) (by decide) rfl ?_
        rw [nI_1]
        refine pw_goto dX7_recalledAgain_64 (tgt := 9) (by decide) ?_
        refine ih (i + 1) _ _ (by omega) ?_ (by omega)
        exact or_n (p := (fun b => inS (atF (psI np pl) (bit1 (lb b)) (lb b + 1)) (nI lot))) (g := bit1) hx2 (b2i_eq c52)
      · skip
        refine pw_iload_n dX7_recalledAgain_55 rfl ?_
        refine pw_iconst dX7_recalledAgain_56 (v := 1) (by decide) ?_
        refine pw_iload_n dX7_recalledAgain_57 rfl ?_
        refine pw_ishl dX7_recalledAgain_58 ?_
        refine pw_ior dX7_recalledAgain_59 ?_
        refine pw_istore_n dX7_recalledAgain_60 (by decide) rfl ?_
        refine pw_iinc dX7_recalledAgain_61 rfl (d := 1) (by decide) (by decide) rfl ?_
        rw [nI_1]
        refine pw_goto dX7_recalledAgain_64 (tgt := 9) (by decide) ?_
        refine ih (i + 1) _ _ (by omega) ?_ (by omega)
        exact or_s (p := (fun b => inS (atF (psI np pl) (bit1 (lb b)) (lb b + 1)) (nI lot))) (g := bit1) hx2 (b2i_ne c52)

set_option maxRecDepth 100000 in
set_option maxHeartbeats 4000000 in
theorem sp_X7_recalledAgain_ok {l : Launch} {G : GC} {ad : Nat → Nat} (hfl : l.stackTraces = false) {h : HP} {nL nH nB nC : Nat} {np : Nat → Nat} {pl : Nat → Nat → Nat} (hw : WF h nL nH nB nC np pl) {lot : Nat} (hlot : lot < nL) {lb : Nat → Nat} (hlb : ∀ b, b < nB → h 15 (b * 7 + 0) = nI (lb b) ∧ lb b < 24) : PT l G yX7_recalledAgain (.code yX7_recalledAgain cX7_recalledAgain 5 ((Option.some FieldType.int))) { frames := 8, cells := 1, slots := 6, locals := 132 } [.ref (ad 0), .int (nI lot)] SW ad (h) (.inl (some (.int (orI (fun b => ifOr ((fun b => inS (atF (psI np pl) (bit1 (lb b)) (lb b + 1)) (nI lot)) b) (bit1 b)) nB)))) (h) := by
  refine PT.mk (L0 := [some (.ref (ad 0)), some (.int (nI lot)), none, none, none]) RX7 "recalledAgain" 1 6 (by decide +kernel) rfl rfl ⟨rfl, rfl⟩ (by simp [Value.category]) (Nat.le_of_ble_eq_true rfl) rfl ?_
  have hb1 := hw.1.2
  have hlot24 : lot < 24 := by omega
  refine pw_aload_n dX7_recalledAgain_0 rfl ?_
  refine pw_iload_n dX7_recalledAgain_1 rfl ?_
  refine pw_okV dX7_recalledAgain_2 (sp_X7_requireLot_ok hfl (wi_ok hw.1.1 hlot (by have := hw.1.2; omega))) mi_X7_requireLot mv_X7_requireLot ml_X7_122 sh_0 rfl rfl rfl rfl rfl rfl ?_
  refine pw_iconst dX7_recalledAgain_5 (v := 0) (by decide) ?_
  refine pw_istore_n dX7_recalledAgain_6 (by decide) rfl ?_
  refine pw_iconst dX7_recalledAgain_7 (v := 0) (by decide) ?_
  refine pw_istore_n dX7_recalledAgain_8 (by decide) rfl ?_
  exact lp_X7_recalledAgain hfl hw hlot hlb (nB + 1) 0 0 none (Nat.zero_le _) rfl (by omega)

set_option maxRecDepth 100000 in
set_option maxHeartbeats 4000000 in
theorem sp_X7_bottlesOf_no1 {l : Launch} {G : GC} {ad : Nat → Nat} (hfl : l.stackTraces = false) {h : HP} {m : Int32} {n : Int32} (e1 : wiB n 0 (h 2 5 - 1) = false) : PT l G yX7_bottlesOf (.code yX7_bottlesOf cX7_bottlesOf 4 ((Option.some FieldType.int))) { frames := 8, cells := 2, slots := 12, locals := 135 } [.ref (ad 0), .int (n), .int (m)] SW ad (h) (.inr "java/lang/IndexOutOfBoundsException") (h) := by
  refine PT.mk (L0 := [some (.ref (ad 0)), some (.int (n)), some (.int (m)), none]) RX7 "bottlesOf" 2 12 (by decide +kernel) rfl rfl ⟨rfl, rfl⟩ (by simp [Value.category]) (Nat.le_of_ble_eq_true rfl) rfl ?_
  refine pw_aload_n dX7_bottlesOf_0 rfl ?_
  refine pw_iload_n dX7_bottlesOf_1 rfl ?_
  refine pw_flV dX7_bottlesOf_2 (sp_X7_requireLot_no hfl e1) mi_X7_requireLot mv_X7_requireLot ml_X7_122 sh_0 rfl rfl rfl rfl rfl rfl ?_
  exact px_outT rfl rfl rfl rfl

set_option maxRecDepth 100000 in
set_option maxHeartbeats 4000000 in
theorem sp_X7_bottlesOf_no2 {l : Launch} {G : GC} {ad : Nat → Nat} (hfl : l.stackTraces = false) {h : HP} {nL nH nB nC : Nat} {np : Nat → Nat} {pl : Nat → Nat → Nat} (hw : WF h nL nH nB nC np pl) {lot : Nat} (hlot : lot < nL) {m : Int32} (e1 : ¬ m = -1) (e : wiB m 0 (h 16 3 - 1) = false) : PT l G yX7_bottlesOf (.code yX7_bottlesOf cX7_bottlesOf 4 ((Option.some FieldType.int))) { frames := 8, cells := 2, slots := 12, locals := 135 } [.ref (ad 0), .int (nI lot), .int (m)] SW ad (h) (.inr "java/lang/IndexOutOfBoundsException") (h) := by
  refine PT.mk (L0 := [some (.ref (ad 0)), some (.int (nI lot)), some (.int (m)), none]) RX7 "bottlesOf" 2 12 (by decide +kernel) rfl rfl ⟨rfl, rfl⟩ (by simp [Value.category]) (Nat.le_of_ble_eq_true rfl) rfl ?_
  have hb1 := hw.1.2
  have hlot24 : lot < 24 := by omega
  refine pw_aload_n dX7_bottlesOf_0 rfl ?_
  refine pw_iload_n dX7_bottlesOf_1 rfl ?_
  refine pw_okV dX7_bottlesOf_2 (sp_X7_requireLot_ok hfl (wi_ok hw.1.1 hlot (by have := hw.1.2; omega))) mi_X7_requireLot mv_X7_requireLot ml_X7_122 sh_0 rfl rfl rfl rfl rfl rfl ?_
  refine pw_iload_n dX7_bottlesOf_5 rfl ?_
  refine pw_iconst dX7_bottlesOf_6 (v := (-1)) (by decide) ?_
  refine pw_icmp_eq dX7_bottlesOf_7 (tgt := 24) (by decide) (fun c7 => absurd c7 (e1)) (fun c7 => ?_)
  refine pw_iload_n dX7_bottlesOf_10 rfl ?_
  refine pw_aload_n dX7_bottlesOf_11 rfl ?_
  refine pw_getr dX7_bottlesOf_12 lf_X7_10 sh_0 rfl ?_
  refine pw_getr dX7_bottlesOf_15 lf_X7_231 sh_1 rfl ?_
  refine pw_geti dX7_bottlesOf_18 lf_X7_248 sh_16 rfl ?_
  refine pw_flS dX7_bottlesOf_21 (sp_X7_requirePlace_no hfl e) mi_X7_requirePlace ms_X7_requirePlace ml_X7_196 rfl rfl rfl rfl ?_
  exact px_outT rfl rfl rfl rfl

set_option maxRecDepth 100000 in
set_option maxHeartbeats 4000000 in
theorem sp_X7_bottlesOf_ok1 {l : Launch} {G : GC} {ad : Nat → Nat} (hfl : l.stackTraces = false) {h : HP} {nL nH nB nC : Nat} {np : Nat → Nat} {pl : Nat → Nat → Nat} (hw : WF h nL nH nB nC np pl) {lot : Nat} (hlot : lot < nL)  : PT l G yX7_bottlesOf (.code yX7_bottlesOf cX7_bottlesOf 4 ((Option.some FieldType.int))) { frames := 8, cells := 2, slots := 12, locals := 135 } [.ref (ad 0), .int (nI lot), .int (-1)] SW ad (h) (.inl (some (.int (sumC (fun b => if inS (orI (fun b => ifOr ((fun b => inS (amF (blI np pl nL) (bit1 lot) lot (nL - lot)) (h 15 (b * 7 + 0))) b) (bit1 b)) nB) (nI b) = true then h 15 (b * 7 + 2) else 0) nB)))) (h) := by
  refine PT.mk (L0 := [some (.ref (ad 0)), some (.int (nI lot)), some (.int (-1)), none]) RX7 "bottlesOf" 2 12 (by decide +kernel) rfl rfl ⟨rfl, rfl⟩ (by simp [Value.category]) (Nat.le_of_ble_eq_true rfl) rfl ?_
  have hb1 := hw.1.2
  have hlot24 : lot < 24 := by omega
  refine pw_aload_n dX7_bottlesOf_0 rfl ?_
  refine pw_iload_n dX7_bottlesOf_1 rfl ?_
  refine pw_okV dX7_bottlesOf_2 (sp_X7_requireLot_ok hfl (wi_ok hw.1.1 hlot (by have := hw.1.2; omega))) mi_X7_requireLot mv_X7_requireLot ml_X7_122 sh_0 rfl rfl rfl rfl rfl rfl ?_
  refine pw_iload_n dX7_bottlesOf_5 rfl ?_
  refine pw_iconst dX7_bottlesOf_6 (v := (-1)) (by decide) ?_
  refine pw_icmp_eq dX7_bottlesOf_7 (tgt := 24) (by decide) (fun c7 => ?_) (fun c7 => absurd c7 (fun q => q rfl))
  refine pw_aload_n dX7_bottlesOf_24 rfl ?_
  refine pw_getr dX7_bottlesOf_25 lf_X7_10 sh_0 rfl ?_
  refine pw_getr dX7_bottlesOf_28 lf_X7_213 sh_1 rfl ?_
  refine pw_aload_n dX7_bottlesOf_31 rfl ?_
  refine pw_getr dX7_bottlesOf_32 lf_X7_10 sh_0 rfl ?_
  refine pw_getr dX7_bottlesOf_35 lf_X7_63 sh_1 rfl ?_
  refine pw_iload_n dX7_bottlesOf_38 rfl ?_
  refine pw_cV dX7_bottlesOf_39 (sp_X4_allMadeOf hw hlot) mi_X4_allMadeOf mv_X4_allMadeOf ml_X7_279 sh_2 rfl rfl rfl rfl ⟨rfl, rfl⟩ rfl rfl ?_
  refine pw_cV dX7_bottlesOf_42 (sp_X0_ofLots hw.2.2.1.1 hw.2.2.1.2) mi_X0_ofLots mv_X0_ofLots ml_X7_282 sh_13 rfl rfl rfl rfl ⟨rfl, rfl⟩ rfl rfl ?_
  refine pw_istore_n dX7_bottlesOf_45 (by decide) rfl ?_
  refine pw_iload_n dX7_bottlesOf_46 rfl ?_
  refine pw_iconst dX7_bottlesOf_47 (v := (-1)) (by decide) ?_
  refine pw_icmp_ne dX7_bottlesOf_48 (tgt := 65) (by decide) (fun c48 => absurd c48 (fun q => q rfl)) (fun c48 => ?_)
  refine pw_aload_n dX7_bottlesOf_51 rfl ?_
  refine pw_getr dX7_bottlesOf_52 lf_X7_10 sh_0 rfl ?_
  refine pw_getr dX7_bottlesOf_55 lf_X7_213 sh_1 rfl ?_
  refine pw_iload_n dX7_bottlesOf_58 rfl ?_
  refine pw_cV dX7_bottlesOf_59 (sp_X0_stockOfAll hw.2.2.1.1 hw.2.2.1.2) mi_X0_stockOfAll mv_X0_stockOfAll ml_X7_295 sh_13 rfl rfl rfl rfl ⟨rfl, rfl⟩ rfl rfl ?_
  refine pw_goto dX7_bottlesOf_62 (tgt := 77) (by decide) ?_
  exact pw_iretT dX7_bottlesOf_77 rfl rfl rfl rfl rfl

set_option maxRecDepth 100000 in
set_option maxHeartbeats 4000000 in
theorem sp_X7_bottlesOf_ok2 {l : Launch} {G : GC} {ad : Nat → Nat} (hfl : l.stackTraces = false) {h : HP} {nL nH nB nC : Nat} {np : Nat → Nat} {pl : Nat → Nat → Nat} (hw : WF h nL nH nB nC np pl) {lot : Nat} (hlot : lot < nL) {cu : Nat} (hcu : cu < nC)  : PT l G yX7_bottlesOf (.code yX7_bottlesOf cX7_bottlesOf 4 ((Option.some FieldType.int))) { frames := 8, cells := 2, slots := 12, locals := 135 } [.ref (ad 0), .int (nI lot), .int (nI cu)] SW ad (h) (.inl (some (.int (sumC (fun b => if inS (orI (fun b => ifOr ((fun b => inS (amF (blI np pl nL) (bit1 lot) lot (nL - lot)) (h 15 (b * 7 + 0))) b) (bit1 b)) nB) (nI b) = true then h 20 (cu * 16 + b) else 0) 16)))) (h) := by
  refine PT.mk (L0 := [some (.ref (ad 0)), some (.int (nI lot)), some (.int (nI cu)), none]) RX7 "bottlesOf" 2 12 (by decide +kernel) rfl rfl ⟨rfl, rfl⟩ (by simp [Value.category]) (Nat.le_of_ble_eq_true rfl) rfl ?_
  have hb1 := hw.1.2
  have hlot24 : lot < 24 := by omega
  have hb4 := hw.2.2.2.1.2
  have hm1 : ¬ nI cu = -1 := fun q => nI_pos (n := cu) (by omega) (by rw [q]; decide)
  refine pw_aload_n dX7_bottlesOf_0 rfl ?_
  refine pw_iload_n dX7_bottlesOf_1 rfl ?_
  refine pw_okV dX7_bottlesOf_2 (sp_X7_requireLot_ok hfl (wi_ok hw.1.1 hlot (by have := hw.1.2; omega))) mi_X7_requireLot mv_X7_requireLot ml_X7_122 sh_0 rfl rfl rfl rfl rfl rfl ?_
  refine pw_iload_n dX7_bottlesOf_5 rfl ?_
  refine pw_iconst dX7_bottlesOf_6 (v := (-1)) (by decide) ?_
  refine pw_icmp_eq dX7_bottlesOf_7 (tgt := 24) (by decide) (fun c7 => absurd c7 (hm1)) (fun c7 => ?_)
  refine pw_iload_n dX7_bottlesOf_10 rfl ?_
  refine pw_aload_n dX7_bottlesOf_11 rfl ?_
  refine pw_getr dX7_bottlesOf_12 lf_X7_10 sh_0 rfl ?_
  refine pw_getr dX7_bottlesOf_15 lf_X7_231 sh_1 rfl ?_
  refine pw_geti dX7_bottlesOf_18 lf_X7_248 sh_16 rfl ?_
  refine pw_okS dX7_bottlesOf_21 (sp_X7_requirePlace_ok hfl (wi_ok hw.2.2.2.1.1 hcu (by omega))) mi_X7_requirePlace ms_X7_requirePlace ml_X7_196 rfl rfl rfl rfl ?_
  refine pw_aload_n dX7_bottlesOf_24 rfl ?_
  refine pw_getr dX7_bottlesOf_25 lf_X7_10 sh_0 rfl ?_
  refine pw_getr dX7_bottlesOf_28 lf_X7_213 sh_1 rfl ?_
  refine pw_aload_n dX7_bottlesOf_31 rfl ?_
  refine pw_getr dX7_bottlesOf_32 lf_X7_10 sh_0 rfl ?_
  refine pw_getr dX7_bottlesOf_35 lf_X7_63 sh_1 rfl ?_
  refine pw_iload_n dX7_bottlesOf_38 rfl ?_
  refine pw_cV dX7_bottlesOf_39 (sp_X4_allMadeOf hw hlot) mi_X4_allMadeOf mv_X4_allMadeOf ml_X7_279 sh_2 rfl rfl rfl rfl ⟨rfl, rfl⟩ rfl rfl ?_
  refine pw_cV dX7_bottlesOf_42 (sp_X0_ofLots hw.2.2.1.1 hw.2.2.1.2) mi_X0_ofLots mv_X0_ofLots ml_X7_282 sh_13 rfl rfl rfl rfl ⟨rfl, rfl⟩ rfl rfl ?_
  refine pw_istore_n dX7_bottlesOf_45 (by decide) rfl ?_
  refine pw_iload_n dX7_bottlesOf_46 rfl ?_
  refine pw_iconst dX7_bottlesOf_47 (v := (-1)) (by decide) ?_
  refine pw_icmp_ne dX7_bottlesOf_48 (tgt := 65) (by decide) (fun c48 => ?_) (fun c48 => absurd c48 (hm1))
  refine pw_aload_n dX7_bottlesOf_65 rfl ?_
  refine pw_getr dX7_bottlesOf_66 lf_X7_10 sh_0 rfl ?_
  refine pw_getr dX7_bottlesOf_69 lf_X7_231 sh_1 rfl ?_
  refine pw_iload_n dX7_bottlesOf_72 rfl ?_
  refine pw_iload_n dX7_bottlesOf_73 rfl ?_
  refine pw_cV dX7_bottlesOf_74 (sp_X1_heldOfAll (by omega)) mi_X1_heldOfAll mv_X1_heldOfAll ml_X7_298 sh_16 rfl rfl rfl rfl ⟨rfl, rfl⟩ rfl rfl ?_
  exact pw_iretT dX7_bottlesOf_77 rfl rfl rfl rfl rfl

set_option maxRecDepth 100000 in
set_option maxHeartbeats 4000000 in
theorem sp_X7_account_no {l : Launch} {G : GC} {ad : Nat → Nat} (hfl : l.stackTraces = false) {h : HP} {m : Int32} (e : wiB m 0 11 = false) : PT l G yX7_account (.code yX7_account cX7_account 2 ((Option.some FieldType.int))) { frames := 7, cells := 1, slots := 6, locals := 112 } [.ref (ad 0), .int (m)] SW ad (h) (.inr "java/lang/IllegalArgumentException") (h) := by
  refine PT.mk (L0 := [some (.ref (ad 0)), some (.int (m))]) RX7 "account" 1 6 (by decide +kernel) rfl rfl ⟨rfl, rfl⟩ (by simp [Value.category]) (Nat.le_of_ble_eq_true rfl) rfl ?_
  refine pw_iload_n dX7_account_0 rfl ?_
  refine pw_iconst dX7_account_1 (v := 0) (by decide) ?_
  refine pw_bipush dX7_account_2 (v := 11) (by decide) ?_
  refine pw_flS dX7_account_4 (sp_X7_requireNumber_no hfl e) mi_X7_requireNumber ms_X7_requireNumber ml_X7_59 rfl rfl rfl rfl ?_
  exact px_outT rfl rfl rfl rfl

set_option maxRecDepth 100000 in
set_option maxHeartbeats 4000000 in
theorem sp_X7_account_k0 {l : Launch} {G : GC} {ad : Nat → Nat} (hfl : l.stackTraces = false) {h : HP} {nL nH nB nC : Nat} {np : Nat → Nat} {pl : Nat → Nat → Nat} (hw : WF h nL nH nB nC np pl)  : PT l G yX7_account (.code yX7_account cX7_account 2 ((Option.some FieldType.int))) { frames := 7, cells := 1, slots := 6, locals := 112 } [.ref (ad 0), .int (0)] SW ad (h) (.inl (some (.int (sumC (fun k => if ¬ (h 4 (k * 5 + 4) = -1) then h 4 (k * 5 + 0) else 0) nL)))) (h) := by
  refine PT.mk (L0 := [some (.ref (ad 0)), some (.int (0))]) RX7 "account" 1 6 (by decide +kernel) rfl rfl ⟨rfl, rfl⟩ (by simp [Value.category]) (Nat.le_of_ble_eq_true rfl) rfl ?_
  refine pw_iload_n dX7_account_0 rfl ?_
  refine pw_iconst dX7_account_1 (v := 0) (by decide) ?_
  refine pw_bipush dX7_account_2 (v := 11) (by decide) ?_
  refine pw_okS dX7_account_4 (sp_X7_requireNumber_ok hfl (by decide)) mi_X7_requireNumber ms_X7_requireNumber ml_X7_59 rfl rfl rfl rfl ?_
  refine pw_iload_n dX7_account_7 rfl ?_
  refine pw_tabIn dX7_account_8 (by decide) (by decide) (off := 60) rfl (tgt := 68) (by decide) ?_
  refine pw_aload_n dX7_account_68 rfl ?_
  refine pw_getr dX7_account_69 lf_X7_10 sh_0 rfl ?_
  refine pw_getr dX7_account_72 lf_X7_63 sh_1 rfl ?_
  refine pw_cV dX7_account_75 (sp_X4_harvestedQuarters hw) mi_X4_harvestedQuarters mv_X4_harvestedQuarters ml_X7_304 sh_2 rfl rfl rfl rfl ⟨rfl, rfl⟩ rfl rfl ?_
  exact pw_iretT dX7_account_78 rfl rfl rfl rfl rfl

set_option maxRecDepth 100000 in
set_option maxHeartbeats 4000000 in
theorem sp_X7_account_k1 {l : Launch} {G : GC} {ad : Nat → Nat} (hfl : l.stackTraces = false) {h : HP} {nL nH nB nC : Nat} {np : Nat → Nat} {pl : Nat → Nat → Nat} (hw : WF h nL nH nB nC np pl)  : PT l G yX7_account (.code yX7_account cX7_account 2 ((Option.some FieldType.int))) { frames := 7, cells := 1, slots := 6, locals := 112 } [.ref (ad 0), .int (1)] SW ad (h) (.inl (some (.int (sumC (fun r => h 4 (r * 5 + 1)) 24)))) (h) := by
  refine PT.mk (L0 := [some (.ref (ad 0)), some (.int (1))]) RX7 "account" 1 6 (by decide +kernel) rfl rfl ⟨rfl, rfl⟩ (by simp [Value.category]) (Nat.le_of_ble_eq_true rfl) rfl ?_
  refine pw_iload_n dX7_account_0 rfl ?_
  refine pw_iconst dX7_account_1 (v := 0) (by decide) ?_
  refine pw_bipush dX7_account_2 (v := 11) (by decide) ?_
  refine pw_okS dX7_account_4 (sp_X7_requireNumber_ok hfl (by decide)) mi_X7_requireNumber ms_X7_requireNumber ml_X7_59 rfl rfl rfl rfl ?_
  refine pw_iload_n dX7_account_7 rfl ?_
  refine pw_tabIn dX7_account_8 (by decide) (by decide) (off := 71) rfl (tgt := 79) (by decide) ?_
  refine pw_aload_n dX7_account_79 rfl ?_
  refine pw_getr dX7_account_80 lf_X7_10 sh_0 rfl ?_
  refine pw_getr dX7_account_83 lf_X7_63 sh_1 rfl ?_
  refine pw_cV dX7_account_86 (sp_X4_leftInAll) mi_X4_leftInAll mv_X4_leftInAll ml_X7_308 sh_2 rfl rfl rfl rfl ⟨rfl, rfl⟩ rfl rfl ?_
  exact pw_iretT dX7_account_89 rfl rfl rfl rfl rfl

set_option maxRecDepth 100000 in
set_option maxHeartbeats 4000000 in
theorem sp_X7_account_k2 {l : Launch} {G : GC} {ad : Nat → Nat} (hfl : l.stackTraces = false) {h : HP} {nL nH nB nC : Nat} {np : Nat → Nat} {pl : Nat → Nat → Nat} (hw : WF h nL nH nB nC np pl)  : PT l G yX7_account (.code yX7_account cX7_account 2 ((Option.some FieldType.int))) { frames := 7, cells := 1, slots := 6, locals := 112 } [.ref (ad 0), .int (2)] SW ad (h) (.inl (some (.int (sumC (fun r => h 15 (r * 7 + 1)) 16 * 3)))) (h) := by
  refine PT.mk (L0 := [some (.ref (ad 0)), some (.int (2))]) RX7 "account" 1 6 (by decide +kernel) rfl rfl ⟨rfl, rfl⟩ (by simp [Value.category]) (Nat.le_of_ble_eq_true rfl) rfl ?_
  refine pw_iload_n dX7_account_0 rfl ?_
  refine pw_iconst dX7_account_1 (v := 0) (by decide) ?_
  refine pw_bipush dX7_account_2 (v := 11) (by decide) ?_
  refine pw_okS dX7_account_4 (sp_X7_requireNumber_ok hfl (by decide)) mi_X7_requireNumber ms_X7_requireNumber ml_X7_59 rfl rfl rfl rfl ?_
  refine pw_iload_n dX7_account_7 rfl ?_
  refine pw_tabIn dX7_account_8 (by decide) (by decide) (off := 82) rfl (tgt := 90) (by decide) ?_
  refine pw_aload_n dX7_account_90 rfl ?_
  refine pw_getr dX7_account_91 lf_X7_10 sh_0 rfl ?_
  refine pw_getr dX7_account_94 lf_X7_213 sh_1 rfl ?_
  refine pw_cV dX7_account_97 (sp_X0_bottledQuarters) mi_X0_bottledQuarters mv_X0_bottledQuarters ml_X7_311 sh_13 rfl rfl rfl rfl ⟨rfl, rfl⟩ rfl rfl ?_
  exact pw_iretT dX7_account_100 rfl rfl rfl rfl rfl

set_option maxRecDepth 100000 in
set_option maxHeartbeats 4000000 in
theorem sp_X7_account_k3 {l : Launch} {G : GC} {ad : Nat → Nat} (hfl : l.stackTraces = false) {h : HP} {nL nH nB nC : Nat} {np : Nat → Nat} {pl : Nat → Nat → Nat} (hw : WF h nL nH nB nC np pl)  : PT l G yX7_account (.code yX7_account cX7_account 2 ((Option.some FieldType.int))) { frames := 7, cells := 1, slots := 6, locals := 112 } [.ref (ad 0), .int (3)] SW ad (h) (.inl (some (.int (h 2 7)))) (h) := by
  refine PT.mk (L0 := [some (.ref (ad 0)), some (.int (3))]) RX7 "account" 1 6 (by decide +kernel) rfl rfl ⟨rfl, rfl⟩ (by simp [Value.category]) (Nat.le_of_ble_eq_true rfl) rfl ?_
  refine pw_iload_n dX7_account_0 rfl ?_
  refine pw_iconst dX7_account_1 (v := 0) (by decide) ?_
  refine pw_bipush dX7_account_2 (v := 11) (by decide) ?_
  refine pw_okS dX7_account_4 (sp_X7_requireNumber_ok hfl (by decide)) mi_X7_requireNumber ms_X7_requireNumber ml_X7_59 rfl rfl rfl rfl ?_
  refine pw_iload_n dX7_account_7 rfl ?_
  refine pw_tabIn dX7_account_8 (by decide) (by decide) (off := 93) rfl (tgt := 101) (by decide) ?_
  refine pw_aload_n dX7_account_101 rfl ?_
  refine pw_getr dX7_account_102 lf_X7_10 sh_0 rfl ?_
  refine pw_getr dX7_account_105 lf_X7_63 sh_1 rfl ?_
  refine pw_geti dX7_account_108 lf_X7_138 sh_2 rfl ?_
  exact pw_iretT dX7_account_111 rfl rfl rfl rfl rfl

set_option maxRecDepth 100000 in
set_option maxHeartbeats 4000000 in
theorem sp_X7_account_k4 {l : Launch} {G : GC} {ad : Nat → Nat} (hfl : l.stackTraces = false) {h : HP} {nL nH nB nC : Nat} {np : Nat → Nat} {pl : Nat → Nat → Nat} (hw : WF h nL nH nB nC np pl)  : PT l G yX7_account (.code yX7_account cX7_account 2 ((Option.some FieldType.int))) { frames := 7, cells := 1, slots := 6, locals := 112 } [.ref (ad 0), .int (4)] SW ad (h) (.inl (some (.int (sumC (fun b => if inS (-1) (nI b) = true then h 15 (b * 7 + 2) else 0) nB)))) (h) := by
  refine PT.mk (L0 := [some (.ref (ad 0)), some (.int (4))]) RX7 "account" 1 6 (by decide +kernel) rfl rfl ⟨rfl, rfl⟩ (by simp [Value.category]) (Nat.le_of_ble_eq_true rfl) rfl ?_
  refine pw_iload_n dX7_account_0 rfl ?_
  refine pw_iconst dX7_account_1 (v := 0) (by decide) ?_
  refine pw_bipush dX7_account_2 (v := 11) (by decide) ?_
  refine pw_okS dX7_account_4 (sp_X7_requireNumber_ok hfl (by decide)) mi_X7_requireNumber ms_X7_requireNumber ml_X7_59 rfl rfl rfl rfl ?_
  refine pw_iload_n dX7_account_7 rfl ?_
  refine pw_tabIn dX7_account_8 (by decide) (by decide) (off := 104) rfl (tgt := 112) (by decide) ?_
  refine pw_aload_n dX7_account_112 rfl ?_
  refine pw_getr dX7_account_113 lf_X7_10 sh_0 rfl ?_
  refine pw_getr dX7_account_116 lf_X7_213 sh_1 rfl ?_
  refine pw_iconst dX7_account_119 (v := (-1)) (by decide) ?_
  refine pw_cV dX7_account_120 (sp_X0_stockOfAll hw.2.2.1.1 hw.2.2.1.2) mi_X0_stockOfAll mv_X0_stockOfAll ml_X7_295 sh_13 rfl rfl rfl rfl ⟨rfl, rfl⟩ rfl rfl ?_
  exact pw_iretT dX7_account_123 rfl rfl rfl rfl rfl

set_option maxRecDepth 100000 in
set_option maxHeartbeats 4000000 in
theorem sp_X7_account_k5 {l : Launch} {G : GC} {ad : Nat → Nat} (hfl : l.stackTraces = false) {h : HP} {nL nH nB nC : Nat} {np : Nat → Nat} {pl : Nat → Nat → Nat} (hw : WF h nL nH nB nC np pl)  : PT l G yX7_account (.code yX7_account cX7_account 2 ((Option.some FieldType.int))) { frames := 7, cells := 1, slots := 6, locals := 112 } [.ref (ad 0), .int (5)] SW ad (h) (.inl (some (.int (sumC (fun b => sumC (fun c => h 20 (c * 16 + b)) 8) 16)))) (h) := by
  refine PT.mk (L0 := [some (.ref (ad 0)), some (.int (5))]) RX7 "account" 1 6 (by decide +kernel) rfl rfl ⟨rfl, rfl⟩ (by simp [Value.category]) (Nat.le_of_ble_eq_true rfl) rfl ?_
  refine pw_iload_n dX7_account_0 rfl ?_
  refine pw_iconst dX7_account_1 (v := 0) (by decide) ?_
  refine pw_bipush dX7_account_2 (v := 11) (by decide) ?_
  refine pw_okS dX7_account_4 (sp_X7_requireNumber_ok hfl (by decide)) mi_X7_requireNumber ms_X7_requireNumber ml_X7_59 rfl rfl rfl rfl ?_
  refine pw_iload_n dX7_account_7 rfl ?_
  refine pw_tabIn dX7_account_8 (by decide) (by decide) (off := 116) rfl (tgt := 124) (by decide) ?_
  refine pw_aload_n dX7_account_124 rfl ?_
  refine pw_getr dX7_account_125 lf_X7_10 sh_0 rfl ?_
  refine pw_getr dX7_account_128 lf_X7_231 sh_1 rfl ?_
  refine pw_cV dX7_account_131 (sp_X1_heldByAll) mi_X1_heldByAll mv_X1_heldByAll ml_X7_314 sh_16 rfl rfl rfl rfl ⟨rfl, rfl⟩ rfl rfl ?_
  exact pw_iretT dX7_account_134 rfl rfl rfl rfl rfl

set_option maxRecDepth 100000 in
set_option maxHeartbeats 4000000 in
theorem sp_X7_account_k6 {l : Launch} {G : GC} {ad : Nat → Nat} (hfl : l.stackTraces = false) {h : HP} {nL nH nB nC : Nat} {np : Nat → Nat} {pl : Nat → Nat → Nat} (hw : WF h nL nH nB nC np pl)  : PT l G yX7_account (.code yX7_account cX7_account 2 ((Option.some FieldType.int))) { frames := 7, cells := 1, slots := 6, locals := 112 } [.ref (ad 0), .int (6)] SW ad (h) (.inl (some (.int (h 2 5)))) (h) := by
  refine PT.mk (L0 := [some (.ref (ad 0)), some (.int (6))]) RX7 "account" 1 6 (by decide +kernel) rfl rfl ⟨rfl, rfl⟩ (by simp [Value.category]) (Nat.le_of_ble_eq_true rfl) rfl ?_
  refine pw_iload_n dX7_account_0 rfl ?_
  refine pw_iconst dX7_account_1 (v := 0) (by decide) ?_
  refine pw_bipush dX7_account_2 (v := 11) (by decide) ?_
  refine pw_okS dX7_account_4 (sp_X7_requireNumber_ok hfl (by decide)) mi_X7_requireNumber ms_X7_requireNumber ml_X7_59 rfl rfl rfl rfl ?_
  refine pw_iload_n dX7_account_7 rfl ?_
  refine pw_tabIn dX7_account_8 (by decide) (by decide) (off := 127) rfl (tgt := 135) (by decide) ?_
  refine pw_aload_n dX7_account_135 rfl ?_
  refine pw_getr dX7_account_136 lf_X7_10 sh_0 rfl ?_
  refine pw_getr dX7_account_139 lf_X7_63 sh_1 rfl ?_
  refine pw_geti dX7_account_142 lf_X7_67 sh_2 rfl ?_
  exact pw_iretT dX7_account_145 rfl rfl rfl rfl rfl

set_option maxRecDepth 100000 in
set_option maxHeartbeats 4000000 in
theorem sp_X7_account_k7 {l : Launch} {G : GC} {ad : Nat → Nat} (hfl : l.stackTraces = false) {h : HP} {nL nH nB nC : Nat} {np : Nat → Nat} {pl : Nat → Nat → Nat} (hw : WF h nL nH nB nC np pl)  : PT l G yX7_account (.code yX7_account cX7_account 2 ((Option.some FieldType.int))) { frames := 7, cells := 1, slots := 6, locals := 112 } [.ref (ad 0), .int (7)] SW ad (h) (.inl (some (.int (h 2 6)))) (h) := by
  refine PT.mk (L0 := [some (.ref (ad 0)), some (.int (7))]) RX7 "account" 1 6 (by decide +kernel) rfl rfl ⟨rfl, rfl⟩ (by simp [Value.category]) (Nat.le_of_ble_eq_true rfl) rfl ?_
  refine pw_iload_n dX7_account_0 rfl ?_
  refine pw_iconst dX7_account_1 (v := 0) (by decide) ?_
  refine pw_bipush dX7_account_2 (v := 11) (by decide) ?_
  refine pw_okS dX7_account_4 (sp_X7_requireNumber_ok hfl (by decide)) mi_X7_requireNumber ms_X7_requireNumber ml_X7_59 rfl rfl rfl rfl ?_
  refine pw_iload_n dX7_account_7 rfl ?_
  refine pw_tabIn dX7_account_8 (by decide) (by decide) (off := 138) rfl (tgt := 146) (by decide) ?_
  refine pw_aload_n dX7_account_146 rfl ?_
  refine pw_getr dX7_account_147 lf_X7_10 sh_0 rfl ?_
  refine pw_getr dX7_account_150 lf_X7_63 sh_1 rfl ?_
  refine pw_geti dX7_account_153 lf_X7_72 sh_2 rfl ?_
  exact pw_iretT dX7_account_156 rfl rfl rfl rfl rfl

set_option maxRecDepth 100000 in
set_option maxHeartbeats 4000000 in
theorem sp_X7_account_k8 {l : Launch} {G : GC} {ad : Nat → Nat} (hfl : l.stackTraces = false) {h : HP} {nL nH nB nC : Nat} {np : Nat → Nat} {pl : Nat → Nat → Nat} (hw : WF h nL nH nB nC np pl)  : PT l G yX7_account (.code yX7_account cX7_account 2 ((Option.some FieldType.int))) { frames := 7, cells := 1, slots := 6, locals := 112 } [.ref (ad 0), .int (8)] SW ad (h) (.inl (some (.int (h 13 1)))) (h) := by
  refine PT.mk (L0 := [some (.ref (ad 0)), some (.int (8))]) RX7 "account" 1 6 (by decide +kernel) rfl rfl ⟨rfl, rfl⟩ (by simp [Value.category]) (Nat.le_of_ble_eq_true rfl) rfl ?_
  refine pw_iload_n dX7_account_0 rfl ?_
  refine pw_iconst dX7_account_1 (v := 0) (by decide) ?_
  refine pw_bipush dX7_account_2 (v := 11) (by decide) ?_
  refine pw_okS dX7_account_4 (sp_X7_requireNumber_ok hfl (by decide)) mi_X7_requireNumber ms_X7_requireNumber ml_X7_59 rfl rfl rfl rfl ?_
  refine pw_iload_n dX7_account_7 rfl ?_
  refine pw_tabIn dX7_account_8 (by decide) (by decide) (off := 149) rfl (tgt := 157) (by decide) ?_
  refine pw_aload_n dX7_account_157 rfl ?_
  refine pw_getr dX7_account_158 lf_X7_10 sh_0 rfl ?_
  refine pw_getr dX7_account_161 lf_X7_213 sh_1 rfl ?_
  refine pw_geti dX7_account_164 lf_X7_230 sh_13 rfl ?_
  exact pw_iretT dX7_account_167 rfl rfl rfl rfl rfl

set_option maxRecDepth 100000 in
set_option maxHeartbeats 4000000 in
theorem sp_X7_account_k9 {l : Launch} {G : GC} {ad : Nat → Nat} (hfl : l.stackTraces = false) {h : HP} {nL nH nB nC : Nat} {np : Nat → Nat} {pl : Nat → Nat → Nat} (hw : WF h nL nH nB nC np pl)  : PT l G yX7_account (.code yX7_account cX7_account 2 ((Option.some FieldType.int))) { frames := 7, cells := 1, slots := 6, locals := 112 } [.ref (ad 0), .int (9)] SW ad (h) (.inl (some (.int (h 16 3)))) (h) := by
  refine PT.mk (L0 := [some (.ref (ad 0)), some (.int (9))]) RX7 "account" 1 6 (by decide +kernel) rfl rfl ⟨rfl, rfl⟩ (by simp [Value.category]) (Nat.le_of_ble_eq_true rfl) rfl ?_
  refine pw_iload_n dX7_account_0 rfl ?_
  refine pw_iconst dX7_account_1 (v := 0) (by decide) ?_
  refine pw_bipush dX7_account_2 (v := 11) (by decide) ?_
  refine pw_okS dX7_account_4 (sp_X7_requireNumber_ok hfl (by decide)) mi_X7_requireNumber ms_X7_requireNumber ml_X7_59 rfl rfl rfl rfl ?_
  refine pw_iload_n dX7_account_7 rfl ?_
  refine pw_tabIn dX7_account_8 (by decide) (by decide) (off := 160) rfl (tgt := 168) (by decide) ?_
  refine pw_aload_n dX7_account_168 rfl ?_
  refine pw_getr dX7_account_169 lf_X7_10 sh_0 rfl ?_
  refine pw_getr dX7_account_172 lf_X7_231 sh_1 rfl ?_
  refine pw_geti dX7_account_175 lf_X7_248 sh_16 rfl ?_
  exact pw_iretT dX7_account_178 rfl rfl rfl rfl rfl

set_option maxRecDepth 100000 in
set_option maxHeartbeats 4000000 in
theorem sp_X7_account_k10 {l : Launch} {G : GC} {ad : Nat → Nat} (hfl : l.stackTraces = false) {h : HP} {nL nH nB nC : Nat} {np : Nat → Nat} {pl : Nat → Nat → Nat} (hw : WF h nL nH nB nC np pl)  : PT l G yX7_account (.code yX7_account cX7_account 2 ((Option.some FieldType.int))) { frames := 7, cells := 1, slots := 6, locals := 112 } [.ref (ad 0), .int (10)] SW ad (h) (.inl (some (.int (h 49 2)))) (h) := by
  refine PT.mk (L0 := [some (.ref (ad 0)), some (.int (10))]) RX7 "account" 1 6 (by decide +kernel) rfl rfl ⟨rfl, rfl⟩ (by simp [Value.category]) (Nat.le_of_ble_eq_true rfl) rfl ?_
  refine pw_iload_n dX7_account_0 rfl ?_
  refine pw_iconst dX7_account_1 (v := 0) (by decide) ?_
  refine pw_bipush dX7_account_2 (v := 11) (by decide) ?_
  refine pw_okS dX7_account_4 (sp_X7_requireNumber_ok hfl (by decide)) mi_X7_requireNumber ms_X7_requireNumber ml_X7_59 rfl rfl rfl rfl ?_
  refine pw_iload_n dX7_account_7 rfl ?_
  refine pw_tabIn dX7_account_8 (by decide) (by decide) (off := 171) rfl (tgt := 179) (by decide) ?_
  refine pw_aload_n dX7_account_179 rfl ?_
  refine pw_getr dX7_account_180 lf_X7_22 sh_0 rfl ?_
  refine pw_geti dX7_account_183 lf_X7_317 sh_49 rfl ?_
  exact pw_iretT dX7_account_186 rfl rfl rfl rfl rfl

set_option maxRecDepth 100000 in
set_option maxHeartbeats 4000000 in
theorem sp_X7_account_k11 {l : Launch} {G : GC} {ad : Nat → Nat} (hfl : l.stackTraces = false) {h : HP} {nL nH nB nC : Nat} {np : Nat → Nat} {pl : Nat → Nat → Nat} (hw : WF h nL nH nB nC np pl)  : PT l G yX7_account (.code yX7_account cX7_account 2 ((Option.some FieldType.int))) { frames := 7, cells := 1, slots := 6, locals := 112 } [.ref (ad 0), .int (11)] SW ad (h) (.inl (some (.int (h 243 2)))) (h) := by
  refine PT.mk (L0 := [some (.ref (ad 0)), some (.int (11))]) RX7 "account" 1 6 (by decide +kernel) rfl rfl ⟨rfl, rfl⟩ (by simp [Value.category]) (Nat.le_of_ble_eq_true rfl) rfl ?_
  refine pw_iload_n dX7_account_0 rfl ?_
  refine pw_iconst dX7_account_1 (v := 0) (by decide) ?_
  refine pw_bipush dX7_account_2 (v := 11) (by decide) ?_
  refine pw_okS dX7_account_4 (sp_X7_requireNumber_ok hfl (by decide)) mi_X7_requireNumber ms_X7_requireNumber ml_X7_59 rfl rfl rfl rfl ?_
  refine pw_iload_n dX7_account_7 rfl ?_
  refine pw_tabOut dX7_account_8 (by decide) (tgt := 187) (by decide) ?_
  refine pw_aload_n dX7_account_187 rfl ?_
  refine pw_getr dX7_account_188 lf_X7_29 sh_0 rfl ?_
  refine pw_geti dX7_account_191 lf_X7_94 sh_243 rfl ?_
  exact pw_iretT dX7_account_194 rfl rfl rfl rfl rfl

set_option maxRecDepth 100000 in
set_option maxHeartbeats 4000000 in
theorem sp_X7_feed_no {l : Launch} {G : GC} {ad : Nat → Nat} (hfl : l.stackTraces = false) {h : HP} {x : Int32} (e : h 243 2 = nI 40) : PT l G yX7_feed (.code yX7_feed cX7_feed 2 ((Option.some FieldType.int))) { frames := 6, cells := 1, slots := 6, locals := 90 } [.ref (ad 0), .int (x)] SW ad (h) (.inr "java/lang/IllegalStateException") (h) := by
  refine PT.mk (L0 := [some (.ref (ad 0)), some (.int (x))]) RX7 "feed" 1 6 (by decide +kernel) rfl rfl ⟨rfl, rfl⟩ (by simp [Value.category]) (Nat.le_of_ble_eq_true rfl) rfl ?_
  refine pw_aload_n dX7_feed_0 rfl ?_
  refine pw_getr dX7_feed_1 lf_X7_29 sh_0 rfl ?_
  refine pw_geti dX7_feed_4 lf_X7_94 sh_243 rfl ?_
  refine pw_bipush dX7_feed_7 (v := 40) (by decide) ?_
  refine pw_icmp_lt dX7_feed_9 (tgt := 23) (by decide) (fun c9 => absurd c9 (by rw [e]; decide)) (fun c9 => ?_)
  exact pw_throwSW hfl tw_75_318_79 dX7_feed_12 dX7_feed_15 dX7_feed_16 dX7_feed_19 dX7_feed_22 rfl ⟨Nat.le_of_ble_eq_true rfl, Nat.le_of_ble_eq_true rfl, Nat.le_of_ble_eq_true rfl, Nat.le_of_ble_eq_true rfl⟩ (⟨rfl, rfl⟩) (Nat.le_of_ble_eq_true rfl) (Nat.le_of_ble_eq_true rfl)

set_option maxRecDepth 100000 in
set_option maxHeartbeats 4000000 in
theorem sp_X7_feed_ok {l : Launch} {G : GC} {ad : Nat → Nat} (hfl : l.stackTraces = false) {h : HP} {x : Int32} {len : Nat} (hlen : h 243 2 = nI len) (hl40 : len < 40)  : PT l G yX7_feed (.code yX7_feed cX7_feed 2 ((Option.some FieldType.int))) { frames := 6, cells := 1, slots := 6, locals := 90 } [.ref (ad 0), .int (x)] SW ad (h) (.inl (some (.int (nI (len + 1))))) (hput (hput h 244 len (vp_nar .char x)) 243 2 (nI (len + 1))) := by
  refine PT.mk (L0 := [some (.ref (ad 0)), some (.int (x))]) RX7 "feed" 1 6 (by decide +kernel) rfl rfl ⟨rfl, rfl⟩ (by simp [Value.category]) (Nat.le_of_ble_eq_true rfl) rfl ?_
  refine pw_aload_n dX7_feed_0 rfl ?_
  refine pw_getr dX7_feed_1 lf_X7_29 sh_0 rfl ?_
  refine pw_geti dX7_feed_4 lf_X7_94 sh_243 rfl ?_
  refine pw_bipush dX7_feed_7 (v := 40) (by decide) ?_
  refine pw_icmp_lt dX7_feed_9 (tgt := 23) (by decide) (fun c9 => ?_) (fun c9 => absurd c9 (fun q => q (by rw [hlen]; exact nI_lt (b := 40) hl40 (by decide))))
  refine pw_aload_n dX7_feed_23 rfl ?_
  refine pw_getr dX7_feed_24 lf_X7_29 sh_0 rfl ?_
  refine pw_iload_n dX7_feed_27 rfl ?_
  refine pw_cV dX7_feed_28 (sp_X3_append hlen hl40) mi_X3_append mv_X3_append ml_X7_320 sh_243 rfl rfl rfl rfl ⟨rfl, rfl⟩ rfl rfl ?_
  exact pw_iretT dX7_feed_31 rfl rfl rfl rfl rfl

set_option maxRecDepth 100000 in
set_option maxHeartbeats 4000000 in
theorem sp_X7_undo_no {l : Launch} {G : GC} {ad : Nat → Nat} (hfl : l.stackTraces = false) {h : HP} (e : h 49 2 = 0) : PT l G yX7_undo (.code yX7_undo cX7_undo 1 ((Option.some FieldType.int))) { frames := 6, cells := 1, slots := 6, locals := 125 } [.ref (ad 0)] SW ad (h) (.inr "java/lang/IllegalStateException") (h) := by
  refine PT.mk (L0 := [some (.ref (ad 0))]) RX7 "undo" 1 6 (by decide +kernel) rfl rfl ⟨rfl, rfl⟩ (by simp [Value.category]) (Nat.le_of_ble_eq_true rfl) rfl ?_
  refine pw_aload_n dX7_undo_0 rfl ?_
  refine pw_getr dX7_undo_1 lf_X7_22 sh_0 rfl ?_
  refine pw_geti dX7_undo_4 lf_X7_317 sh_49 rfl ?_
  refine pw_if_gt dX7_undo_7 (tgt := 21) (by decide) (fun c7 => absurd c7 (by rw [e]; decide)) (fun c7 => ?_)
  exact pw_throwSW hfl tw_75_326_79 dX7_undo_10 dX7_undo_13 dX7_undo_14 dX7_undo_17 dX7_undo_20 rfl ⟨Nat.le_of_ble_eq_true rfl, Nat.le_of_ble_eq_true rfl, Nat.le_of_ble_eq_true rfl, Nat.le_of_ble_eq_true rfl⟩ (⟨rfl, rfl⟩) (Nat.le_of_ble_eq_true rfl) (Nat.le_of_ble_eq_true rfl)

set_option maxRecDepth 100000 in
set_option maxHeartbeats 4000000 in
theorem sp_X7_undo_ok {l : Launch} {G : GC} {ad : Nat → Nat} (hfl : l.stackTraces = false) {h : HP} {k c : Nat} (hk : h 49 1 = nI k) (hk8 : k < 8) (hc : h 49 2 = nI (c + 1)) (hc8 : c < 8)  : PT l G yX7_undo (.code yX7_undo cX7_undo 1 ((Option.some FieldType.int))) { frames := 6, cells := 1, slots := 6, locals := 125 } [.ref (ad 0)] SW ad (h) (.inl (some (.int (tkbH h 1 k c 49 2)))) (tkbH h 1 k c) := by
  refine PT.mk (L0 := [some (.ref (ad 0))]) RX7 "undo" 1 6 (by decide +kernel) rfl rfl ⟨rfl, rfl⟩ (by simp [Value.category]) (Nat.le_of_ble_eq_true rfl) rfl ?_
  refine pw_aload_n dX7_undo_0 rfl ?_
  refine pw_getr dX7_undo_1 lf_X7_22 sh_0 rfl ?_
  refine pw_geti dX7_undo_4 lf_X7_317 sh_49 rfl ?_
  refine pw_if_gt dX7_undo_7 (tgt := 21) (by decide) (fun c7 => ?_) (fun c7 => absurd c7 (by rw [hc]; first | (show ¬ (nI (c + 1) ≤ nI 0); exact nI_ge (Nat.succ_pos c) (by omega)) | exact fun q => q (nI_lt (Nat.succ_pos c) (by omega))))
  refine pw_aload_n dX7_undo_21 rfl ?_
  refine pw_getr dX7_undo_22 lf_X7_22 sh_0 rfl ?_
  refine pw_aload_n dX7_undo_25 rfl ?_
  refine pw_getr dX7_undo_26 lf_X7_10 sh_0 rfl ?_
  refine pw_cVn dX7_undo_29 (sp_X2_takeBack st_1 hk hk8 hc hc8) mi_X2_takeBack mv_X2_takeBack ml_X7_328 sh_49 rfl rfl rfl rfl ⟨rfl, rfl⟩ rfl rfl ?_
  refine pw_aload_n dX7_undo_32 rfl ?_
  refine pw_getr dX7_undo_33 lf_X7_22 sh_0 rfl ?_
  refine pw_geti dX7_undo_36 lf_X7_317 sh_49 rfl ?_
  exact pw_iretT dX7_undo_39 rfl rfl rfl rfl rfl

set_option maxRecDepth 100000 in
set_option maxHeartbeats 4000000 in
theorem sp_X7_save_ok {l : Launch} {G : GC} {ad : Nat → Nat} (hfl : l.stackTraces = false) {h : HP}  : PT l G yX7_save (.code yX7_save cX7_save 1 ((Option.some FieldType.int))) { frames := 4, cells := 0, slots := 0, locals := 103 } [.ref (ad 0)] SW ad (h) (.inl (some (.int (cpS h 25 1 2 5)))) (hput (cpS h 25 1) 0 7 1) := by
  refine PT.mk (L0 := [some (.ref (ad 0))]) RX7 "save" 0 0 (by decide +kernel) rfl rfl ⟨rfl, rfl⟩ (by simp [Value.category]) (Nat.le_of_ble_eq_true rfl) rfl ?_
  refine pw_aload_n dX7_save_0 rfl ?_
  refine pw_getr dX7_save_1 lf_X7_16 sh_0 rfl ?_
  refine pw_aload_n dX7_save_4 rfl ?_
  refine pw_getr dX7_save_5 lf_X7_10 sh_0 rfl ?_
  refine pw_cVn dX7_save_8 (sp_X5_copyFrom st_25 st_1) mi_X5_copyFrom mv_X5_copyFrom ml_X7_331 sh_25 rfl rfl rfl rfl ⟨rfl, rfl⟩ rfl rfl ?_
  refine pw_aload_n dX7_save_11 rfl ?_
  refine pw_iconst dX7_save_12 (v := 1) (by decide) ?_
  refine pw_puti dX7_save_13 lf_X7_48 lp_7_7 sh_0 rfl rfl rfl ?_
  refine pw_aload_n dX7_save_16 rfl ?_
  refine pw_getr dX7_save_17 lf_X7_10 sh_0 rfl ?_
  refine pw_getr dX7_save_20 lf_X7_63 sh_1 rfl ?_
  refine pw_geti dX7_save_23 lf_X7_67 sh_2 rfl ?_
  exact pw_iretT dX7_save_26 rfl rfl rfl rfl rfl

set_option maxRecDepth 100000 in
set_option maxHeartbeats 4000000 in
theorem sp_X7_restore_no {l : Launch} {G : GC} {ad : Nat → Nat} (hfl : l.stackTraces = false) {h : HP} (e : h 0 7 = 0) : PT l G yX7_restore (.code yX7_restore cX7_restore 1 ((Option.some FieldType.int))) { frames := 6, cells := 1, slots := 6, locals := 103 } [.ref (ad 0)] SW ad (h) (.inr "java/lang/IllegalStateException") (h) := by
  refine PT.mk (L0 := [some (.ref (ad 0))]) RX7 "restore" 1 6 (by decide +kernel) rfl rfl ⟨rfl, rfl⟩ (by simp [Value.category]) (Nat.le_of_ble_eq_true rfl) rfl ?_
  refine pw_aload_n dX7_restore_0 rfl ?_
  refine pw_geti dX7_restore_1 lf_X7_48 sh_0 rfl ?_
  refine pw_if_ne dX7_restore_4 (tgt := 18) (by decide) (fun c4 => absurd c4 (fun q => q e)) (fun c4 => ?_)
  exact pw_throwSW hfl tw_75_334_79 dX7_restore_7 dX7_restore_10 dX7_restore_11 dX7_restore_14 dX7_restore_17 rfl ⟨Nat.le_of_ble_eq_true rfl, Nat.le_of_ble_eq_true rfl, Nat.le_of_ble_eq_true rfl, Nat.le_of_ble_eq_true rfl⟩ (⟨rfl, rfl⟩) (Nat.le_of_ble_eq_true rfl) (Nat.le_of_ble_eq_true rfl)

set_option maxRecDepth 100000 in
set_option maxHeartbeats 4000000 in
theorem sp_X7_restore_ok {l : Launch} {G : GC} {ad : Nat → Nat} (hfl : l.stackTraces = false) {h : HP} (e : ¬ h 0 7 = 0) : PT l G yX7_restore (.code yX7_restore cX7_restore 1 ((Option.some FieldType.int))) { frames := 6, cells := 1, slots := 6, locals := 103 } [.ref (ad 0)] SW ad (h) (.inl (some (.int (cpS h 1 25 2 5)))) (hput (cpS h 1 25) 49 2 0) := by
  refine PT.mk (L0 := [some (.ref (ad 0))]) RX7 "restore" 1 6 (by decide +kernel) rfl rfl ⟨rfl, rfl⟩ (by simp [Value.category]) (Nat.le_of_ble_eq_true rfl) rfl ?_
  refine pw_aload_n dX7_restore_0 rfl ?_
  refine pw_geti dX7_restore_1 lf_X7_48 sh_0 rfl ?_
  refine pw_if_ne dX7_restore_4 (tgt := 18) (by decide) (fun c4 => ?_) (fun c4 => absurd c4 (e))
  refine pw_aload_n dX7_restore_18 rfl ?_
  refine pw_getr dX7_restore_19 lf_X7_10 sh_0 rfl ?_
  refine pw_aload_n dX7_restore_22 rfl ?_
  refine pw_getr dX7_restore_23 lf_X7_16 sh_0 rfl ?_
  refine pw_cVn dX7_restore_26 (sp_X5_copyFrom st_1 st_25) mi_X5_copyFrom mv_X5_copyFrom ml_X7_331 sh_1 rfl rfl rfl rfl ⟨rfl, rfl⟩ rfl rfl ?_
  refine pw_aload_n dX7_restore_29 rfl ?_
  refine pw_getr dX7_restore_30 lf_X7_22 sh_0 rfl ?_
  refine pw_iconst dX7_restore_33 (v := 0) (by decide) ?_
  refine pw_puti dX7_restore_34 lf_X7_317 lp_2_2 sh_49 rfl rfl rfl ?_
  refine pw_aload_n dX7_restore_37 rfl ?_
  refine pw_getr dX7_restore_38 lf_X7_10 sh_0 rfl ?_
  refine pw_getr dX7_restore_41 lf_X7_63 sh_1 rfl ?_
  refine pw_geti dX7_restore_44 lf_X7_67 sh_2 rfl ?_
  exact pw_iretT dX7_restore_47 rfl rfl rfl rfl rfl

