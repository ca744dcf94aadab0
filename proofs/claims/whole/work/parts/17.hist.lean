/-! COPIES OF STATES, AND THE HISTORY -/
section PWQ
variable {l : Launch} {G : GC} {cc : ByteArray} {own : String} {nL : Nat} {ret : Option FieldType} {hh : List (Nat × Nat × Nat × Nat)} {R : Room} {CX : gCtx} {E : gEnd}
variable {pc : Nat} {L : List (Option Value)} {rest : List Value} {S : List Sh} {ad : Nat → Nat} {h : HP} {cells slots : Nat}
theorem pw_alenR {p : Nat} {qs : List (Option Nat)} (hd : decode cc pc = .ok (.arraylength, 1)) (hS : S[p]? = some (.inr (.inr qs)))
    (kk : PW l G cc own nL ret hh R CX E (pc + 1) L (.int (nI qs.length) :: rest) S ad h cells slots) : PW l G cc own nL ret hh R CX E pc L (.ref (ad p) :: rest) S ad h cells slots := by
  intro p' e s m args below meth c A H locs ls F hP hD hS' hl'
  obtain ⟨⟨hx, hb, hml, hown, hts⟩, hr, hlk, htab, hA, hE, hcx⟩ := id F
  exact va_alen hx hb hE.1 hP p 4 (gW_at (ad := ad) (tyC := G.2.1) (h := h) hS) rfl rfl hd (kk p' e s m args below meth c A H locs ls F hP hD hS' hl')
theorem pw_aretF {q q1 : Nat} {h1 : HP} {cn : String} {mc ms : Nat} (hd : decode cc pc = .ok (.areturn, 1)) (hret : ret = some (.object cn)) (hc : (Nat.ble cells mc && Nat.ble slots ms) = true)
    (hv : q = q1) (hhh : h = h1) : PW l G cc own nL ret hh R CX (gME G S ad (gR S ad (some (.ref (ad q1))) h1) gNo mc ms) pc L [.ref (ad q)] S ad h cells slots := by
  rw [Bool.and_eq_true] at hc
  exact pw_areturn hd hret (Nat.le_of_ble_eq_true hc.1) (Nat.le_of_ble_eq_true hc.2) ⟨by rw [hv], rfl, rfl, hhh⟩
end PWQ
/-- the places of a state -/
def isSt (p : Nat) : Prop :=
  SW[p]? = some (.inr (.inl (5, [.inr (some (some (p + 1))), .inr (some (some (p + 12))), .inr (some (some (p + 15))), .inr (some (some (p + 22)))]))) ∧
  SW[p + 1]? = some (.inr (.inl (4, [.inr (some (some (p + 2))), .inr (some (some (p + 4))), .inr (some (some (p + 6))), .inr (some (some (p + 8))), .inr (some (some (p + 10))), .inr none, .inr none, .inr none]))) ∧
  isTab SW (p + 2) (p + 3) 24 5 ∧ isTab SW (p + 4) (p + 5) 24 4 ∧ isTab SW (p + 6) (p + 7) 24 4 ∧ isTab SW (p + 8) (p + 9) 24 12 ∧ isTab SW (p + 10) (p + 11) 12 3 ∧
  SW[p + 12]? = some (.inr (.inl (0, [.inr (some (some (p + 13))), .inr none]))) ∧ isTab SW (p + 13) (p + 14) 16 7 ∧
  SW[p + 15]? = some (.inr (.inl (1, [.inr (some (some (p + 16))), .inr (some (some (p + 18))), .inr (some (some (p + 20))), .inr none]))) ∧ isTab SW (p + 16) (p + 17) 8 1 ∧ isTab SW (p + 18) (p + 19) 8 16 ∧ isTab SW (p + 20) (p + 21) 8 16 ∧ isTab SW (p + 22) (p + 23) 1 3
def cp1 (h : HP) (p q k : Nat) : HP := hput h p k (h q k)
def cpL (h : HP) (p q : Nat) : HP := cp1 (cp1 (cp1 (hcpy (hcpy (hcpy (hcpy (hcpy h (q + 3) (p + 3) 0 0 (24 * 5)) (q + 5) (p + 5) 0 0 (24 * 4)) (q + 7) (p + 7) 0 0 (24 * 4)) (q + 9) (p + 9) 0 0 (24 * 12)) (q + 11) (p + 11) 0 0 (12 * 3)) (p + 1) (q + 1) 5) (p + 1) (q + 1) 6) (p + 1) (q + 1) 7
def cpB (h : HP) (p q : Nat) : HP := cp1 (hcpy h (q + 14) (p + 14) 0 0 (16 * 7)) (p + 12) (q + 12) 1
def cpC (h : HP) (p q : Nat) : HP := cp1 (hcpy (hcpy (hcpy h (q + 17) (p + 17) 0 0 (8 * 1)) (q + 19) (p + 19) 0 0 (8 * 16)) (q + 21) (p + 21) 0 0 (8 * 16)) (p + 15) (q + 15) 3
def cpS (h : HP) (p q : Nat) : HP := hcpy (cpC (cpB (cpL h p q) p q) p q) (q + 23) (p + 23) 0 0 (1 * 3)
theorem har8 {k : Nat} (hk : k < 8) : [some 51, some 75, some 99, some 123, some 147, some 171, some 195, some 219][k]? = some (some (51 + 24 * k)) := by
  rcases (show k = 0 ∨ k = 1 ∨ k = 2 ∨ k = 3 ∨ k = 4 ∨ k = 5 ∨ k = 6 ∨ k = 7 by omega) with rfl | rfl | rfl | rfl | rfl | rfl | rfl | rfl <;> rfl
def remH (h : HP) (p k c : Nat) : HP := hput (hput (cpS h (51 + 24 * k) p) 49 1 (nI ((k + 1) % 8))) 49 2 (nI (min (c + 1) 8))
def tkbH (h : HP) (p k c : Nat) : HP := cpS (hput (hput h 49 1 (nI ((k + 7) % 8))) 49 2 (nI c)) p (51 + 24 * ((k + 7) % 8))
theorem hcpy_o (h : HP) (a b sp dp n : Nat) {q : Nat} (hq : q ≠ b) : hcpy h a b sp dp n q = h q := by simp [hcpy, hq]
theorem cp1_o (h : HP) (p q k : Nat) {a : Nat} (ha : a ≠ p) : cp1 h p q k a = h a := by funext j; simp [cp1, hput, ha]
theorem cpS_o (h : HP) (p q : Nat) {a : Nat} (ha : a < p ∨ p + 23 < a) : cpS h p q a = h a := by
  unfold cpS cpC cpB cpL
  rw [hcpy_o _ _ _ _ _ _ (by omega), cp1_o _ _ _ _ (by omega), hcpy_o _ _ _ _ _ _ (by omega), hcpy_o _ _ _ _ _ _ (by omega), hcpy_o _ _ _ _ _ _ (by omega), cp1_o _ _ _ _ (by omega), hcpy_o _ _ _ _ _ _ (by omega), cp1_o _ _ _ _ (by omega), cp1_o _ _ _ _ (by omega), cp1_o _ _ _ _ (by omega), hcpy_o _ _ _ _ _ _ (by omega), hcpy_o _ _ _ _ _ _ (by omega), hcpy_o _ _ _ _ _ _ (by omega), hcpy_o _ _ _ _ _ _ (by omega), hcpy_o _ _ _ _ _ _ (by omega)]
theorem st_1 : isSt 1 := ⟨sh_1, sh_2, tq_3, tq_5, tq_7, tq_9, tq_11, sh_13, tq_14, sh_16, tq_17, tq_19, tq_21, tq_23⟩
theorem st_25 : isSt 25 := ⟨sh_25, sh_26, tq_27, tq_29, tq_31, tq_33, tq_35, sh_37, tq_38, sh_40, tq_41, tq_43, tq_45, tq_47⟩
theorem st_51 : isSt 51 := ⟨sh_51, sh_52, tq_53, tq_55, tq_57, tq_59, tq_61, sh_63, tq_64, sh_66, tq_67, tq_69, tq_71, tq_73⟩
theorem st_75 : isSt 75 := ⟨sh_75, sh_76, tq_77, tq_79, tq_81, tq_83, tq_85, sh_87, tq_88, sh_90, tq_91, tq_93, tq_95, tq_97⟩
theorem st_99 : isSt 99 := ⟨sh_99, sh_100, tq_101, tq_103, tq_105, tq_107, tq_109, sh_111, tq_112, sh_114, tq_115, tq_117, tq_119, tq_121⟩
theorem st_123 : isSt 123 := ⟨sh_123, sh_124, tq_125, tq_127, tq_129, tq_131, tq_133, sh_135, tq_136, sh_138, tq_139, tq_141, tq_143, tq_145⟩
theorem st_147 : isSt 147 := ⟨sh_147, sh_148, tq_149, tq_151, tq_153, tq_155, tq_157, sh_159, tq_160, sh_162, tq_163, tq_165, tq_167, tq_169⟩
theorem st_171 : isSt 171 := ⟨sh_171, sh_172, tq_173, tq_175, tq_177, tq_179, tq_181, sh_183, tq_184, sh_186, tq_187, tq_189, tq_191, tq_193⟩
theorem st_195 : isSt 195 := ⟨sh_195, sh_196, tq_197, tq_199, tq_201, tq_203, tq_205, sh_207, tq_208, sh_210, tq_211, tq_213, tq_215, tq_217⟩
theorem st_219 : isSt 219 := ⟨sh_219, sh_220, tq_221, tq_223, tq_225, tq_227, tq_229, sh_231, tq_232, sh_234, tq_235, tq_237, tq_239, tq_241⟩
theorem st_h {k : Nat} (hk : k < 8) : isSt (51 + 24 * k) := by
  rcases (show k = 0 ∨ k = 1 ∨ k = 2 ∨ k = 3 ∨ k = 4 ∨ k = 5 ∨ k = 6 ∨ k = 7 by omega) with rfl | rfl | rfl | rfl | rfl | rfl | rfl | rfl
  · exact st_51
  · exact st_75
  · exact st_99
  · exact st_123
  · exact st_147
  · exact st_171
  · exact st_195
  · exact st_219
set_option maxRecDepth 100000 in
set_option maxHeartbeats 4000000 in
theorem sp_X4_copyFrom {l : Launch} {G : GC} {ad : Nat → Nat} {h : HP} {p q : Nat} (hp : isSt p) (hq : isSt q) : PF l G yX4_copyFrom (.code yX4_copyFrom cX4_copyFrom 2 ((Option.none : Option FieldType))) { frames := 2, cells := 0, slots := 0, locals := 61 } [.ref (ad (p + 1)), .ref (ad (q + 1))] SW ad (h) (none) (cpL h p q) := by
  refine PF.mk (L0 := [some (.ref (ad (p + 1))), some (.ref (ad (q + 1)))]) RX4 "copyFrom" 0 0 (by decide +kernel) rfl rfl ⟨rfl, rfl⟩ (by simp [Value.category]) (Nat.le_of_ble_eq_true rfl) rfl ?_
  refine pw_aload_n dX4_copyFrom_0 rfl ?_
  refine pw_getr dX4_copyFrom_1 lf_X4_14 hp.2.1 rfl ?_
  refine pw_aload_n dX4_copyFrom_4 rfl ?_
  refine pw_getr dX4_copyFrom_5 lf_X4_14 hq.2.1 rfl ?_
  refine pw_cVn dX4_copyFrom_8 (sp_X6_copyFrom hp.2.2.1 hq.2.2.1) mi_X6_copyFrom mv_X6_copyFrom ml_X4_42 (hp.2.2.1.1) rfl rfl rfl rfl ⟨rfl, rfl⟩ rfl rfl ?_
  refine pw_aload_n dX4_copyFrom_11 rfl ?_
  refine pw_getr dX4_copyFrom_12 lf_X4_20 hp.2.1 rfl ?_
  refine pw_aload_n dX4_copyFrom_15 rfl ?_
  refine pw_getr dX4_copyFrom_16 lf_X4_20 hq.2.1 rfl ?_
  refine pw_cVn dX4_copyFrom_19 (sp_X6_copyFrom hp.2.2.2.1 hq.2.2.2.1) mi_X6_copyFrom mv_X6_copyFrom ml_X4_42 (hp.2.2.2.1.1) rfl rfl rfl rfl ⟨rfl, rfl⟩ rfl rfl ?_
  refine pw_aload_n dX4_copyFrom_22 rfl ?_
  refine pw_getr dX4_copyFrom_23 lf_X4_23 hp.2.1 rfl ?_
  refine pw_aload_n dX4_copyFrom_26 rfl ?_
  refine pw_getr dX4_copyFrom_27 lf_X4_23 hq.2.1 rfl ?_
  refine pw_cVn dX4_copyFrom_30 (sp_X6_copyFrom hp.2.2.2.2.1 hq.2.2.2.2.1) mi_X6_copyFrom mv_X6_copyFrom ml_X4_42 (hp.2.2.2.2.1.1) rfl rfl rfl rfl ⟨rfl, rfl⟩ rfl rfl ?_
  refine pw_aload_n dX4_copyFrom_33 rfl ?_
  refine pw_getr dX4_copyFrom_34 lf_X4_26 hp.2.1 rfl ?_
  refine pw_aload_n dX4_copyFrom_37 rfl ?_
  refine pw_getr dX4_copyFrom_38 lf_X4_26 hq.2.1 rfl ?_
  refine pw_cVn dX4_copyFrom_41 (sp_X6_copyFrom hp.2.2.2.2.2.1 hq.2.2.2.2.2.1) mi_X6_copyFrom mv_X6_copyFrom ml_X4_42 (hp.2.2.2.2.2.1.1) rfl rfl rfl rfl ⟨rfl, rfl⟩ rfl rfl ?_
  refine pw_aload_n dX4_copyFrom_44 rfl ?_
  refine pw_getr dX4_copyFrom_45 lf_X4_29 hp.2.1 rfl ?_
  refine pw_aload_n dX4_copyFrom_48 rfl ?_
  refine pw_getr dX4_copyFrom_49 lf_X4_29 hq.2.1 rfl ?_
  refine pw_cVn dX4_copyFrom_52 (sp_X6_copyFrom hp.2.2.2.2.2.2.1 hq.2.2.2.2.2.2.1) mi_X6_copyFrom mv_X6_copyFrom ml_X4_42 (hp.2.2.2.2.2.2.1.1) rfl rfl rfl rfl ⟨rfl, rfl⟩ rfl rfl ?_
  refine pw_aload_n dX4_copyFrom_55 rfl ?_
  refine pw_aload_n dX4_copyFrom_56 rfl ?_
  refine pw_geti dX4_copyFrom_57 lf_X4_32 hq.2.1 rfl ?_
  refine pw_puti dX4_copyFrom_60 lf_X4_32 lp_4_5 hp.2.1 rfl rfl rfl ?_
  refine pw_aload_n dX4_copyFrom_63 rfl ?_
  refine pw_aload_n dX4_copyFrom_64 rfl ?_
  refine pw_geti dX4_copyFrom_65 lf_X4_36 hq.2.1 rfl ?_
  refine pw_puti dX4_copyFrom_68 lf_X4_36 lp_4_6 hp.2.1 rfl rfl rfl ?_
  refine pw_aload_n dX4_copyFrom_71 rfl ?_
  refine pw_aload_n dX4_copyFrom_72 rfl ?_
  refine pw_geti dX4_copyFrom_73 lf_X4_39 hq.2.1 rfl ?_
  refine pw_puti dX4_copyFrom_76 lf_X4_39 lp_4_7 hp.2.1 rfl rfl rfl ?_
  exact pw_retF dX4_copyFrom_79 rfl rfl rfl

set_option maxRecDepth 100000 in
set_option maxHeartbeats 4000000 in
theorem sp_X0_copyFrom {l : Launch} {G : GC} {ad : Nat → Nat} {h : HP} {p q : Nat} (hp : isSt p) (hq : isSt q) : PF l G yX0_copyFrom (.code yX0_copyFrom cX0_copyFrom 2 ((Option.none : Option FieldType))) { frames := 2, cells := 0, slots := 0, locals := 61 } [.ref (ad (p + 12)), .ref (ad (q + 12))] SW ad (h) (none) (cpB h p q) := by
  refine PF.mk (L0 := [some (.ref (ad (p + 12))), some (.ref (ad (q + 12)))]) RX0 "copyFrom" 0 0 (by decide +kernel) rfl rfl ⟨rfl, rfl⟩ (by simp [Value.category]) (Nat.le_of_ble_eq_true rfl) rfl ?_
  refine pw_aload_n dX0_copyFrom_0 rfl ?_
  refine pw_getr dX0_copyFrom_1 lf_X0_14 hp.2.2.2.2.2.2.2.1 rfl ?_
  refine pw_aload_n dX0_copyFrom_4 rfl ?_
  refine pw_getr dX0_copyFrom_5 lf_X0_14 hq.2.2.2.2.2.2.2.1 rfl ?_
  refine pw_cVn dX0_copyFrom_8 (sp_X6_copyFrom hp.2.2.2.2.2.2.2.2.1 hq.2.2.2.2.2.2.2.2.1) mi_X6_copyFrom mv_X6_copyFrom ml_X0_24 (hp.2.2.2.2.2.2.2.2.1.1) rfl rfl rfl rfl ⟨rfl, rfl⟩ rfl rfl ?_
  refine pw_aload_n dX0_copyFrom_11 rfl ?_
  refine pw_aload_n dX0_copyFrom_12 rfl ?_
  refine pw_geti dX0_copyFrom_13 lf_X0_20 hq.2.2.2.2.2.2.2.1 rfl ?_
  refine pw_puti dX0_copyFrom_16 lf_X0_20 lp_0_1 hp.2.2.2.2.2.2.2.1 rfl rfl rfl ?_
  exact pw_retF dX0_copyFrom_19 rfl rfl rfl

set_option maxRecDepth 100000 in
set_option maxHeartbeats 4000000 in
theorem sp_X1_copyFrom {l : Launch} {G : GC} {ad : Nat → Nat} {h : HP} {p q : Nat} (hp : isSt p) (hq : isSt q) : PF l G yX1_copyFrom (.code yX1_copyFrom cX1_copyFrom 2 ((Option.none : Option FieldType))) { frames := 2, cells := 0, slots := 0, locals := 61 } [.ref (ad (p + 15)), .ref (ad (q + 15))] SW ad (h) (none) (cpC h p q) := by
  refine PF.mk (L0 := [some (.ref (ad (p + 15))), some (.ref (ad (q + 15)))]) RX1 "copyFrom" 0 0 (by decide +kernel) rfl rfl ⟨rfl, rfl⟩ (by simp [Value.category]) (Nat.le_of_ble_eq_true rfl) rfl ?_
  refine pw_aload_n dX1_copyFrom_0 rfl ?_
  refine pw_getr dX1_copyFrom_1 lf_X1_14 hp.2.2.2.2.2.2.2.2.2.1 rfl ?_
  refine pw_aload_n dX1_copyFrom_4 rfl ?_
  refine pw_getr dX1_copyFrom_5 lf_X1_14 hq.2.2.2.2.2.2.2.2.2.1 rfl ?_
  refine pw_cVn dX1_copyFrom_8 (sp_X6_copyFrom hp.2.2.2.2.2.2.2.2.2.2.1 hq.2.2.2.2.2.2.2.2.2.2.1) mi_X6_copyFrom mv_X6_copyFrom ml_X1_30 (hp.2.2.2.2.2.2.2.2.2.2.1.1) rfl rfl rfl rfl ⟨rfl, rfl⟩ rfl rfl ?_
  refine pw_aload_n dX1_copyFrom_11 rfl ?_
  refine pw_getr dX1_copyFrom_12 lf_X1_20 hp.2.2.2.2.2.2.2.2.2.1 rfl ?_
  refine pw_aload_n dX1_copyFrom_15 rfl ?_
  refine pw_getr dX1_copyFrom_16 lf_X1_20 hq.2.2.2.2.2.2.2.2.2.1 rfl ?_
  refine pw_cVn dX1_copyFrom_19 (sp_X6_copyFrom hp.2.2.2.2.2.2.2.2.2.2.2.1 hq.2.2.2.2.2.2.2.2.2.2.2.1) mi_X6_copyFrom mv_X6_copyFrom ml_X1_30 (hp.2.2.2.2.2.2.2.2.2.2.2.1.1) rfl rfl rfl rfl ⟨rfl, rfl⟩ rfl rfl ?_
  refine pw_aload_n dX1_copyFrom_22 rfl ?_
  refine pw_getr dX1_copyFrom_23 lf_X1_23 hp.2.2.2.2.2.2.2.2.2.1 rfl ?_
  refine pw_aload_n dX1_copyFrom_26 rfl ?_
  refine pw_getr dX1_copyFrom_27 lf_X1_23 hq.2.2.2.2.2.2.2.2.2.1 rfl ?_
  refine pw_cVn dX1_copyFrom_30 (sp_X6_copyFrom hp.2.2.2.2.2.2.2.2.2.2.2.2.1 hq.2.2.2.2.2.2.2.2.2.2.2.2.1) mi_X6_copyFrom mv_X6_copyFrom ml_X1_30 (hp.2.2.2.2.2.2.2.2.2.2.2.2.1.1) rfl rfl rfl rfl ⟨rfl, rfl⟩ rfl rfl ?_
  refine pw_aload_n dX1_copyFrom_33 rfl ?_
  refine pw_aload_n dX1_copyFrom_34 rfl ?_
  refine pw_geti dX1_copyFrom_35 lf_X1_26 hq.2.2.2.2.2.2.2.2.2.1 rfl ?_
  refine pw_puti dX1_copyFrom_38 lf_X1_26 lp_1_3 hp.2.2.2.2.2.2.2.2.2.1 rfl rfl rfl ?_
  exact pw_retF dX1_copyFrom_41 rfl rfl rfl

set_option maxRecDepth 100000 in
set_option maxHeartbeats 4000000 in
theorem sp_X5_copyFrom {l : Launch} {G : GC} {ad : Nat → Nat} {h : HP} {p q : Nat} (hp : isSt p) (hq : isSt q) : PF l G yX5_copyFrom (.code yX5_copyFrom cX5_copyFrom 2 ((Option.none : Option FieldType))) { frames := 3, cells := 0, slots := 0, locals := 82 } [.ref (ad p), .ref (ad q)] SW ad (h) (none) (cpS h p q) := by
  refine PF.mk (L0 := [some (.ref (ad p)), some (.ref (ad q))]) RX5 "copyFrom" 0 0 (by decide +kernel) rfl rfl ⟨rfl, rfl⟩ (by simp [Value.category]) (Nat.le_of_ble_eq_true rfl) rfl ?_
  refine pw_aload_n dX5_copyFrom_0 rfl ?_
  refine pw_getr dX5_copyFrom_1 lf_X5_12 hp.1 rfl ?_
  refine pw_aload_n dX5_copyFrom_4 rfl ?_
  refine pw_getr dX5_copyFrom_5 lf_X5_12 hq.1 rfl ?_
  refine pw_cVn dX5_copyFrom_8 (sp_X4_copyFrom hp hq) mi_X4_copyFrom mv_X4_copyFrom ml_X5_45 hp.2.1 rfl rfl rfl rfl ⟨rfl, rfl⟩ rfl rfl ?_
  refine pw_aload_n dX5_copyFrom_11 rfl ?_
  refine pw_getr dX5_copyFrom_12 lf_X5_21 hp.1 rfl ?_
  refine pw_aload_n dX5_copyFrom_15 rfl ?_
  refine pw_getr dX5_copyFrom_16 lf_X5_21 hq.1 rfl ?_
  refine pw_cVn dX5_copyFrom_19 (sp_X0_copyFrom hp hq) mi_X0_copyFrom mv_X0_copyFrom ml_X5_49 hp.2.2.2.2.2.2.2.1 rfl rfl rfl rfl ⟨rfl, rfl⟩ rfl rfl ?_
  refine pw_aload_n dX5_copyFrom_22 rfl ?_
  refine pw_getr dX5_copyFrom_23 lf_X5_28 hp.1 rfl ?_
  refine pw_aload_n dX5_copyFrom_26 rfl ?_
  refine pw_getr dX5_copyFrom_27 lf_X5_28 hq.1 rfl ?_
  refine pw_cVn dX5_copyFrom_30 (sp_X1_copyFrom hp hq) mi_X1_copyFrom mv_X1_copyFrom ml_X5_52 hp.2.2.2.2.2.2.2.2.2.1 rfl rfl rfl rfl ⟨rfl, rfl⟩ rfl rfl ?_
  refine pw_aload_n dX5_copyFrom_33 rfl ?_
  refine pw_getr dX5_copyFrom_34 lf_X5_37 hp.1 rfl ?_
  refine pw_aload_n dX5_copyFrom_37 rfl ?_
  refine pw_getr dX5_copyFrom_38 lf_X5_37 hq.1 rfl ?_
  refine pw_cVn dX5_copyFrom_41 (sp_X6_copyFrom hp.2.2.2.2.2.2.2.2.2.2.2.2.2 hq.2.2.2.2.2.2.2.2.2.2.2.2.2) mi_X6_copyFrom mv_X6_copyFrom ml_X5_55 (hp.2.2.2.2.2.2.2.2.2.2.2.2.2.1) rfl rfl rfl rfl ⟨rfl, rfl⟩ rfl rfl ?_
  exact pw_retF dX5_copyFrom_44 rfl rfl rfl

set_option maxRecDepth 100000 in
set_option maxHeartbeats 4000000 in
theorem sp_X2_stateAt {l : Launch} {G : GC} {ad : Nat → Nat} {h : HP} {k : Nat} (hk : k < 8) : PF l G yX2_stateAt (.code yX2_stateAt cX2_stateAt 2 ((Option.some (FieldType.object "BottlingBook$State")))) { frames := 1, cells := 0, slots := 0, locals := 22 } [.ref (ad 49), .int (nI k)] SW ad (h) (some (.ref (ad (51 + 24 * k)))) (h) := by
  refine PF.mk (L0 := [some (.ref (ad 49)), some (.int (nI k))]) RX2 "stateAt" 0 0 (by decide +kernel) rfl rfl ⟨rfl, rfl⟩ (by simp [Value.category]) (Nat.le_of_ble_eq_true rfl) rfl ?_
  refine pw_iload_n dX2_stateAt_0 rfl ?_
  refine pw_iconst dX2_stateAt_1 (v := 0) (by decide) ?_
  refine pw_aload_n dX2_stateAt_2 rfl ?_
  refine pw_getr dX2_stateAt_3 lf_X2_11 sh_49 rfl ?_
  refine pw_alenR dX2_stateAt_6 sh_50 ?_
  rw [show nI (List.length ([some 51, some 75, some 99, some 123, some 147, some 171, some 195, some 219] : List (Option Nat))) = nI 8 from rfl]
  refine pw_iconst dX2_stateAt_7 (v := 1) (by decide) ?_
  refine pw_isub dX2_stateAt_8 ?_
  refine pw_cS dX2_stateAt_9 (sp_X7_isWithin) mi_X7_isWithin ms_X7_isWithin ml_X2_25 rfl rfl ⟨rfl, rfl⟩ rfl rfl ?_
  refine pw_if_eq dX2_stateAt_12 (tgt := 24) (by decide) (fun c12 => absurd c12 ((by rw [show (nI 8 - 1 : Int32) = nI 7 from nI_pred 7]; simp [b2i, nI_pos' (show k < 2 ^ 31 by omega), nI_le (show k ≤ 7 by omega) (show 7 < 2 ^ 31 by decide)]))) (fun c12 => ?_)
  refine pw_aload_n dX2_stateAt_15 rfl ?_
  refine pw_getr dX2_stateAt_16 lf_X2_11 sh_49 rfl ?_
  refine pw_iload_n dX2_stateAt_19 rfl ?_
  refine pw_aaload dX2_stateAt_20 sh_50 (vpin (N := 8) hk (by decide)) (by rw [nI_cl (by omega)]; exact har8 hk) ?_
  refine pw_goto dX2_stateAt_21 (tgt := 25) (by decide) ?_
  exact pw_aretF dX2_stateAt_25 rfl rfl rfl rfl

set_option maxRecDepth 100000 in
set_option maxHeartbeats 4000000 in
theorem sp_X2_remember {l : Launch} {G : GC} {ad : Nat → Nat} {h : HP} {p : Nat} (hp : isSt p) {k c : Nat} (hk : h 49 1 = nI k) (hk8 : k < 8) (hc : h 49 2 = nI c) (hc8 : c ≤ 8) : PF l G yX2_remember (.code yX2_remember cX2_remember 3 ((Option.none : Option FieldType))) { frames := 4, cells := 0, slots := 0, locals := 103 } [.ref (ad 49), .ref (ad p)] SW ad (h) (none) (remH h p k c) := by
  refine PF.mk (L0 := [some (.ref (ad 49)), some (.ref (ad p)), none]) RX2 "remember" 0 0 (by decide +kernel) rfl rfl ⟨rfl, rfl⟩ (by simp [Value.category]) (Nat.le_of_ble_eq_true rfl) rfl ?_
  refine pw_aload_n dX2_remember_0 rfl ?_
  refine pw_aload_n dX2_remember_1 rfl ?_
  refine pw_geti dX2_remember_2 lf_X2_17 sh_49 rfl ?_
  rw [hk]
  refine pw_cV dX2_remember_5 (sp_X2_stateAt hk8) mi_X2_stateAt mv_X2_stateAt ml_X2_29 sh_49 rfl rfl rfl rfl ⟨rfl, rfl⟩ rfl rfl ?_
  refine pw_astore_n dX2_remember_8 (by decide) rfl ?_
  refine pw_aload_n dX2_remember_9 rfl ?_
  refine pw_ifnull dX2_remember_10 ?_
  refine pw_aload_n dX2_remember_13 rfl ?_
  refine pw_aload_n dX2_remember_14 rfl ?_
  refine pw_cVn dX2_remember_15 (sp_X5_copyFrom (st_h hk8) hp) mi_X5_copyFrom mv_X5_copyFrom ml_X2_33 (st_h hk8).1 rfl rfl rfl rfl ⟨rfl, rfl⟩ rfl rfl ?_
  refine pw_aload_n dX2_remember_18 rfl ?_
  refine pw_aload_n dX2_remember_19 rfl ?_
  refine pw_geti dX2_remember_20 lf_X2_17 sh_49 rfl ?_
  refine pw_iconst dX2_remember_23 (v := 1) (by decide) ?_
  refine pw_iadd dX2_remember_24 ?_
  refine pw_bipush dX2_remember_25 (v := 8) (by decide) ?_
  refine pw_irem dX2_remember_27 (by decide) ?_
  rw [show cpS h (51 + 24 * k) p 49 1 = nI k from by rw [cpS_o _ _ _ (by omega)]; exact hk, nI_1, show (8 : Int32) = nI 8 from rfl, pk_rem (by omega) (by decide) (by decide)]
  refine pw_puti dX2_remember_28 lf_X2_17 lp_2_1 sh_49 rfl rfl rfl ?_
  refine pw_aload_n dX2_remember_31 rfl ?_
  refine pw_aload_n dX2_remember_32 rfl ?_
  refine pw_geti dX2_remember_33 lf_X2_21 sh_49 rfl ?_
  refine pw_iconst dX2_remember_36 (v := 1) (by decide) ?_
  refine pw_iadd dX2_remember_37 ?_
  refine pw_bipush dX2_remember_38 (v := 8) (by decide) ?_
  rw [show hput (cpS h (51 + 24 * k) p) 49 1 (nI ((k + 1) % 8)) 49 2 = nI c from by rw [show hput (cpS h (51 + 24 * k) p) 49 1 (nI ((k + 1) % 8)) 49 2 = cpS h (51 + 24 * k) p 49 2 from by simp [hput], cpS_o _ _ _ (by omega)]; exact hc, nI_1]
  refine pw_min dX2_remember_40 mm_X2_37 mw_min ⟨Nat.le_of_ble_eq_true rfl, Nat.le_of_ble_eq_true rfl, Nat.le_of_ble_eq_true rfl, Nat.le_of_ble_eq_true rfl⟩ ?_
  rw [show (if (8 : Int32) < nI (c + 1) then (8 : Int32) else nI (c + 1)) = nI (min (c + 1) 8) from by rw [show (8 : Int32) = nI 8 from rfl]; by_cases e9 : 8 < c + 1; rw [if_pos (nI_lt e9 (by omega)), Nat.min_eq_right (by omega)]; rw [if_neg (nI_nlt (by omega) (by decide)), Nat.min_eq_left (by omega)]]
  refine pw_puti dX2_remember_43 lf_X2_21 lp_2_2 sh_49 rfl rfl rfl ?_
  exact pw_retF dX2_remember_46 rfl rfl rfl

set_option maxRecDepth 100000 in
set_option maxHeartbeats 4000000 in
theorem sp_X2_takeBack {l : Launch} {G : GC} {ad : Nat → Nat} {h : HP} {p : Nat} (hp : isSt p) {k c : Nat} (hk : h 49 1 = nI k) (hk8 : k < 8) (hc : h 49 2 = nI (c + 1)) (hc8 : c < 8) : PF l G yX2_takeBack (.code yX2_takeBack cX2_takeBack 3 ((Option.none : Option FieldType))) { frames := 4, cells := 0, slots := 0, locals := 103 } [.ref (ad 49), .ref (ad p)] SW ad (h) (none) (tkbH h p k c) := by
  refine PF.mk (L0 := [some (.ref (ad 49)), some (.ref (ad p)), none]) RX2 "takeBack" 0 0 (by decide +kernel) rfl rfl ⟨rfl, rfl⟩ (by simp [Value.category]) (Nat.le_of_ble_eq_true rfl) rfl ?_
  refine pw_aload_n dX2_takeBack_0 rfl ?_
  refine pw_aload_n dX2_takeBack_1 rfl ?_
  refine pw_geti dX2_takeBack_2 lf_X2_17 sh_49 rfl ?_
  refine pw_bipush dX2_takeBack_5 (v := 8) (by decide) ?_
  refine pw_iadd dX2_takeBack_7 ?_
  refine pw_iconst dX2_takeBack_8 (v := 1) (by decide) ?_
  refine pw_isub dX2_takeBack_9 ?_
  refine pw_bipush dX2_takeBack_10 (v := 8) (by decide) ?_
  refine pw_irem dX2_takeBack_12 (by decide) ?_
  rw [hk, show (8 : Int32) = nI 8 from rfl, nI_add, show nI (k + 8) - 1 = nI (k + 7) from nI_pred (k + 7), pk_rem (by omega) (by decide) (by decide)]
  refine pw_puti dX2_takeBack_13 lf_X2_17 lp_2_1 sh_49 rfl rfl rfl ?_
  refine pw_aload_n dX2_takeBack_16 rfl ?_
  refine pw_dup dX2_takeBack_17 rfl ?_
  refine pw_geti dX2_takeBack_18 lf_X2_21 sh_49 rfl ?_
  refine pw_iconst dX2_takeBack_21 (v := 1) (by decide) ?_
  refine pw_isub dX2_takeBack_22 ?_
  rw [show hput h 49 1 (nI ((k + 7) % 8)) 49 2 = nI (c + 1) from by simp [hput]; exact hc, nI_pred]
  refine pw_puti dX2_takeBack_23 lf_X2_21 lp_2_2 sh_49 rfl rfl rfl ?_
  refine pw_aload_n dX2_takeBack_26 rfl ?_
  refine pw_aload_n dX2_takeBack_27 rfl ?_
  refine pw_geti dX2_takeBack_28 lf_X2_17 sh_49 rfl ?_
  rw [show hput (hput h 49 1 (nI ((k + 7) % 8))) 49 2 (nI c) 49 1 = nI ((k + 7) % 8) from by simp [hput]]
  refine pw_cV dX2_takeBack_31 (sp_X2_stateAt (Nat.mod_lt (k + 7) (by decide))) mi_X2_stateAt mv_X2_stateAt ml_X2_29 sh_49 rfl rfl rfl rfl ⟨rfl, rfl⟩ rfl rfl ?_
  refine pw_astore_n dX2_takeBack_34 (by decide) rfl ?_
  refine pw_aload_n dX2_takeBack_35 rfl ?_
  refine pw_ifnull dX2_takeBack_36 ?_
  refine pw_aload_n dX2_takeBack_39 rfl ?_
  refine pw_aload_n dX2_takeBack_40 rfl ?_
  refine pw_cVn dX2_takeBack_41 (sp_X5_copyFrom hp (st_h (Nat.mod_lt (k + 7) (by decide)))) mi_X5_copyFrom mv_X5_copyFrom ml_X2_33 hp.1 rfl rfl rfl rfl ⟨rfl, rfl⟩ rfl rfl ?_
  exact pw_retF dX2_takeBack_44 rfl rfl rfl

