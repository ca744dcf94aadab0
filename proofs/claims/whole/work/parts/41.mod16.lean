/-! SERVING in the model -/
def seF (R : HP → HP × Int32) (b nC : Nat) : Nat → HP → Int32 → HP × Int32
  | 0, g, s => (g, s)
  | n + 1, g, s => if 0 < mB g b 2 ∧ 0 < cntB (fun c => liB g b c) nC then seF R b nC n (R g).1 (s + (R g).2) else (g, s)
set_option maxRecDepth 100000 in
set_option maxHeartbeats 4000000 in
theorem sp_X8_serve_no {l : Launch} {G : GC} {ad : Nat → Nat} {h : HP} {n : Int32} (e : wiB n 0 (h 254 2 - 1) = false) : PF l G yX8_serve (.code yX8_serve cX8_serve 3 ((Option.some FieldType.int))) { frames := 5, cells := 0, slots := 0, locals := 118 } [.ref (ad 253), .int (n)] SW ad (h) (some (.int 0)) (faH h 1) := by
  refine PF.mk (L0 := [some (.ref (ad 253)), some (.int (n)), none]) RX8 "serve" 0 0 (by decide +kernel) rfl rfl ⟨rfl, rfl⟩ (by simp [Value.category]) (Nat.le_of_ble_eq_true rfl) rfl ?_
  refine pw_aload_n dX8_serve_0 rfl ?_
  refine pw_aload_n dX8_serve_1 rfl ?_
  refine pw_iload_n dX8_serve_2 rfl ?_
  refine pw_cV dX8_serve_3 (sp_X8_isBottling) mi_X8_isBottling mv_X8_isBottling ml_X8_172 sh_253 rfl rfl rfl rfl ⟨rfl, rfl⟩ rfl rfl ?_
  refine pw_if_eq dX8_serve_6 (tgt := 13) (by decide) (fun c6 => ?_) (fun c6 => absurd c6 (by rw [e]; exact fun q => q rfl))
  refine pw_iconst dX8_serve_13 (v := 1) (by decide) ?_
  refine pw_puti dX8_serve_14 lf_X8_42 lp_8_5 sh_253 rfl rfl rfl ?_
  refine pw_aload_n dX8_serve_17 rfl ?_
  refine pw_geti dX8_serve_18 lf_X8_42 sh_253 rfl ?_
  refine pw_if_eq dX8_serve_21 (tgt := 26) (by decide) (fun c21 => absurd c21 ((show ¬ ((1 : Int32) = 0) from by decide))) (fun c21 => ?_)
  refine pw_iconst dX8_serve_24 (v := 0) (by decide) ?_
  exact pw_iretF dX8_serve_25 rfl rfl rfl rfl rfl

set_option maxRecDepth 100000 in
set_option maxHeartbeats 4000000 in
theorem lp_X8_serve {l : Launch} {G : GC} {ad : Nat → Nat} {h h2 h3 : HP} {b nC : Nat} (hb : b < 16) (e : wiB (nI b) 0 (h 254 2 - 1) = true) (eh : hput h 253 5 0 = h2) (hrem : PF l G yX8_remember (.code yX8_remember cX8_remember 2 ((Option.none : Option FieldType))) { frames := 0, cells := 0, slots := 0, locals := 0 } [.ref (ad 253)] SW ad (h2) (none) (h3)) {Inv : HP → Prop} {mu : HP → Nat} {R : HP → HP × Int32} (hI : Inv h3) (hI2 : ∀ g, Inv g → g 254 3 = nI nC ∧ nC ≤ 8) (hR : ∀ g, Inv g → 0 < mB g b 2 → 0 < cntB (fun c => liB g b c) nC → PF l G yX8_round (.code yX8_round cX8_round 8 ((Option.some FieldType.int))) { frames := 4, cells := 0, slots := 0, locals := 91 } [.ref (ad 253), .int (nI b)] SW ad (g) (some (.int (R g).2)) ((R g).1) ∧ Inv (R g).1 ∧ mu (R g).1 < mu g) (hlm : ∀ g, Inv g → PF l G yX8_listMany (.code yX8_listMany cX8_listMany 4 ((Option.some FieldType.int))) { frames := 2, cells := 0, slots := 0, locals := 44 } [.ref (ad 253), .int (nI b)] SW ad (g) (some (.int (nI (cntB (fun c => liB g b c) nC)))) (g) ∧ cntB (fun c => liB g b c) nC < 1000)  : ∀ (mu9 : Nat) (n : Nat) (g : HP) (x : Int32) (hg : Inv g) (hn : mu g < n) (hF : seF R b nC (mu h3 + 1) h3 0 = seF R b nC n g x) (hmu9 : n < mu9), PW l G cX8_serve RX8 3 ((Option.some FieldType.int)) [] { frames := 5, cells := 0, slots := 0, locals := 118 } (gNm "serve") (gME G SW ad (gR SW ad (some (.int (seF R b nC (mu h3 + 1) h3 0).2)) ((seF R b nC (mu h3 + 1) h3 0).1)) gNo 0 0) 32 [some (.ref (ad 253)), some (.int (nI b)), some (.int x)] [] SW ad (g) 0 0 := by
  intro mu9
  induction mu9 with
  | zero => intro n g x hg hn hF hmu9; exact absurd hmu9 (Nat.not_lt_zero _)
  | succ mu9 ih =>
    intro n g x hg hn hF hmu9
    refine pw_aload_n dX8_serve_32 rfl ?_
    refine pw_iload_n dX8_serve_33 rfl ?_
    refine pw_iconst dX8_serve_34 (v := 2) (by decide) ?_
    refine pw_cV dX8_serve_35 (sp_X8_b (b := b) (k := 2) (by omega)) mi_X8_b mv_X8_b ml_X8_169 sh_253 rfl rfl rfl rfl ⟨rfl, rfl⟩ rfl rfl ?_
    refine pw_if_le dX8_serve_38 (tgt := 60) (by decide) (fun c38 => ?_) (fun c38 => ?_)
    · skip
      have hE : seF R b nC (mu h3 + 1) h3 0 = (g, x) := by
        rw [hF]
        obtain ⟨n, rfl⟩ : ∃ z, n = z + 1 := ⟨n - 1, by omega⟩
        rw [seF, if_neg (fun q => absurd q.1 (Int32.not_lt.mpr c38))]
      refine pw_iload_n dX8_serve_60 rfl ?_
      exact pw_iretF dX8_serve_61 rfl rfl rfl (by rw [hE]) (by rw [hE])
    · skip
      refine pw_aload_n dX8_serve_41 rfl ?_
      refine pw_iload_n dX8_serve_42 rfl ?_
      refine pw_cV dX8_serve_43 ((hlm g hg).1) mi_X8_listMany mv_X8_listMany ml_X8_175 sh_253 rfl rfl rfl rfl ⟨rfl, rfl⟩ rfl rfl ?_
      refine pw_if_le dX8_serve_46 (tgt := 60) (by decide) (fun c46 => ?_) (fun c46 => ?_)
      · skip
        have hE : seF R b nC (mu h3 + 1) h3 0 = (g, x) := by
          rw [hF]
          obtain ⟨n, rfl⟩ : ∃ z, n = z + 1 := ⟨n - 1, by omega⟩
          rw [seF, if_neg (fun q => absurd c46 (nI_ge (a := 0) q.2 (by have := (hlm g hg).2; omega)))]
        refine pw_iload_n dX8_serve_60 rfl ?_
        exact pw_iretF dX8_serve_61 rfl rfl rfl (by rw [hE]) (by rw [hE])
      · skip
        refine pw_iload_n dX8_serve_49 rfl ?_
        refine pw_aload_n dX8_serve_50 rfl ?_
        refine pw_iload_n dX8_serve_51 rfl ?_
        have hc9 : 0 < cntB (fun c => liB g b c) nC := by
          rcases Nat.eq_zero_or_pos (cntB (fun c => liB g b c) nC) with q | q
          · exact absurd (by rw [q]; decide) c46
          · exact q
        refine pw_cV dX8_serve_52 ((hR g hg (Int32.not_le.mp c38) hc9).1) mi_X8_round mv_X8_round ml_X8_208 sh_253 rfl rfl rfl rfl ⟨rfl, rfl⟩ rfl rfl ?_
        refine pw_iadd dX8_serve_55 ?_
        refine pw_istore_n dX8_serve_56 (by decide) rfl ?_
        refine pw_goto dX8_serve_57 (tgt := 32) (by decide) ?_
        have hc9 : 0 < cntB (fun c => liB g b c) nC := by
          rcases Nat.eq_zero_or_pos (cntB (fun c => liB g b c) nC) with q | q
          · exact absurd (by rw [q]; decide) c46
          · exact q
        have hr := hR g hg (Int32.not_le.mp c38) hc9
        obtain ⟨n, rfl⟩ : ∃ z, n = z + 1 := ⟨n - 1, by omega⟩
        have hF2 : seF R b nC (n + 1) g x = seF R b nC n (R g).1 (x + (R g).2) := by rw [seF, if_pos ⟨Int32.not_le.mp c38, hc9⟩]
        exact ih n (R g).1 _ hr.2.1 (by omega) (hF.trans hF2) (by omega)

set_option maxRecDepth 100000 in
set_option maxHeartbeats 4000000 in
theorem sp_X8_serve_ok {l : Launch} {G : GC} {ad : Nat → Nat} {h h2 h3 : HP} {b nC : Nat} (hb : b < 16) (e : wiB (nI b) 0 (h 254 2 - 1) = true) (eh : hput h 253 5 0 = h2) (hrem : PF l G yX8_remember (.code yX8_remember cX8_remember 2 ((Option.none : Option FieldType))) { frames := 0, cells := 0, slots := 0, locals := 0 } [.ref (ad 253)] SW ad (h2) (none) (h3)) {Inv : HP → Prop} {mu : HP → Nat} {R : HP → HP × Int32} (hI : Inv h3) (hI2 : ∀ g, Inv g → g 254 3 = nI nC ∧ nC ≤ 8) (hR : ∀ g, Inv g → 0 < mB g b 2 → 0 < cntB (fun c => liB g b c) nC → PF l G yX8_round (.code yX8_round cX8_round 8 ((Option.some FieldType.int))) { frames := 4, cells := 0, slots := 0, locals := 91 } [.ref (ad 253), .int (nI b)] SW ad (g) (some (.int (R g).2)) ((R g).1) ∧ Inv (R g).1 ∧ mu (R g).1 < mu g) (hlm : ∀ g, Inv g → PF l G yX8_listMany (.code yX8_listMany cX8_listMany 4 ((Option.some FieldType.int))) { frames := 2, cells := 0, slots := 0, locals := 44 } [.ref (ad 253), .int (nI b)] SW ad (g) (some (.int (nI (cntB (fun c => liB g b c) nC)))) (g) ∧ cntB (fun c => liB g b c) nC < 1000) : PF l G yX8_serve (.code yX8_serve cX8_serve 3 ((Option.some FieldType.int))) { frames := 5, cells := 0, slots := 0, locals := 118 } [.ref (ad 253), .int (nI b)] SW ad (h) (some (.int (seF R b nC (mu h3 + 1) h3 0).2)) ((seF R b nC (mu h3 + 1) h3 0).1) := by
  refine PF.mk (L0 := [some (.ref (ad 253)), some (.int (nI b)), none]) RX8 "serve" 0 0 (by decide +kernel) rfl rfl ⟨rfl, rfl⟩ (by simp [Value.category]) (Nat.le_of_ble_eq_true rfl) rfl ?_
  refine pw_aload_n dX8_serve_0 rfl ?_
  refine pw_aload_n dX8_serve_1 rfl ?_
  refine pw_iload_n dX8_serve_2 rfl ?_
  refine pw_cV dX8_serve_3 (sp_X8_isBottling) mi_X8_isBottling mv_X8_isBottling ml_X8_172 sh_253 rfl rfl rfl rfl ⟨rfl, rfl⟩ rfl rfl ?_
  refine pw_if_eq dX8_serve_6 (tgt := 13) (by decide) (fun c6 => absurd c6 (by rw [e]; decide)) (fun c6 => ?_)
  refine pw_iconst dX8_serve_9 (v := 0) (by decide) ?_
  refine pw_goto dX8_serve_10 (tgt := 14) (by decide) ?_
  refine pw_puti dX8_serve_14 lf_X8_42 lp_8_5 sh_253 rfl rfl rfl ?_
  refine pw_aload_n dX8_serve_17 rfl ?_
  refine pw_geti dX8_serve_18 lf_X8_42 sh_253 rfl ?_
  refine pw_if_eq dX8_serve_21 (tgt := 26) (by decide) (fun c21 => ?_) (fun c21 => absurd c21 (fun q => q rfl))
  rw [eh]
  refine pw_aload_n dX8_serve_26 rfl ?_
  refine pw_cVn dX8_serve_27 (hrem) mi_X8_remember mv_X8_remember ml_X8_63 sh_253 rfl rfl rfl rfl ⟨rfl, rfl⟩ rfl rfl ?_
  refine pw_iconst dX8_serve_30 (v := 0) (by decide) ?_
  refine pw_istore_n dX8_serve_31 (by decide) rfl ?_
  exact lp_X8_serve hb e eh hrem hI hI2 hR hlm (mu h3 + 2) (mu h3 + 1) h3 0 hI (by omega) rfl (by omega)

