/-! THE MODEL'S ROWS: remembered, taken back, saved, restored -/
def rcH (h : HP) (d od s os : Nat) : Nat → HP
  | 0 => h
  | n + 1 => hput (rcH h d od s os n) d (od + n) (rcH h d od s os n s (os + n))
theorem rcH_o (h : HP) (d od s os : Nat) {q : Nat} (hq : q ≠ d) : ∀ n, rcH h d od s os n q = h q
  | 0 => rfl
  | n + 1 => by
      funext j
      show hput _ _ _ _ q j = _
      rw [hput_ne _ _ _ hq, rcH_o h d od s os hq n]
def savH (h : HP) : HP := rcH (hput (faH h 0) 253 4 1) 256 0 254 0 1032
def resH (h : HP) : HP := hput (rcH (faH h 0) 254 0 256 0 1032) 253 2 0
def undH (h : HP) (p : Nat) : HP := rcH (hput (faH h 0) 253 2 (nI p)) 254 0 255 (1032 * p) 1032
/-- with room, and without -/
def reaH (h : HP) (p : Nat) : HP := hput (rcH h 255 (1032 * p) 254 0 1032) 253 2 (nI (p + 1))
def rebH (h : HP) : HP := reaH (rcH (hput h 253 2 (nI 7)) 255 0 255 1032 (1032 * 7)) 7
theorem rcH_at (h : HP) (d s : Nat) (hd : d ≠ s) : ∀ (n k : Nat), k < n → rcH h d 0 s 0 n d k = h s k
  | 0, _, hk => absurd hk (Nat.not_lt_zero _)
  | n + 1, k, hk => by
      show hput _ _ _ _ d k = _
      rcases Nat.lt_or_ge k n with q | q
      · rw [show hput (rcH h d 0 s 0 n) d (0 + n) (rcH h d 0 s 0 n s (0 + n)) d k = rcH h d 0 s 0 n d k from by simp only [hput, if_true]; exact if_neg (by omega), rcH_at h d s hd n k q]
      · rw [show k = n by omega, show hput (rcH h d 0 s 0 n) d (0 + n) (rcH h d 0 s 0 n s (0 + n)) d n = rcH h d 0 s 0 n s (0 + n) from by simp only [hput, if_true]; exact if_pos (by omega), rcH_o _ _ _ _ _ (Ne.symm hd), Nat.zero_add]
theorem resA (h : HP) : hput (rcH (faH h 0) 254 0 256 0 1032) 253 2 0 254 0 = h 256 0 := by
  rw [hput_ne _ _ _ (by decide), rcH_at _ _ _ (by decide) 1032 0 (by decide)]; rfl
set_option maxRecDepth 100000 in
set_option maxHeartbeats 4000000 in
theorem lp_X8_save {l : Launch} {G : GC} {ad : Nat → Nat} {h : HP}  : ∀ (mu9 : Nat) (i : Nat) (hi : i ≤ 1032) (hmu9 : 1032 - i < mu9), PW l G cX8_save RX8 2 ((Option.some FieldType.int)) [] { frames := 0, cells := 0, slots := 0, locals := 0 } (gNm "save") (gME G SW ad (gR SW ad (some (.int (h 254 0))) (savH h)) gNo 0 0) 12 [some (.ref (ad 253)), some (.int (nI i))] [] SW ad (rcH (hput (faH h 0) 253 4 1) 256 0 254 0 i) 0 0 := by
  intro mu9
  induction mu9 with
  | zero => intro i hi hmu9; exact absurd hmu9 (Nat.not_lt_zero _)
  | succ mu9 ih =>
    intro i hi hmu9
    refine pw_iload_n dX8_save_12 rfl ?_
    refine pw_sipush dX8_save_13 (v := 1032) (by decide) ?_
    refine pw_icmp_ge dX8_save_16 (tgt := 37) (by decide) (fun c16 => ?_) (fun c16 => ?_)
    · skip
      have hi8 : i = 1032 := eqN (N := 1032) rfl hi (by decide) c16
      subst hi8
      refine pw_aload_n dX8_save_37 rfl ?_
      refine pw_getr dX8_save_38 lf_X8_9 sh_253 rfl ?_
      refine pw_iconst dX8_save_41 (v := 0) (by decide) ?_
      refine pw_iaload dX8_save_42 sh_254 (vpin (n := 0) (N := 1032) (by decide) (by decide)) ?_
      exact pw_iretF dX8_save_43 rfl rfl rfl (by rw [rcH_o _ _ _ _ _ (by decide)]; rfl) rfl
    · skip
      have hi9 : i < 1032 := ltN (N := 1032) rfl hi (by decide) c16
      refine pw_aload_n dX8_save_19 rfl ?_
      refine pw_getr dX8_save_20 lf_X8_16 sh_253 rfl ?_
      refine pw_iload_n dX8_save_23 rfl ?_
      refine pw_aload_n dX8_save_24 rfl ?_
      refine pw_getr dX8_save_25 lf_X8_9 sh_253 rfl ?_
      refine pw_iload_n dX8_save_28 rfl ?_
      refine pw_iaload dX8_save_29 sh_254 (vpin (by omega) (by decide)) ?_
      rw [nI_cl (by omega)]
      refine pw_iastore dX8_save_30 sh_256 (vpin (by omega) (by decide)) ?_
      rw [nI_cl (by omega)]
      refine pw_heq (show _ = rcH (hput (faH h 0) 253 4 1) 256 0 254 0 (i + 1) from by rw [rcH, Nat.zero_add]) ?_
      refine pw_iinc dX8_save_31 rfl (d := 1) (by decide) (by decide) rfl ?_
      rw [nI_1]
      refine pw_goto dX8_save_34 (tgt := 12) (by decide) ?_
      exact ih (i + 1) (by omega) (by omega)

set_option maxRecDepth 100000 in
set_option maxHeartbeats 4000000 in
theorem sp_X8_save {l : Launch} {G : GC} {ad : Nat → Nat} {h : HP} : PF l G yX8_save (.code yX8_save cX8_save 2 ((Option.some FieldType.int))) { frames := 0, cells := 0, slots := 0, locals := 0 } [.ref (ad 253)] SW ad (h) (some (.int (h 254 0))) (savH h) := by
  refine PF.mk (L0 := [some (.ref (ad 253)), none]) RX8 "save" 0 0 (by decide +kernel) rfl rfl ⟨rfl, rfl⟩ (by simp [Value.category]) (Nat.le_of_ble_eq_true rfl) rfl ?_
  refine pw_aload_n dX8_save_0 rfl ?_
  refine pw_iconst dX8_save_1 (v := 0) (by decide) ?_
  refine pw_puti dX8_save_2 lf_X8_42 lp_8_5 sh_253 rfl rfl rfl ?_
  refine pw_aload_n dX8_save_5 rfl ?_
  refine pw_iconst dX8_save_6 (v := 1) (by decide) ?_
  refine pw_puti dX8_save_7 lf_X8_229 lp_8_4 sh_253 rfl rfl rfl ?_
  refine pw_iconst dX8_save_10 (v := 0) (by decide) ?_
  refine pw_istore_n dX8_save_11 (by decide) rfl ?_
  exact lp_X8_save 1033 0 (Nat.zero_le _) (by omega)

set_option maxRecDepth 100000 in
set_option maxHeartbeats 4000000 in
theorem sp_X8_restore_no {l : Launch} {G : GC} {ad : Nat → Nat} {h : HP} (e : h 253 4 = 0) : PF l G yX8_restore (.code yX8_restore cX8_restore 2 ((Option.some FieldType.int))) { frames := 1, cells := 0, slots := 0, locals := 21 } [.ref (ad 253)] SW ad (h) (some (.int 0)) (faH (faH h 0) 1) := by
  refine PF.mk (L0 := [some (.ref (ad 253)), none]) RX8 "restore" 0 0 (by decide +kernel) rfl rfl ⟨rfl, rfl⟩ (by simp [Value.category]) (Nat.le_of_ble_eq_true rfl) rfl ?_
  refine pw_aload_n dX8_restore_0 rfl ?_
  refine pw_iconst dX8_restore_1 (v := 0) (by decide) ?_
  refine pw_puti dX8_restore_2 lf_X8_42 lp_8_5 sh_253 rfl rfl rfl ?_
  refine pw_aload_n dX8_restore_5 rfl ?_
  refine pw_geti dX8_restore_6 lf_X8_229 sh_253 rfl ?_
  refine pw_if_ne dX8_restore_9 (tgt := 18) (by decide) (fun c9 => absurd c9 (fun q => q e)) (fun c9 => ?_)
  refine pw_aload_n dX8_restore_12 rfl ?_
  refine pw_iconst dX8_restore_13 (v := 1) (by decide) ?_
  refine pw_cV dX8_restore_14 (sp_X8_fail) mi_X8_fail mv_X8_fail ml_X8_48 sh_253 rfl rfl rfl rfl ⟨rfl, rfl⟩ rfl rfl ?_
  exact pw_iretF dX8_restore_17 rfl rfl rfl rfl rfl

set_option maxRecDepth 100000 in
set_option maxHeartbeats 4000000 in
theorem lp_X8_restore {l : Launch} {G : GC} {ad : Nat → Nat} {h : HP} (e : ¬ h 253 4 = 0)  : ∀ (mu9 : Nat) (i : Nat) (hi : i ≤ 1032) (hmu9 : 1032 - i < mu9), PW l G cX8_restore RX8 2 ((Option.some FieldType.int)) [] { frames := 1, cells := 0, slots := 0, locals := 21 } (gNm "restore") (gME G SW ad (gR SW ad (some (.int (h 256 0))) (resH h)) gNo 0 0) 20 [some (.ref (ad 253)), some (.int (nI i))] [] SW ad (rcH (faH h 0) 254 0 256 0 i) 0 0 := by
  intro mu9
  induction mu9 with
  | zero => intro i hi hmu9; exact absurd hmu9 (Nat.not_lt_zero _)
  | succ mu9 ih =>
    intro i hi hmu9
    refine pw_iload_n dX8_restore_20 rfl ?_
    refine pw_sipush dX8_restore_21 (v := 1032) (by decide) ?_
    refine pw_icmp_ge dX8_restore_24 (tgt := 45) (by decide) (fun c24 => ?_) (fun c24 => ?_)
    · skip
      have hi8 : i = 1032 := eqN (N := 1032) rfl hi (by decide) c24
      subst hi8
      refine pw_aload_n dX8_restore_45 rfl ?_
      refine pw_iconst dX8_restore_46 (v := 0) (by decide) ?_
      refine pw_puti dX8_restore_47 lf_X8_52 lp_8_2 sh_253 rfl rfl rfl ?_
      refine pw_aload_n dX8_restore_50 rfl ?_
      refine pw_getr dX8_restore_51 lf_X8_9 sh_253 rfl ?_
      refine pw_iconst dX8_restore_54 (v := 0) (by decide) ?_
      refine pw_iaload dX8_restore_55 sh_254 (vpin (n := 0) (N := 1032) (by decide) (by decide)) ?_
      exact pw_iretF dX8_restore_56 rfl rfl rfl (resA h) rfl
    · skip
      have hi9 : i < 1032 := ltN (N := 1032) rfl hi (by decide) c24
      refine pw_aload_n dX8_restore_27 rfl ?_
      refine pw_getr dX8_restore_28 lf_X8_9 sh_253 rfl ?_
      refine pw_iload_n dX8_restore_31 rfl ?_
      refine pw_aload_n dX8_restore_32 rfl ?_
      refine pw_getr dX8_restore_33 lf_X8_16 sh_253 rfl ?_
      refine pw_iload_n dX8_restore_36 rfl ?_
      refine pw_iaload dX8_restore_37 sh_256 (vpin (by omega) (by decide)) ?_
      rw [nI_cl (by omega)]
      refine pw_iastore dX8_restore_38 sh_254 (vpin (by omega) (by decide)) ?_
      rw [nI_cl (by omega)]
      refine pw_heq (show _ = rcH (faH h 0) 254 0 256 0 (i + 1) from by rw [rcH, Nat.zero_add]) ?_
      refine pw_iinc dX8_restore_39 rfl (d := 1) (by decide) (by decide) rfl ?_
      rw [nI_1]
      refine pw_goto dX8_restore_42 (tgt := 20) (by decide) ?_
      exact ih (i + 1) (by omega) (by omega)

set_option maxRecDepth 100000 in
set_option maxHeartbeats 4000000 in
theorem sp_X8_restore_ok {l : Launch} {G : GC} {ad : Nat → Nat} {h : HP} (e : ¬ h 253 4 = 0) : PF l G yX8_restore (.code yX8_restore cX8_restore 2 ((Option.some FieldType.int))) { frames := 1, cells := 0, slots := 0, locals := 21 } [.ref (ad 253)] SW ad (h) (some (.int (h 256 0))) (resH h) := by
  refine PF.mk (L0 := [some (.ref (ad 253)), none]) RX8 "restore" 0 0 (by decide +kernel) rfl rfl ⟨rfl, rfl⟩ (by simp [Value.category]) (Nat.le_of_ble_eq_true rfl) rfl ?_
  refine pw_aload_n dX8_restore_0 rfl ?_
  refine pw_iconst dX8_restore_1 (v := 0) (by decide) ?_
  refine pw_puti dX8_restore_2 lf_X8_42 lp_8_5 sh_253 rfl rfl rfl ?_
  refine pw_aload_n dX8_restore_5 rfl ?_
  refine pw_geti dX8_restore_6 lf_X8_229 sh_253 rfl ?_
  refine pw_if_ne dX8_restore_9 (tgt := 18) (by decide) (fun c9 => ?_) (fun c9 => absurd c9 (e))
  refine pw_iconst dX8_restore_18 (v := 0) (by decide) ?_
  refine pw_istore_n dX8_restore_19 (by decide) rfl ?_
  exact lp_X8_restore e 1033 0 (Nat.zero_le _) (by omega)

set_option maxRecDepth 100000 in
set_option maxHeartbeats 4000000 in
theorem sp_X8_undo_no {l : Launch} {G : GC} {ad : Nat → Nat} {h : HP} (e : h 253 2 = 0) : PF l G yX8_undo (.code yX8_undo cX8_undo 2 ((Option.some FieldType.int))) { frames := 1, cells := 0, slots := 0, locals := 21 } [.ref (ad 253)] SW ad (h) (some (.int 0)) (faH (faH h 0) 1) := by
  refine PF.mk (L0 := [some (.ref (ad 253)), none]) RX8 "undo" 0 0 (by decide +kernel) rfl rfl ⟨rfl, rfl⟩ (by simp [Value.category]) (Nat.le_of_ble_eq_true rfl) rfl ?_
  refine pw_aload_n dX8_undo_0 rfl ?_
  refine pw_iconst dX8_undo_1 (v := 0) (by decide) ?_
  refine pw_puti dX8_undo_2 lf_X8_42 lp_8_5 sh_253 rfl rfl rfl ?_
  refine pw_aload_n dX8_undo_5 rfl ?_
  refine pw_geti dX8_undo_6 lf_X8_52 sh_253 rfl ?_
  refine pw_if_ne dX8_undo_9 (tgt := 18) (by decide) (fun c9 => absurd c9 (fun q => q e)) (fun c9 => ?_)
  refine pw_aload_n dX8_undo_12 rfl ?_
  refine pw_iconst dX8_undo_13 (v := 1) (by decide) ?_
  refine pw_cV dX8_undo_14 (sp_X8_fail) mi_X8_fail mv_X8_fail ml_X8_48 sh_253 rfl rfl rfl rfl ⟨rfl, rfl⟩ rfl rfl ?_
  exact pw_iretF dX8_undo_17 rfl rfl rfl rfl rfl

set_option maxRecDepth 100000 in
set_option maxHeartbeats 4000000 in
theorem lp_X8_undo {l : Launch} {G : GC} {ad : Nat → Nat} {h : HP} {p : Nat} (e : h 253 2 = nI (p + 1)) (hp : p < 8)  : ∀ (mu9 : Nat) (i : Nat) (hi : i ≤ 1032) (hmu9 : 1032 - i < mu9), PW l G cX8_undo RX8 2 ((Option.some FieldType.int)) [] { frames := 1, cells := 0, slots := 0, locals := 21 } (gNm "undo") (gME G SW ad (gR SW ad (some (.int (nI p))) (undH h p)) gNo 0 0) 30 [some (.ref (ad 253)), some (.int (nI i))] [] SW ad (rcH (hput (faH h 0) 253 2 (nI p)) 254 0 255 (1032 * p) i) 0 0 := by
  intro mu9
  induction mu9 with
  | zero => intro i hi hmu9; exact absurd hmu9 (Nat.not_lt_zero _)
  | succ mu9 ih =>
    intro i hi hmu9
    refine pw_iload_n dX8_undo_30 rfl ?_
    refine pw_sipush dX8_undo_31 (v := 1032) (by decide) ?_
    refine pw_icmp_ge dX8_undo_34 (tgt := 64) (by decide) (fun c34 => ?_) (fun c34 => ?_)
    · skip
      have hi8 : i = 1032 := eqN (N := 1032) rfl hi (by decide) c34
      subst hi8
      refine pw_aload_n dX8_undo_64 rfl ?_
      refine pw_geti dX8_undo_65 lf_X8_52 sh_253 rfl ?_
      exact pw_iretF dX8_undo_68 rfl rfl rfl (by rw [rcH_o _ _ _ _ _ (by decide)]; simp [hput]) rfl
    · skip
      have hi9 : i < 1032 := ltN (N := 1032) rfl hi (by decide) c34
      have e2 : rcH (hput (faH h 0) 253 2 (nI p)) 254 0 255 (1032 * p) i 253 2 = nI p := by rw [rcH_o _ _ _ _ _ (by decide)]; simp [hput]
      refine pw_aload_n dX8_undo_37 rfl ?_
      refine pw_getr dX8_undo_38 lf_X8_9 sh_253 rfl ?_
      refine pw_iload_n dX8_undo_41 rfl ?_
      refine pw_aload_n dX8_undo_42 rfl ?_
      refine pw_getr dX8_undo_43 lf_X8_13 sh_253 rfl ?_
      refine pw_sipush dX8_undo_46 (v := 1032) (by decide) ?_
      refine pw_aload_n dX8_undo_49 rfl ?_
      refine pw_geti dX8_undo_50 lf_X8_52 sh_253 rfl ?_
      refine pw_imul dX8_undo_53 ?_
      refine pw_iload_n dX8_undo_54 rfl ?_
      refine pw_iadd dX8_undo_55 ?_
      rw [e2, show (1032 : Int32) * nI p + nI i = nI (1032 * p + i) from by rw [show (1032 : Int32) = nI 1032 from rfl, pk_mul, nI_add]]
      refine pw_iaload dX8_undo_56 sh_255 (vpin (by omega) (by decide)) ?_
      rw [nI_cl (by omega)]
      refine pw_iastore dX8_undo_57 sh_254 (vpin (by omega) (by decide)) ?_
      rw [nI_cl (by omega)]
      refine pw_heq (show _ = rcH (hput (faH h 0) 253 2 (nI p)) 254 0 255 (1032 * p) (i + 1) from by rw [rcH, Nat.zero_add]) ?_
      refine pw_iinc dX8_undo_58 rfl (d := 1) (by decide) (by decide) rfl ?_
      rw [nI_1]
      refine pw_goto dX8_undo_61 (tgt := 30) (by decide) ?_
      exact ih (i + 1) (by omega) (by omega)

set_option maxRecDepth 100000 in
set_option maxHeartbeats 4000000 in
theorem sp_X8_undo_ok {l : Launch} {G : GC} {ad : Nat → Nat} {h : HP} {p : Nat} (e : h 253 2 = nI (p + 1)) (hp : p < 8) : PF l G yX8_undo (.code yX8_undo cX8_undo 2 ((Option.some FieldType.int))) { frames := 1, cells := 0, slots := 0, locals := 21 } [.ref (ad 253)] SW ad (h) (some (.int (nI p))) (undH h p) := by
  refine PF.mk (L0 := [some (.ref (ad 253)), none]) RX8 "undo" 0 0 (by decide +kernel) rfl rfl ⟨rfl, rfl⟩ (by simp [Value.category]) (Nat.le_of_ble_eq_true rfl) rfl ?_
  refine pw_aload_n dX8_undo_0 rfl ?_
  refine pw_iconst dX8_undo_1 (v := 0) (by decide) ?_
  refine pw_puti dX8_undo_2 lf_X8_42 lp_8_5 sh_253 rfl rfl rfl ?_
  refine pw_aload_n dX8_undo_5 rfl ?_
  refine pw_geti dX8_undo_6 lf_X8_52 sh_253 rfl ?_
  refine pw_if_ne dX8_undo_9 (tgt := 18) (by decide) (fun c9 => ?_) (fun c9 => absurd c9 (by rw [show hput h 253 5 0 253 2 = nI (p + 1) from e]; exact fun q => absurd ((nI_eq (b := 0) (by omega) (by decide)).mp q) (by omega)))
  refine pw_aload_n dX8_undo_18 rfl ?_
  refine pw_dup dX8_undo_19 rfl ?_
  refine pw_geti dX8_undo_20 lf_X8_52 sh_253 rfl ?_
  refine pw_iconst dX8_undo_23 (v := 1) (by decide) ?_
  refine pw_isub dX8_undo_24 ?_
  rw [show hput h 253 5 0 253 2 = nI (p + 1) from e, nI_pred]
  refine pw_puti dX8_undo_25 lf_X8_52 lp_8_2 sh_253 rfl rfl rfl ?_
  refine pw_iconst dX8_undo_28 (v := 0) (by decide) ?_
  refine pw_istore_n dX8_undo_29 (by decide) rfl ?_
  exact lp_X8_undo e hp 1033 0 (Nat.zero_le _) (by omega)

