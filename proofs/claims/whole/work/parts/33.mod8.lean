/-! THE MODEL'S LABELS -/
def lbB (v g s r : Int32) : Bool := (wiB v (-1) 99 && (wiB g (-1) 4 && (wiB s (-1) 4 && wiB r (-1) 3))) && (decide (s = -1) || (!decide (g = -1) && !decide (g = s)))
def shM (h : HP) (lot w nH : Nat) (z : Int32) : Int32 := sumC (fun k => if mHv h k w = z then mL h lot (13 + k) else 0) nH
def gsF (h : HP) (lot nH : Nat) (g d : Int32) : Int32 := if g = -1 then d else shM h lot 1 nH g
def agX (f o t s : Int32) : Bool := decide (t ≤ f + o) && (decide (s = -1) || (decide (o ≤ f) && !decide (o = 0)))
def agM (h : HP) (lot nH : Nat) (g s : Int32) : Bool := agX (gsF h lot nH g 1000) (gsF h lot nH s 0) (h 254 6) s
def fbM (h : HP) (lot nH : Nat) (v g s r : Int32) : Int32 := if ¬ v = -1 ∧ shM h lot 0 nH v < h 254 5 then 6 else if agM h lot nH g s = false then 7 else if ¬ r = -1 ∧ shM h lot 2 nH r < h 254 7 then 8 else 0
theorem ag_f1 {f o t s : Int32} (c : f + o < t) : agX f o t s = false := by simp [agX, Int32.not_le.mpr c]
theorem ag_f2 {f o t s : Int32} (c : ¬ s = -1) (d : f < o ∨ o = 0) : agX f o t s = false := by
  rcases d with q | q
  · simp [agX, c, Int32.not_le.mpr q]
  · simp [agX, c, q]
theorem ag_t1 {f o t s : Int32} (a : ¬ f + o < t) (c : s = -1) : agX f o t s = true := by simp [agX, Int32.not_lt.mp a, c]
theorem ag_t2 {f o t s : Int32} (a : ¬ f + o < t) (c : ¬ f < o) (d : ¬ o = 0) : agX f o t s = true := by simp [agX, Int32.not_lt.mp a, Int32.not_lt.mp c, d]
set_option maxRecDepth 100000 in
set_option maxHeartbeats 4000000 in
theorem sp_X8_isLabel {l : Launch} {G : GC} {ad : Nat → Nat} {S : List Sh} {h : HP} {v g s r : Int32} : PF l G yX8_isLabel (.code yX8_isLabel cX8_isLabel 5 ((Option.some FieldType.boolean))) { frames := 1, cells := 0, slots := 0, locals := 22 } [.int (v), .int (g), .int (s), .int (r)] S ad (h) (some (.int (b2i (lbB v g s r)))) (h) := by
  refine PF.mk (L0 := [some (.int (v)), some (.int (g)), some (.int (s)), some (.int (r)), none]) RX8 "isLabel" 0 0 (by decide +kernel) rfl rfl ⟨rfl, rfl⟩ (by simp [Value.category]) (Nat.le_of_ble_eq_true rfl) rfl ?_
  refine pw_iload_n dX8_isLabel_0 rfl ?_
  refine pw_iconst dX8_isLabel_1 (v := (-1)) (by decide) ?_
  refine pw_bipush dX8_isLabel_2 (v := 99) (by decide) ?_
  refine pw_cS dX8_isLabel_4 (sp_X8_isIn) mi_X8_isIn ms_X8_isIn ml_X8_55 rfl rfl ⟨rfl, rfl⟩ rfl rfl ?_
  refine pw_if_eq dX8_isLabel_7 (tgt := 41) (by decide) (fun c7 => ?_) (fun c7 => ?_)
  · skip
    refine pw_iconst dX8_isLabel_41 (v := 0) (by decide) ?_
    refine pw_istore dX8_isLabel_42 (by decide) rfl ?_
    refine pw_iload dX8_isLabel_44 rfl ?_
    refine pw_if_eq dX8_isLabel_46 (tgt := 68) (by decide) (fun c46 => ?_) (fun c46 => absurd c46 (by decide))
    refine pw_iconst dX8_isLabel_68 (v := 0) (by decide) ?_
    exact pw_iretF dX8_isLabel_69 rfl rfl rfl (by simp [lbB, b2i, b2i_eq c7]) rfl
  · skip
    refine pw_iload_n dX8_isLabel_10 rfl ?_
    refine pw_iconst dX8_isLabel_11 (v := (-1)) (by decide) ?_
    refine pw_iconst dX8_isLabel_12 (v := 4) (by decide) ?_
    refine pw_cS dX8_isLabel_13 (sp_X8_isIn) mi_X8_isIn ms_X8_isIn ml_X8_55 rfl rfl ⟨rfl, rfl⟩ rfl rfl ?_
    refine pw_if_eq dX8_isLabel_16 (tgt := 41) (by decide) (fun c16 => ?_) (fun c16 => ?_)
    · skip
      refine pw_iconst dX8_isLabel_41 (v := 0) (by decide) ?_
      refine pw_istore dX8_isLabel_42 (by decide) rfl ?_
      refine pw_iload dX8_isLabel_44 rfl ?_
      refine pw_if_eq dX8_isLabel_46 (tgt := 68) (by decide) (fun c46 => ?_) (fun c46 => absurd c46 (by decide))
      refine pw_iconst dX8_isLabel_68 (v := 0) (by decide) ?_
      exact pw_iretF dX8_isLabel_69 rfl rfl rfl (by simp [lbB, b2i, b2i_eq c16]) rfl
    · skip
      refine pw_iload_n dX8_isLabel_19 rfl ?_
      refine pw_iconst dX8_isLabel_20 (v := (-1)) (by decide) ?_
      refine pw_iconst dX8_isLabel_21 (v := 4) (by decide) ?_
      refine pw_cS dX8_isLabel_22 (sp_X8_isIn) mi_X8_isIn ms_X8_isIn ml_X8_55 rfl rfl ⟨rfl, rfl⟩ rfl rfl ?_
      refine pw_if_eq dX8_isLabel_25 (tgt := 41) (by decide) (fun c25 => ?_) (fun c25 => ?_)
      · skip
        refine pw_iconst dX8_isLabel_41 (v := 0) (by decide) ?_
        refine pw_istore dX8_isLabel_42 (by decide) rfl ?_
        refine pw_iload dX8_isLabel_44 rfl ?_
        refine pw_if_eq dX8_isLabel_46 (tgt := 68) (by decide) (fun c46 => ?_) (fun c46 => absurd c46 (by decide))
        refine pw_iconst dX8_isLabel_68 (v := 0) (by decide) ?_
        exact pw_iretF dX8_isLabel_69 rfl rfl rfl (by simp [lbB, b2i, b2i_eq c25]) rfl
      · skip
        refine pw_iload_n dX8_isLabel_28 rfl ?_
        refine pw_iconst dX8_isLabel_29 (v := (-1)) (by decide) ?_
        refine pw_iconst dX8_isLabel_30 (v := 3) (by decide) ?_
        refine pw_cS dX8_isLabel_31 (sp_X8_isIn) mi_X8_isIn ms_X8_isIn ml_X8_55 rfl rfl ⟨rfl, rfl⟩ rfl rfl ?_
        refine pw_if_eq dX8_isLabel_34 (tgt := 41) (by decide) (fun c34 => ?_) (fun c34 => ?_)
        · skip
          refine pw_iconst dX8_isLabel_41 (v := 0) (by decide) ?_
          refine pw_istore dX8_isLabel_42 (by decide) rfl ?_
          refine pw_iload dX8_isLabel_44 rfl ?_
          refine pw_if_eq dX8_isLabel_46 (tgt := 68) (by decide) (fun c46 => ?_) (fun c46 => absurd c46 (by decide))
          refine pw_iconst dX8_isLabel_68 (v := 0) (by decide) ?_
          exact pw_iretF dX8_isLabel_69 rfl rfl rfl (by simp [lbB, b2i, b2i_eq c34]) rfl
        · skip
          refine pw_iconst dX8_isLabel_37 (v := 1) (by decide) ?_
          refine pw_goto dX8_isLabel_38 (tgt := 42) (by decide) ?_
          refine pw_istore dX8_isLabel_42 (by decide) rfl ?_
          refine pw_iload dX8_isLabel_44 rfl ?_
          refine pw_if_eq dX8_isLabel_46 (tgt := 68) (by decide) (fun c46 => absurd c46 (by decide)) (fun c46 => ?_)
          refine pw_iload_n dX8_isLabel_49 rfl ?_
          refine pw_iconst dX8_isLabel_50 (v := (-1)) (by decide) ?_
          refine pw_icmp_eq dX8_isLabel_51 (tgt := 64) (by decide) (fun c51 => ?_) (fun c51 => ?_)
          · skip
            refine pw_iconst dX8_isLabel_64 (v := 1) (by decide) ?_
            refine pw_goto dX8_isLabel_65 (tgt := 69) (by decide) ?_
            exact pw_iretF dX8_isLabel_69 rfl rfl rfl (by rw [lbB, b2i_ne c7, b2i_ne c16, b2i_ne c25, b2i_ne c34]; simp [b2i, c51]) rfl
          · skip
            refine pw_iload_n dX8_isLabel_54 rfl ?_
            refine pw_iconst dX8_isLabel_55 (v := (-1)) (by decide) ?_
            refine pw_icmp_eq dX8_isLabel_56 (tgt := 68) (by decide) (fun c56 => ?_) (fun c56 => ?_)
            · skip
              refine pw_iconst dX8_isLabel_68 (v := 0) (by decide) ?_
              exact pw_iretF dX8_isLabel_69 rfl rfl rfl (by rw [lbB, b2i_ne c7, b2i_ne c16, b2i_ne c25, b2i_ne c34]; simp [b2i, c51, c56]) rfl
            · skip
              refine pw_iload_n dX8_isLabel_59 rfl ?_
              refine pw_iload_n dX8_isLabel_60 rfl ?_
              refine pw_icmp_eq dX8_isLabel_61 (tgt := 68) (by decide) (fun c61 => ?_) (fun c61 => ?_)
              · skip
                refine pw_iconst dX8_isLabel_68 (v := 0) (by decide) ?_
                exact pw_iretF dX8_isLabel_69 rfl rfl rfl (by rw [lbB, b2i_ne c7, b2i_ne c16, b2i_ne c25, b2i_ne c34]; simp [b2i, c51, c56, c61]) rfl
              · skip
                refine pw_iconst dX8_isLabel_64 (v := 1) (by decide) ?_
                refine pw_goto dX8_isLabel_65 (tgt := 69) (by decide) ?_
                exact pw_iretF dX8_isLabel_69 rfl rfl rfl (by rw [lbB, b2i_ne c7, b2i_ne c16, b2i_ne c25, b2i_ne c34]; simp [b2i, c51, c56, c61]) rfl

set_option maxRecDepth 100000 in
set_option maxHeartbeats 4000000 in
theorem sp_X8_areGrapesAllowed {l : Launch} {G : GC} {ad : Nat → Nat} {h : HP} {nL nH nB nC : Nat} {np : Nat → Nat} {pl : Nat → Nat → Nat} {lb : Nat → Nat} (hw : MW h nL nH nB nC np pl lb) {lot : Nat} (hlot : lot < 24) {g s : Int32} : PF l G yX8_areGrapesAllowed (.code yX8_areGrapesAllowed cX8_areGrapesAllowed 6 ((Option.some FieldType.boolean))) { frames := 2, cells := 0, slots := 0, locals := 47 } [.ref (ad 253), .int (nI lot), .int (g), .int (s)] SW ad (h) (some (.int (b2i (agM h lot nH g s)))) (h) := by
  refine PF.mk (L0 := [some (.ref (ad 253)), some (.int (nI lot)), some (.int (g)), some (.int (s)), none, none]) RX8 "areGrapesAllowed" 0 0 (by decide +kernel) rfl rfl ⟨rfl, rfl⟩ (by simp [Value.category]) (Nat.le_of_ble_eq_true rfl) rfl ?_
  refine pw_iload_n dX8_areGrapesAllowed_0 rfl ?_
  refine pw_iconst dX8_areGrapesAllowed_1 (v := (-1)) (by decide) ?_
  refine pw_icmp_ne dX8_areGrapesAllowed_2 (tgt := 11) (by decide) (fun c2 => ?_) (fun c2 => ?_)
  · skip
    refine pw_aload_n dX8_areGrapesAllowed_11 rfl ?_
    refine pw_iload_n dX8_areGrapesAllowed_12 rfl ?_
    refine pw_iconst dX8_areGrapesAllowed_13 (v := 1) (by decide) ?_
    refine pw_iload_n dX8_areGrapesAllowed_14 rfl ?_
    refine pw_cV dX8_areGrapesAllowed_15 (sp_X8_shareOf hw hlot (w := 1) (by decide)) mi_X8_shareOf mv_X8_shareOf ml_X8_150 sh_253 rfl rfl rfl rfl ⟨rfl, rfl⟩ rfl rfl ?_
    refine pw_istore dX8_areGrapesAllowed_18 (by decide) rfl ?_
    refine pw_iload_n dX8_areGrapesAllowed_20 rfl ?_
    refine pw_iconst dX8_areGrapesAllowed_21 (v := (-1)) (by decide) ?_
    refine pw_icmp_ne dX8_areGrapesAllowed_22 (tgt := 29) (by decide) (fun c22 => ?_) (fun c22 => ?_)
    · skip
      refine pw_aload_n dX8_areGrapesAllowed_29 rfl ?_
      refine pw_iload_n dX8_areGrapesAllowed_30 rfl ?_
      refine pw_iconst dX8_areGrapesAllowed_31 (v := 1) (by decide) ?_
      refine pw_iload_n dX8_areGrapesAllowed_32 rfl ?_
      refine pw_cV dX8_areGrapesAllowed_33 (sp_X8_shareOf hw hlot (w := 1) (by decide)) mi_X8_shareOf mv_X8_shareOf ml_X8_150 sh_253 rfl rfl rfl rfl ⟨rfl, rfl⟩ rfl rfl ?_
      refine pw_istore dX8_areGrapesAllowed_36 (by decide) rfl ?_
      refine pw_iload dX8_areGrapesAllowed_38 rfl ?_
      refine pw_iload dX8_areGrapesAllowed_40 rfl ?_
      refine pw_iadd dX8_areGrapesAllowed_42 ?_
      refine pw_aload_n dX8_areGrapesAllowed_43 rfl ?_
      refine pw_getr dX8_areGrapesAllowed_44 lf_X8_9 sh_253 rfl ?_
      refine pw_bipush dX8_areGrapesAllowed_47 (v := 6) (by decide) ?_
      refine pw_iaload dX8_areGrapesAllowed_49 sh_254 (vpin (n := 6) (N := 1032) (by decide) (by decide)) ?_
      refine pw_icmp_lt dX8_areGrapesAllowed_50 (tgt := 74) (by decide) (fun c50 => ?_) (fun c50 => ?_)
      · skip
        refine pw_iconst dX8_areGrapesAllowed_74 (v := 0) (by decide) ?_
        have ef : gsF h lot nH g 1000 = shM h lot 1 nH g := by rw [gsF, if_neg c2]
        have eo : gsF h lot nH s 0 = shM h lot 1 nH s := by rw [gsF, if_neg c22]
        exact pw_iretF dX8_areGrapesAllowed_75 rfl rfl rfl (by rw [agM, ef, eo]; exact (congrArg b2i (show agX _ _ _ _ = false from ag_f1 c50)).symm) rfl
      · skip
        refine pw_iload_n dX8_areGrapesAllowed_53 rfl ?_
        refine pw_iconst dX8_areGrapesAllowed_54 (v := (-1)) (by decide) ?_
        refine pw_icmp_eq dX8_areGrapesAllowed_55 (tgt := 70) (by decide) (fun c55 => ?_) (fun c55 => ?_)
        · skip
          refine pw_iconst dX8_areGrapesAllowed_70 (v := 1) (by decide) ?_
          refine pw_goto dX8_areGrapesAllowed_71 (tgt := 75) (by decide) ?_
          have ef : gsF h lot nH g 1000 = shM h lot 1 nH g := by rw [gsF, if_neg c2]
          have eo : gsF h lot nH s 0 = shM h lot 1 nH s := by rw [gsF, if_neg c22]
          exact pw_iretF dX8_areGrapesAllowed_75 rfl rfl rfl (by rw [agM, ef, eo]; exact (congrArg b2i (show agX _ _ _ _ = true from ag_t1 c50 c55)).symm) rfl
        · skip
          refine pw_iload dX8_areGrapesAllowed_58 rfl ?_
          refine pw_iload dX8_areGrapesAllowed_60 rfl ?_
          refine pw_icmp_lt dX8_areGrapesAllowed_62 (tgt := 74) (by decide) (fun c62 => ?_) (fun c62 => ?_)
          · skip
            refine pw_iconst dX8_areGrapesAllowed_74 (v := 0) (by decide) ?_
            have ef : gsF h lot nH g 1000 = shM h lot 1 nH g := by rw [gsF, if_neg c2]
            have eo : gsF h lot nH s 0 = shM h lot 1 nH s := by rw [gsF, if_neg c22]
            exact pw_iretF dX8_areGrapesAllowed_75 rfl rfl rfl (by rw [agM, ef, eo]; exact (congrArg b2i (show agX _ _ _ _ = false from ag_f2 c55 (Or.inl c62))).symm) rfl
          · skip
            refine pw_iload dX8_areGrapesAllowed_65 rfl ?_
            refine pw_if_eq dX8_areGrapesAllowed_67 (tgt := 74) (by decide) (fun c67 => ?_) (fun c67 => ?_)
            · skip
              refine pw_iconst dX8_areGrapesAllowed_74 (v := 0) (by decide) ?_
              have ef : gsF h lot nH g 1000 = shM h lot 1 nH g := by rw [gsF, if_neg c2]
              have eo : gsF h lot nH s 0 = shM h lot 1 nH s := by rw [gsF, if_neg c22]
              exact pw_iretF dX8_areGrapesAllowed_75 rfl rfl rfl (by rw [agM, ef, eo]; exact (congrArg b2i (show agX _ _ _ _ = false from ag_f2 c55 (Or.inr c67))).symm) rfl
            · skip
              refine pw_iconst dX8_areGrapesAllowed_70 (v := 1) (by decide) ?_
              refine pw_goto dX8_areGrapesAllowed_71 (tgt := 75) (by decide) ?_
              have ef : gsF h lot nH g 1000 = shM h lot 1 nH g := by rw [gsF, if_neg c2]
              have eo : gsF h lot nH s 0 = shM h lot 1 nH s := by rw [gsF, if_neg c22]
              exact pw_iretF dX8_areGrapesAllowed_75 rfl rfl rfl (by rw [agM, ef, eo]; exact (congrArg b2i (show agX _ _ _ _ = true from ag_t2 c50 c62 c67)).symm) rfl
    · skip
      refine pw_iconst dX8_areGrapesAllowed_25 (v := 0) (by decide) ?_
      refine pw_goto dX8_areGrapesAllowed_26 (tgt := 36) (by decide) ?_
      refine pw_istore dX8_areGrapesAllowed_36 (by decide) rfl ?_
      refine pw_iload dX8_areGrapesAllowed_38 rfl ?_
      refine pw_iload dX8_areGrapesAllowed_40 rfl ?_
      refine pw_iadd dX8_areGrapesAllowed_42 ?_
      refine pw_aload_n dX8_areGrapesAllowed_43 rfl ?_
      refine pw_getr dX8_areGrapesAllowed_44 lf_X8_9 sh_253 rfl ?_
      refine pw_bipush dX8_areGrapesAllowed_47 (v := 6) (by decide) ?_
      refine pw_iaload dX8_areGrapesAllowed_49 sh_254 (vpin (n := 6) (N := 1032) (by decide) (by decide)) ?_
      refine pw_icmp_lt dX8_areGrapesAllowed_50 (tgt := 74) (by decide) (fun c50 => ?_) (fun c50 => ?_)
      · skip
        refine pw_iconst dX8_areGrapesAllowed_74 (v := 0) (by decide) ?_
        have ef : gsF h lot nH g 1000 = shM h lot 1 nH g := by rw [gsF, if_neg c2]
        have eo : gsF h lot nH s 0 = 0 := by rw [gsF, if_pos c22]
        exact pw_iretF dX8_areGrapesAllowed_75 rfl rfl rfl (by rw [agM, ef, eo]; exact (congrArg b2i (show agX _ _ _ _ = false from ag_f1 c50)).symm) rfl
      · skip
        refine pw_iload_n dX8_areGrapesAllowed_53 rfl ?_
        refine pw_iconst dX8_areGrapesAllowed_54 (v := (-1)) (by decide) ?_
        refine pw_icmp_eq dX8_areGrapesAllowed_55 (tgt := 70) (by decide) (fun c55 => ?_) (fun c55 => ?_)
        · skip
          refine pw_iconst dX8_areGrapesAllowed_70 (v := 1) (by decide) ?_
          refine pw_goto dX8_areGrapesAllowed_71 (tgt := 75) (by decide) ?_
          have ef : gsF h lot nH g 1000 = shM h lot 1 nH g := by rw [gsF, if_neg c2]
          have eo : gsF h lot nH s 0 = 0 := by rw [gsF, if_pos c22]
          exact pw_iretF dX8_areGrapesAllowed_75 rfl rfl rfl (by rw [agM, ef, eo]; exact (congrArg b2i (show agX _ _ _ _ = true from ag_t1 c50 c55)).symm) rfl
        · skip
          refine pw_iload dX8_areGrapesAllowed_58 rfl ?_
          refine pw_iload dX8_areGrapesAllowed_60 rfl ?_
          refine pw_icmp_lt dX8_areGrapesAllowed_62 (tgt := 74) (by decide) (fun c62 => ?_) (fun c62 => ?_)
          · skip
            refine pw_iconst dX8_areGrapesAllowed_74 (v := 0) (by decide) ?_
            have ef : gsF h lot nH g 1000 = shM h lot 1 nH g := by rw [gsF, if_neg c2]
            have eo : gsF h lot nH s 0 = 0 := by rw [gsF, if_pos c22]
            exact pw_iretF dX8_areGrapesAllowed_75 rfl rfl rfl (by rw [agM, ef, eo]; exact (congrArg b2i (show agX _ _ _ _ = false from ag_f2 c55 (Or.inl c62))).symm) rfl
          · skip
            refine pw_iload dX8_areGrapesAllowed_65 rfl ?_
            refine pw_if_eq dX8_areGrapesAllowed_67 (tgt := 74) (by decide) (fun c67 => ?_) (fun c67 => absurd c67 (by decide))
            refine pw_iconst dX8_areGrapesAllowed_74 (v := 0) (by decide) ?_
            have ef : gsF h lot nH g 1000 = shM h lot 1 nH g := by rw [gsF, if_neg c2]
            have eo : gsF h lot nH s 0 = 0 := by rw [gsF, if_pos c22]
            exact pw_iretF dX8_areGrapesAllowed_75 rfl rfl rfl (by rw [agM, ef, eo]; exact (congrArg b2i (show agX _ _ _ _ = false from ag_f2 c55 (Or.inr c67))).symm) rfl
  · skip
    refine pw_sipush dX8_areGrapesAllowed_5 (v := 1000) (by decide) ?_
    refine pw_goto dX8_areGrapesAllowed_8 (tgt := 18) (by decide) ?_
    refine pw_istore dX8_areGrapesAllowed_18 (by decide) rfl ?_
    refine pw_iload_n dX8_areGrapesAllowed_20 rfl ?_
    refine pw_iconst dX8_areGrapesAllowed_21 (v := (-1)) (by decide) ?_
    refine pw_icmp_ne dX8_areGrapesAllowed_22 (tgt := 29) (by decide) (fun c22 => ?_) (fun c22 => ?_)
    · skip
      refine pw_aload_n dX8_areGrapesAllowed_29 rfl ?_
      refine pw_iload_n dX8_areGrapesAllowed_30 rfl ?_
      refine pw_iconst dX8_areGrapesAllowed_31 (v := 1) (by decide) ?_
      refine pw_iload_n dX8_areGrapesAllowed_32 rfl ?_
      refine pw_cV dX8_areGrapesAllowed_33 (sp_X8_shareOf hw hlot (w := 1) (by decide)) mi_X8_shareOf mv_X8_shareOf ml_X8_150 sh_253 rfl rfl rfl rfl ⟨rfl, rfl⟩ rfl rfl ?_
      refine pw_istore dX8_areGrapesAllowed_36 (by decide) rfl ?_
      refine pw_iload dX8_areGrapesAllowed_38 rfl ?_
      refine pw_iload dX8_areGrapesAllowed_40 rfl ?_
      refine pw_iadd dX8_areGrapesAllowed_42 ?_
      refine pw_aload_n dX8_areGrapesAllowed_43 rfl ?_
      refine pw_getr dX8_areGrapesAllowed_44 lf_X8_9 sh_253 rfl ?_
      refine pw_bipush dX8_areGrapesAllowed_47 (v := 6) (by decide) ?_
      refine pw_iaload dX8_areGrapesAllowed_49 sh_254 (vpin (n := 6) (N := 1032) (by decide) (by decide)) ?_
      refine pw_icmp_lt dX8_areGrapesAllowed_50 (tgt := 74) (by decide) (fun c50 => ?_) (fun c50 => ?_)
      · skip
        refine pw_iconst dX8_areGrapesAllowed_74 (v := 0) (by decide) ?_
        have ef : gsF h lot nH g 1000 = 1000 := by rw [gsF, if_pos c2]
        have eo : gsF h lot nH s 0 = shM h lot 1 nH s := by rw [gsF, if_neg c22]
        exact pw_iretF dX8_areGrapesAllowed_75 rfl rfl rfl (by rw [agM, ef, eo]; exact (congrArg b2i (show agX _ _ _ _ = false from ag_f1 c50)).symm) rfl
      · skip
        refine pw_iload_n dX8_areGrapesAllowed_53 rfl ?_
        refine pw_iconst dX8_areGrapesAllowed_54 (v := (-1)) (by decide) ?_
        refine pw_icmp_eq dX8_areGrapesAllowed_55 (tgt := 70) (by decide) (fun c55 => ?_) (fun c55 => ?_)
        · skip
          refine pw_iconst dX8_areGrapesAllowed_70 (v := 1) (by decide) ?_
          refine pw_goto dX8_areGrapesAllowed_71 (tgt := 75) (by decide) ?_
          have ef : gsF h lot nH g 1000 = 1000 := by rw [gsF, if_pos c2]
          have eo : gsF h lot nH s 0 = shM h lot 1 nH s := by rw [gsF, if_neg c22]
          exact pw_iretF dX8_areGrapesAllowed_75 rfl rfl rfl (by rw [agM, ef, eo]; exact (congrArg b2i (show agX _ _ _ _ = true from ag_t1 c50 c55)).symm) rfl
        · skip
          refine pw_iload dX8_areGrapesAllowed_58 rfl ?_
          refine pw_iload dX8_areGrapesAllowed_60 rfl ?_
          refine pw_icmp_lt dX8_areGrapesAllowed_62 (tgt := 74) (by decide) (fun c62 => ?_) (fun c62 => ?_)
          · skip
            refine pw_iconst dX8_areGrapesAllowed_74 (v := 0) (by decide) ?_
            have ef : gsF h lot nH g 1000 = 1000 := by rw [gsF, if_pos c2]
            have eo : gsF h lot nH s 0 = shM h lot 1 nH s := by rw [gsF, if_neg c22]
            exact pw_iretF dX8_areGrapesAllowed_75 rfl rfl rfl (by rw [agM, ef, eo]; exact (congrArg b2i (show agX _ _ _ _ = false from ag_f2 c55 (Or.inl c62))).symm) rfl
          · skip
            refine pw_iload dX8_areGrapesAllowed_65 rfl ?_
            refine pw_if_eq dX8_areGrapesAllowed_67 (tgt := 74) (by decide) (fun c67 => ?_) (fun c67 => ?_)
            · skip
              refine pw_iconst dX8_areGrapesAllowed_74 (v := 0) (by decide) ?_
              have ef : gsF h lot nH g 1000 = 1000 := by rw [gsF, if_pos c2]
              have eo : gsF h lot nH s 0 = shM h lot 1 nH s := by rw [gsF, if_neg c22]
              exact pw_iretF dX8_areGrapesAllowed_75 rfl rfl rfl (by rw [agM, ef, eo]; exact (congrArg b2i (show agX _ _ _ _ = false from ag_f2 c55 (Or.inr c67))).symm) rfl
            · skip
              refine pw_iconst dX8_areGrapesAllowed_70 (v := 1) (by decide) ?_
              refine pw_goto dX8_areGrapesAllowed_71 (tgt := 75) (by decide) ?_
              have ef : gsF h lot nH g 1000 = 1000 := by rw [gsF, if_pos c2]
              have eo : gsF h lot nH s 0 = shM h lot 1 nH s := by rw [gsF, if_neg c22]
              exact pw_iretF dX8_areGrapesAllowed_75 rfl rfl rfl (by rw [agM, ef, eo]; exact (congrArg b2i (show agX _ _ _ _ = true from ag_t2 c50 c62 c67)).symm) rfl
    · skip
      refine pw_iconst dX8_areGrapesAllowed_25 (v := 0) (by decide) ?_
      refine pw_goto dX8_areGrapesAllowed_26 (tgt := 36) (by decide) ?_
      refine pw_istore dX8_areGrapesAllowed_36 (by decide) rfl ?_
      refine pw_iload dX8_areGrapesAllowed_38 rfl ?_
      refine pw_iload dX8_areGrapesAllowed_40 rfl ?_
      refine pw_iadd dX8_areGrapesAllowed_42 ?_
      refine pw_aload_n dX8_areGrapesAllowed_43 rfl ?_
      refine pw_getr dX8_areGrapesAllowed_44 lf_X8_9 sh_253 rfl ?_
      refine pw_bipush dX8_areGrapesAllowed_47 (v := 6) (by decide) ?_
      refine pw_iaload dX8_areGrapesAllowed_49 sh_254 (vpin (n := 6) (N := 1032) (by decide) (by decide)) ?_
      refine pw_icmp_lt dX8_areGrapesAllowed_50 (tgt := 74) (by decide) (fun c50 => ?_) (fun c50 => ?_)
      · skip
        refine pw_iconst dX8_areGrapesAllowed_74 (v := 0) (by decide) ?_
        have ef : gsF h lot nH g 1000 = 1000 := by rw [gsF, if_pos c2]
        have eo : gsF h lot nH s 0 = 0 := by rw [gsF, if_pos c22]
        exact pw_iretF dX8_areGrapesAllowed_75 rfl rfl rfl (by rw [agM, ef, eo]; exact (congrArg b2i (show agX _ _ _ _ = false from ag_f1 c50)).symm) rfl
      · skip
        refine pw_iload_n dX8_areGrapesAllowed_53 rfl ?_
        refine pw_iconst dX8_areGrapesAllowed_54 (v := (-1)) (by decide) ?_
        refine pw_icmp_eq dX8_areGrapesAllowed_55 (tgt := 70) (by decide) (fun c55 => ?_) (fun c55 => ?_)
        · skip
          refine pw_iconst dX8_areGrapesAllowed_70 (v := 1) (by decide) ?_
          refine pw_goto dX8_areGrapesAllowed_71 (tgt := 75) (by decide) ?_
          have ef : gsF h lot nH g 1000 = 1000 := by rw [gsF, if_pos c2]
          have eo : gsF h lot nH s 0 = 0 := by rw [gsF, if_pos c22]
          exact pw_iretF dX8_areGrapesAllowed_75 rfl rfl rfl (by rw [agM, ef, eo]; exact (congrArg b2i (show agX _ _ _ _ = true from ag_t1 c50 c55)).symm) rfl
        · skip
          refine pw_iload dX8_areGrapesAllowed_58 rfl ?_
          refine pw_iload dX8_areGrapesAllowed_60 rfl ?_
          refine pw_icmp_lt dX8_areGrapesAllowed_62 (tgt := 74) (by decide) (fun c62 => ?_) (fun c62 => ?_)
          · skip
            refine pw_iconst dX8_areGrapesAllowed_74 (v := 0) (by decide) ?_
            have ef : gsF h lot nH g 1000 = 1000 := by rw [gsF, if_pos c2]
            have eo : gsF h lot nH s 0 = 0 := by rw [gsF, if_pos c22]
            exact pw_iretF dX8_areGrapesAllowed_75 rfl rfl rfl (by rw [agM, ef, eo]; exact (congrArg b2i (show agX _ _ _ _ = false from ag_f2 c55 (Or.inl c62))).symm) rfl
          · skip
            refine pw_iload dX8_areGrapesAllowed_65 rfl ?_
            refine pw_if_eq dX8_areGrapesAllowed_67 (tgt := 74) (by decide) (fun c67 => ?_) (fun c67 => absurd c67 (by decide))
            refine pw_iconst dX8_areGrapesAllowed_74 (v := 0) (by decide) ?_
            have ef : gsF h lot nH g 1000 = 1000 := by rw [gsF, if_pos c2]
            have eo : gsF h lot nH s 0 = 0 := by rw [gsF, if_pos c22]
            exact pw_iretF dX8_areGrapesAllowed_75 rfl rfl rfl (by rw [agM, ef, eo]; exact (congrArg b2i (show agX _ _ _ _ = false from ag_f2 c55 (Or.inr c67))).symm) rfl

set_option maxRecDepth 100000 in
set_option maxHeartbeats 4000000 in
theorem sp_X8_forbidding {l : Launch} {G : GC} {ad : Nat → Nat} {h : HP} {nL nH nB nC : Nat} {np : Nat → Nat} {pl : Nat → Nat → Nat} {lb : Nat → Nat} (hw : MW h nL nH nB nC np pl lb) {lot : Nat} (hlot : lot < 24) {v g s r : Int32} : PF l G yX8_forbidding (.code yX8_forbidding cX8_forbidding 6 ((Option.some FieldType.int))) { frames := 3, cells := 0, slots := 0, locals := 72 } [.ref (ad 253), .int (nI lot), .int (v), .int (g), .int (s), .int (r)] SW ad (h) (some (.int (fbM h lot nH v g s r))) (h) := by
  refine PF.mk (L0 := [some (.ref (ad 253)), some (.int (nI lot)), some (.int (v)), some (.int (g)), some (.int (s)), some (.int (r))]) RX8 "forbidding" 0 0 (by decide +kernel) rfl rfl ⟨rfl, rfl⟩ (by simp [Value.category]) (Nat.le_of_ble_eq_true rfl) rfl ?_
  refine pw_iload_n dX8_forbidding_0 rfl ?_
  refine pw_iconst dX8_forbidding_1 (v := (-1)) (by decide) ?_
  refine pw_icmp_eq dX8_forbidding_2 (tgt := 24) (by decide) (fun c2 => ?_) (fun c2 => ?_)
  · skip
    have f1 : ¬ (¬ v = -1 ∧ shM h lot 0 nH v < h 254 5) := fun q => q.1 c2
    refine pw_aload_n dX8_forbidding_24 rfl ?_
    refine pw_iload_n dX8_forbidding_25 rfl ?_
    refine pw_iload_n dX8_forbidding_26 rfl ?_
    refine pw_iload dX8_forbidding_27 rfl ?_
    refine pw_cV dX8_forbidding_29 (sp_X8_areGrapesAllowed hw hlot) mi_X8_areGrapesAllowed mv_X8_areGrapesAllowed ml_X8_155 sh_253 rfl rfl rfl rfl ⟨rfl, rfl⟩ rfl rfl ?_
    refine pw_if_ne dX8_forbidding_32 (tgt := 38) (by decide) (fun c32 => ?_) (fun c32 => ?_)
    · skip
      refine pw_iload dX8_forbidding_38 rfl ?_
      refine pw_iconst dX8_forbidding_40 (v := (-1)) (by decide) ?_
      refine pw_icmp_eq dX8_forbidding_41 (tgt := 67) (by decide) (fun c41 => ?_) (fun c41 => ?_)
      · skip
        have f3 : ¬ (¬ r = -1 ∧ shM h lot 2 nH r < h 254 7) := fun q => q.1 c41
        refine pw_iconst dX8_forbidding_67 (v := 0) (by decide) ?_
        exact pw_iretF dX8_forbidding_68 rfl rfl rfl (by rw [fbM, if_neg f1, if_neg (by rw [b2i_ne c32]; decide), if_neg f3]) rfl
      · skip
        refine pw_aload_n dX8_forbidding_44 rfl ?_
        refine pw_iload_n dX8_forbidding_45 rfl ?_
        refine pw_iconst dX8_forbidding_46 (v := 2) (by decide) ?_
        refine pw_iload dX8_forbidding_47 rfl ?_
        refine pw_cV dX8_forbidding_49 (sp_X8_shareOf hw hlot (w := 2) (by decide)) mi_X8_shareOf mv_X8_shareOf ml_X8_150 sh_253 rfl rfl rfl rfl ⟨rfl, rfl⟩ rfl rfl ?_
        refine pw_aload_n dX8_forbidding_52 rfl ?_
        refine pw_getr dX8_forbidding_53 lf_X8_9 sh_253 rfl ?_
        refine pw_bipush dX8_forbidding_56 (v := 7) (by decide) ?_
        refine pw_iaload dX8_forbidding_58 sh_254 (vpin (n := 7) (N := 1032) (by decide) (by decide)) ?_
        refine pw_icmp_ge dX8_forbidding_59 (tgt := 67) (by decide) (fun c59 => ?_) (fun c59 => ?_)
        · skip
          have f3 : ¬ (¬ r = -1 ∧ shM h lot 2 nH r < h 254 7) := fun q => absurd q.2 (Int32.not_lt.mpr c59)
          refine pw_iconst dX8_forbidding_67 (v := 0) (by decide) ?_
          exact pw_iretF dX8_forbidding_68 rfl rfl rfl (by rw [fbM, if_neg f1, if_neg (by rw [b2i_ne c32]; decide), if_neg f3]) rfl
        · skip
          refine pw_bipush dX8_forbidding_62 (v := 8) (by decide) ?_
          refine pw_goto dX8_forbidding_64 (tgt := 68) (by decide) ?_
          exact pw_iretF dX8_forbidding_68 rfl rfl rfl (by rw [fbM, if_neg f1, if_neg (by rw [b2i_ne c32]; decide), if_pos (show ¬ r = -1 ∧ shM h lot 2 nH r < h 254 7 from ⟨c41, Int32.not_le.mp c59⟩)]) rfl
    · skip
      refine pw_bipush dX8_forbidding_35 (v := 7) (by decide) ?_
      exact pw_iretF dX8_forbidding_37 rfl rfl rfl (by rw [fbM, if_neg f1, if_pos (b2i_eq c32)]) rfl
  · skip
    refine pw_aload_n dX8_forbidding_5 rfl ?_
    refine pw_iload_n dX8_forbidding_6 rfl ?_
    refine pw_iconst dX8_forbidding_7 (v := 0) (by decide) ?_
    refine pw_iload_n dX8_forbidding_8 rfl ?_
    refine pw_cV dX8_forbidding_9 (sp_X8_shareOf hw hlot (w := 0) (by decide)) mi_X8_shareOf mv_X8_shareOf ml_X8_150 sh_253 rfl rfl rfl rfl ⟨rfl, rfl⟩ rfl rfl ?_
    refine pw_aload_n dX8_forbidding_12 rfl ?_
    refine pw_getr dX8_forbidding_13 lf_X8_9 sh_253 rfl ?_
    refine pw_iconst dX8_forbidding_16 (v := 5) (by decide) ?_
    refine pw_iaload dX8_forbidding_17 sh_254 (vpin (n := 5) (N := 1032) (by decide) (by decide)) ?_
    refine pw_icmp_ge dX8_forbidding_18 (tgt := 24) (by decide) (fun c18 => ?_) (fun c18 => ?_)
    · skip
      have f1 : ¬ (¬ v = -1 ∧ shM h lot 0 nH v < h 254 5) := fun q => absurd q.2 (Int32.not_lt.mpr c18)
      refine pw_aload_n dX8_forbidding_24 rfl ?_
      refine pw_iload_n dX8_forbidding_25 rfl ?_
      refine pw_iload_n dX8_forbidding_26 rfl ?_
      refine pw_iload dX8_forbidding_27 rfl ?_
      refine pw_cV dX8_forbidding_29 (sp_X8_areGrapesAllowed hw hlot) mi_X8_areGrapesAllowed mv_X8_areGrapesAllowed ml_X8_155 sh_253 rfl rfl rfl rfl ⟨rfl, rfl⟩ rfl rfl ?_
      refine pw_if_ne dX8_forbidding_32 (tgt := 38) (by decide) (fun c32 => ?_) (fun c32 => ?_)
      · skip
        refine pw_iload dX8_forbidding_38 rfl ?_
        refine pw_iconst dX8_forbidding_40 (v := (-1)) (by decide) ?_
        refine pw_icmp_eq dX8_forbidding_41 (tgt := 67) (by decide) (fun c41 => ?_) (fun c41 => ?_)
        · skip
          have f3 : ¬ (¬ r = -1 ∧ shM h lot 2 nH r < h 254 7) := fun q => q.1 c41
          refine pw_iconst dX8_forbidding_67 (v := 0) (by decide) ?_
          exact pw_iretF dX8_forbidding_68 rfl rfl rfl (by rw [fbM, if_neg f1, if_neg (by rw [b2i_ne c32]; decide), if_neg f3]) rfl
        · skip
          refine pw_aload_n dX8_forbidding_44 rfl ?_
          refine pw_iload_n dX8_forbidding_45 rfl ?_
          refine pw_iconst dX8_forbidding_46 (v := 2) (by decide) ?_
          refine pw_iload dX8_forbidding_47 rfl ?_
          refine pw_cV dX8_forbidding_49 (sp_X8_shareOf hw hlot (w := 2) (by decide)) mi_X8_shareOf mv_X8_shareOf ml_X8_150 sh_253 rfl rfl rfl rfl ⟨rfl, rfl⟩ rfl rfl ?_
          refine pw_aload_n dX8_forbidding_52 rfl ?_
          refine pw_getr dX8_forbidding_53 lf_X8_9 sh_253 rfl ?_
          refine pw_bipush dX8_forbidding_56 (v := 7) (by decide) ?_
          refine pw_iaload dX8_forbidding_58 sh_254 (vpin (n := 7) (N := 1032) (by decide) (by decide)) ?_
          refine pw_icmp_ge dX8_forbidding_59 (tgt := 67) (by decide) (fun c59 => ?_) (fun c59 => ?_)
          · skip
            have f3 : ¬ (¬ r = -1 ∧ shM h lot 2 nH r < h 254 7) := fun q => absurd q.2 (Int32.not_lt.mpr c59)
            refine pw_iconst dX8_forbidding_67 (v := 0) (by decide) ?_
            exact pw_iretF dX8_forbidding_68 rfl rfl rfl (by rw [fbM, if_neg f1, if_neg (by rw [b2i_ne c32]; decide), if_neg f3]) rfl
          · skip
            refine pw_bipush dX8_forbidding_62 (v := 8) (by decide) ?_
            refine pw_goto dX8_forbidding_64 (tgt := 68) (by decide) ?_
            exact pw_iretF dX8_forbidding_68 rfl rfl rfl (by rw [fbM, if_neg f1, if_neg (by rw [b2i_ne c32]; decide), if_pos (show ¬ r = -1 ∧ shM h lot 2 nH r < h 254 7 from ⟨c41, Int32.not_le.mp c59⟩)]) rfl
      · skip
        refine pw_bipush dX8_forbidding_35 (v := 7) (by decide) ?_
        exact pw_iretF dX8_forbidding_37 rfl rfl rfl (by rw [fbM, if_neg f1, if_pos (b2i_eq c32)]) rfl
    · skip
      refine pw_bipush dX8_forbidding_21 (v := 6) (by decide) ?_
      exact pw_iretF dX8_forbidding_23 rfl rfl rfl (by rw [fbM, if_pos (show ¬ v = -1 ∧ shM h lot 0 nH v < h 254 5 from ⟨c2, Int32.not_le.mp c18⟩)]) rfl

set_option maxRecDepth 100000 in
set_option maxHeartbeats 4000000 in
theorem sp_X8_isAllowedNow {l : Launch} {G : GC} {ad : Nat → Nat} {h : HP} {nL nH nB nC : Nat} {np : Nat → Nat} {pl : Nat → Nat → Nat} {lb : Nat → Nat} (hw : MW h nL nH nB nC np pl lb) {b : Nat} (hb : b < 16) : PF l G yX8_isAllowedNow (.code yX8_isAllowedNow cX8_isAllowedNow 2 ((Option.some FieldType.boolean))) { frames := 4, cells := 0, slots := 0, locals := 97 } [.ref (ad 253), .int (nI b)] SW ad (h) (some (.int (b2i (decide (fbM h (lb b) nH (mB h b 3) (mB h b 4) (mB h b 5) (mB h b 6) = 0))))) (h) := by
  refine PF.mk (L0 := [some (.ref (ad 253)), some (.int (nI b))]) RX8 "isAllowedNow" 0 0 (by decide +kernel) rfl rfl ⟨rfl, rfl⟩ (by simp [Value.category]) (Nat.le_of_ble_eq_true rfl) rfl ?_
  refine pw_aload_n dX8_isAllowedNow_0 rfl ?_
  refine pw_aload_n dX8_isAllowedNow_1 rfl ?_
  refine pw_iload_n dX8_isAllowedNow_2 rfl ?_
  refine pw_iconst dX8_isAllowedNow_3 (v := 0) (by decide) ?_
  refine pw_cV dX8_isAllowedNow_4 (sp_X8_b (b := b) (k := 0) (by omega)) mi_X8_b mv_X8_b ml_X8_169 sh_253 rfl rfl rfl rfl ⟨rfl, rfl⟩ rfl rfl ?_
  rw [(hw.2.2.2.2.2.2 b hb).1]
  refine pw_aload_n dX8_isAllowedNow_7 rfl ?_
  refine pw_iload_n dX8_isAllowedNow_8 rfl ?_
  refine pw_iconst dX8_isAllowedNow_9 (v := 3) (by decide) ?_
  refine pw_cV dX8_isAllowedNow_10 (sp_X8_b (b := b) (k := 3) (by omega)) mi_X8_b mv_X8_b ml_X8_169 sh_253 rfl rfl rfl rfl ⟨rfl, rfl⟩ rfl rfl ?_
  refine pw_aload_n dX8_isAllowedNow_13 rfl ?_
  refine pw_iload_n dX8_isAllowedNow_14 rfl ?_
  refine pw_iconst dX8_isAllowedNow_15 (v := 4) (by decide) ?_
  refine pw_cV dX8_isAllowedNow_16 (sp_X8_b (b := b) (k := 4) (by omega)) mi_X8_b mv_X8_b ml_X8_169 sh_253 rfl rfl rfl rfl ⟨rfl, rfl⟩ rfl rfl ?_
  refine pw_aload_n dX8_isAllowedNow_19 rfl ?_
  refine pw_iload_n dX8_isAllowedNow_20 rfl ?_
  refine pw_iconst dX8_isAllowedNow_21 (v := 5) (by decide) ?_
  refine pw_cV dX8_isAllowedNow_22 (sp_X8_b (b := b) (k := 5) (by omega)) mi_X8_b mv_X8_b ml_X8_169 sh_253 rfl rfl rfl rfl ⟨rfl, rfl⟩ rfl rfl ?_
  refine pw_aload_n dX8_isAllowedNow_25 rfl ?_
  refine pw_iload_n dX8_isAllowedNow_26 rfl ?_
  refine pw_bipush dX8_isAllowedNow_27 (v := 6) (by decide) ?_
  refine pw_cV dX8_isAllowedNow_29 (sp_X8_b (b := b) (k := 6) (by omega)) mi_X8_b mv_X8_b ml_X8_169 sh_253 rfl rfl rfl rfl ⟨rfl, rfl⟩ rfl rfl ?_
  refine pw_cV dX8_isAllowedNow_32 (sp_X8_forbidding hw (lot := lb b) (hw.2.2.2.2.2.2 b hb).2) mi_X8_forbidding mv_X8_forbidding ml_X8_162 sh_253 rfl rfl rfl rfl ⟨rfl, rfl⟩ rfl rfl ?_
  refine pw_if_ne dX8_isAllowedNow_35 (tgt := 42) (by decide) (fun c35 => ?_) (fun c35 => ?_)
  · skip
    refine pw_iconst dX8_isAllowedNow_42 (v := 0) (by decide) ?_
    exact pw_iretF dX8_isAllowedNow_43 rfl rfl rfl (by rw [decide_eq_false c35]; rfl) rfl
  · skip
    refine pw_iconst dX8_isAllowedNow_38 (v := 1) (by decide) ?_
    refine pw_goto dX8_isAllowedNow_39 (tgt := 43) (by decide) ?_
    exact pw_iretF dX8_isAllowedNow_43 rfl rfl rfl (by rw [decide_eq_true c35]; rfl) rfl

