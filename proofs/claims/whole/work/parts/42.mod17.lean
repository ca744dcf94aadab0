/-! THE MODEL'S CALLS, first part -/
theorem b2iF {b : Bool} (e : b = false) : b2i b = 0 := by rw [e]; rfl
theorem b2iT {b : Bool} (e : b = true) : ¬ b2i b = 0 := by rw [e]; decide
theorem ixM0 (c m a : Nat) : nI c + nI m * nI a = nI (c + m * a) := by rw [pk_mul, nI_add]
def haH (g : HP) (nH : Nat) (v gr r q : Int32) : HP := hput (hput (hput (hput (hput g 254 (608 + 4 * nH) v) 254 (608 + 4 * nH + 1) gr) 254 (608 + 4 * nH + 2) r) 254 (608 + 4 * nH + 3) q) 254 1 (nI (nH + 1))
def harM (g : HP) (nL nH : Nat) (v gr r q : Int32) : HP := sL (coH (haH g nH v gr r q) nL q 0 (nI nH)) nL (13 + nH) 1000
def spiM (g : HP) (lot : Nat) (q : Int32) : HP := hput (sL g lot 1 (mL g lot 1 - q)) 254 4 (sL g lot 1 (mL g lot 1 - q) 254 4 + q)
set_option maxRecDepth 100000 in
set_option maxHeartbeats 4000000 in
theorem sp_X8_harvest_no1 {l : Launch} {G : GC} {ad : Nat → Nat} {h : HP} {v g r q : Int32} (e1 : wiB v 0 99 = false) : PF l G yX8_harvest (.code yX8_harvest cX8_harvest 7 ((Option.some FieldType.int))) { frames := 2, cells := 0, slots := 0, locals := 48 } [.ref (ad 253), .int (v), .int (g), .int (r), .int (q)] SW ad (h) (some (.int 0)) (faH (faH h 0) 1) := by
  refine PF.mk (L0 := [some (.ref (ad 253)), some (.int (v)), some (.int (g)), some (.int (r)), some (.int (q)), none, none]) RX8 "harvest" 0 0 (by decide +kernel) rfl rfl ⟨rfl, rfl⟩ (by simp [Value.category]) (Nat.le_of_ble_eq_true rfl) rfl ?_
  refine pw_aload_n dX8_harvest_0 rfl ?_
  refine pw_iconst dX8_harvest_1 (v := 0) (by decide) ?_
  refine pw_puti dX8_harvest_2 lf_X8_42 lp_8_5 sh_253 rfl rfl rfl ?_
  refine pw_iload_n dX8_harvest_5 rfl ?_
  refine pw_iconst dX8_harvest_6 (v := 0) (by decide) ?_
  refine pw_bipush dX8_harvest_7 (v := 99) (by decide) ?_
  refine pw_cS dX8_harvest_9 (sp_X8_isIn) mi_X8_isIn ms_X8_isIn ml_X8_55 rfl rfl ⟨rfl, rfl⟩ rfl rfl ?_
  refine pw_if_eq dX8_harvest_12 (tgt := 45) (by decide) (fun c12 => ?_) (fun c12 => absurd c12 (fun q => q (b2iF e1)))
  refine pw_aload_n dX8_harvest_45 rfl ?_
  refine pw_iconst dX8_harvest_46 (v := 1) (by decide) ?_
  refine pw_cV dX8_harvest_47 (sp_X8_fail) mi_X8_fail mv_X8_fail ml_X8_48 sh_253 rfl rfl rfl rfl ⟨rfl, rfl⟩ rfl rfl ?_
  exact pw_iretF dX8_harvest_50 rfl rfl rfl rfl rfl

set_option maxRecDepth 100000 in
set_option maxHeartbeats 4000000 in
theorem sp_X8_harvest_no2 {l : Launch} {G : GC} {ad : Nat → Nat} {h : HP} {v g r q : Int32} (e1 : wiB v 0 99 = true) (e2 : wiB g 0 4 = false) : PF l G yX8_harvest (.code yX8_harvest cX8_harvest 7 ((Option.some FieldType.int))) { frames := 2, cells := 0, slots := 0, locals := 48 } [.ref (ad 253), .int (v), .int (g), .int (r), .int (q)] SW ad (h) (some (.int 0)) (faH (faH h 0) 1) := by
  refine PF.mk (L0 := [some (.ref (ad 253)), some (.int (v)), some (.int (g)), some (.int (r)), some (.int (q)), none, none]) RX8 "harvest" 0 0 (by decide +kernel) rfl rfl ⟨rfl, rfl⟩ (by simp [Value.category]) (Nat.le_of_ble_eq_true rfl) rfl ?_
  refine pw_aload_n dX8_harvest_0 rfl ?_
  refine pw_iconst dX8_harvest_1 (v := 0) (by decide) ?_
  refine pw_puti dX8_harvest_2 lf_X8_42 lp_8_5 sh_253 rfl rfl rfl ?_
  refine pw_iload_n dX8_harvest_5 rfl ?_
  refine pw_iconst dX8_harvest_6 (v := 0) (by decide) ?_
  refine pw_bipush dX8_harvest_7 (v := 99) (by decide) ?_
  refine pw_cS dX8_harvest_9 (sp_X8_isIn) mi_X8_isIn ms_X8_isIn ml_X8_55 rfl rfl ⟨rfl, rfl⟩ rfl rfl ?_
  refine pw_if_eq dX8_harvest_12 (tgt := 45) (by decide) (fun c12 => absurd c12 (b2iT e1)) (fun c12 => ?_)
  refine pw_iload_n dX8_harvest_15 rfl ?_
  refine pw_iconst dX8_harvest_16 (v := 0) (by decide) ?_
  refine pw_iconst dX8_harvest_17 (v := 4) (by decide) ?_
  refine pw_cS dX8_harvest_18 (sp_X8_isIn) mi_X8_isIn ms_X8_isIn ml_X8_55 rfl rfl ⟨rfl, rfl⟩ rfl rfl ?_
  refine pw_if_eq dX8_harvest_21 (tgt := 45) (by decide) (fun c21 => ?_) (fun c21 => absurd c21 (fun q => q (b2iF e2)))
  refine pw_aload_n dX8_harvest_45 rfl ?_
  refine pw_iconst dX8_harvest_46 (v := 1) (by decide) ?_
  refine pw_cV dX8_harvest_47 (sp_X8_fail) mi_X8_fail mv_X8_fail ml_X8_48 sh_253 rfl rfl rfl rfl ⟨rfl, rfl⟩ rfl rfl ?_
  exact pw_iretF dX8_harvest_50 rfl rfl rfl rfl rfl

set_option maxRecDepth 100000 in
set_option maxHeartbeats 4000000 in
theorem sp_X8_harvest_no3 {l : Launch} {G : GC} {ad : Nat → Nat} {h : HP} {v g r q : Int32} (e1 : wiB v 0 99 = true) (e2 : wiB g 0 4 = true) (e3 : wiB r 0 3 = false) : PF l G yX8_harvest (.code yX8_harvest cX8_harvest 7 ((Option.some FieldType.int))) { frames := 2, cells := 0, slots := 0, locals := 48 } [.ref (ad 253), .int (v), .int (g), .int (r), .int (q)] SW ad (h) (some (.int 0)) (faH (faH h 0) 1) := by
  refine PF.mk (L0 := [some (.ref (ad 253)), some (.int (v)), some (.int (g)), some (.int (r)), some (.int (q)), none, none]) RX8 "harvest" 0 0 (by decide +kernel) rfl rfl ⟨rfl, rfl⟩ (by simp [Value.category]) (Nat.le_of_ble_eq_true rfl) rfl ?_
  refine pw_aload_n dX8_harvest_0 rfl ?_
  refine pw_iconst dX8_harvest_1 (v := 0) (by decide) ?_
  refine pw_puti dX8_harvest_2 lf_X8_42 lp_8_5 sh_253 rfl rfl rfl ?_
  refine pw_iload_n dX8_harvest_5 rfl ?_
  refine pw_iconst dX8_harvest_6 (v := 0) (by decide) ?_
  refine pw_bipush dX8_harvest_7 (v := 99) (by decide) ?_
  refine pw_cS dX8_harvest_9 (sp_X8_isIn) mi_X8_isIn ms_X8_isIn ml_X8_55 rfl rfl ⟨rfl, rfl⟩ rfl rfl ?_
  refine pw_if_eq dX8_harvest_12 (tgt := 45) (by decide) (fun c12 => absurd c12 (b2iT e1)) (fun c12 => ?_)
  refine pw_iload_n dX8_harvest_15 rfl ?_
  refine pw_iconst dX8_harvest_16 (v := 0) (by decide) ?_
  refine pw_iconst dX8_harvest_17 (v := 4) (by decide) ?_
  refine pw_cS dX8_harvest_18 (sp_X8_isIn) mi_X8_isIn ms_X8_isIn ml_X8_55 rfl rfl ⟨rfl, rfl⟩ rfl rfl ?_
  refine pw_if_eq dX8_harvest_21 (tgt := 45) (by decide) (fun c21 => absurd c21 (b2iT e2)) (fun c21 => ?_)
  refine pw_iload_n dX8_harvest_24 rfl ?_
  refine pw_iconst dX8_harvest_25 (v := 0) (by decide) ?_
  refine pw_iconst dX8_harvest_26 (v := 3) (by decide) ?_
  refine pw_cS dX8_harvest_27 (sp_X8_isIn) mi_X8_isIn ms_X8_isIn ml_X8_55 rfl rfl ⟨rfl, rfl⟩ rfl rfl ?_
  refine pw_if_eq dX8_harvest_30 (tgt := 45) (by decide) (fun c30 => ?_) (fun c30 => absurd c30 (fun q => q (b2iF e3)))
  refine pw_aload_n dX8_harvest_45 rfl ?_
  refine pw_iconst dX8_harvest_46 (v := 1) (by decide) ?_
  refine pw_cV dX8_harvest_47 (sp_X8_fail) mi_X8_fail mv_X8_fail ml_X8_48 sh_253 rfl rfl rfl rfl ⟨rfl, rfl⟩ rfl rfl ?_
  exact pw_iretF dX8_harvest_50 rfl rfl rfl rfl rfl

set_option maxRecDepth 100000 in
set_option maxHeartbeats 4000000 in
theorem sp_X8_harvest_no4 {l : Launch} {G : GC} {ad : Nat → Nat} {h : HP} {v g r q : Int32} (e1 : wiB v 0 99 = true) (e2 : wiB g 0 4 = true) (e3 : wiB r 0 3 = true) (e4 : wiB q 1 9999 = false) : PF l G yX8_harvest (.code yX8_harvest cX8_harvest 7 ((Option.some FieldType.int))) { frames := 2, cells := 0, slots := 0, locals := 48 } [.ref (ad 253), .int (v), .int (g), .int (r), .int (q)] SW ad (h) (some (.int 0)) (faH (faH h 0) 1) := by
  refine PF.mk (L0 := [some (.ref (ad 253)), some (.int (v)), some (.int (g)), some (.int (r)), some (.int (q)), none, none]) RX8 "harvest" 0 0 (by decide +kernel) rfl rfl ⟨rfl, rfl⟩ (by simp [Value.category]) (Nat.le_of_ble_eq_true rfl) rfl ?_
  refine pw_aload_n dX8_harvest_0 rfl ?_
  refine pw_iconst dX8_harvest_1 (v := 0) (by decide) ?_
  refine pw_puti dX8_harvest_2 lf_X8_42 lp_8_5 sh_253 rfl rfl rfl ?_
  refine pw_iload_n dX8_harvest_5 rfl ?_
  refine pw_iconst dX8_harvest_6 (v := 0) (by decide) ?_
  refine pw_bipush dX8_harvest_7 (v := 99) (by decide) ?_
  refine pw_cS dX8_harvest_9 (sp_X8_isIn) mi_X8_isIn ms_X8_isIn ml_X8_55 rfl rfl ⟨rfl, rfl⟩ rfl rfl ?_
  refine pw_if_eq dX8_harvest_12 (tgt := 45) (by decide) (fun c12 => absurd c12 (b2iT e1)) (fun c12 => ?_)
  refine pw_iload_n dX8_harvest_15 rfl ?_
  refine pw_iconst dX8_harvest_16 (v := 0) (by decide) ?_
  refine pw_iconst dX8_harvest_17 (v := 4) (by decide) ?_
  refine pw_cS dX8_harvest_18 (sp_X8_isIn) mi_X8_isIn ms_X8_isIn ml_X8_55 rfl rfl ⟨rfl, rfl⟩ rfl rfl ?_
  refine pw_if_eq dX8_harvest_21 (tgt := 45) (by decide) (fun c21 => absurd c21 (b2iT e2)) (fun c21 => ?_)
  refine pw_iload_n dX8_harvest_24 rfl ?_
  refine pw_iconst dX8_harvest_25 (v := 0) (by decide) ?_
  refine pw_iconst dX8_harvest_26 (v := 3) (by decide) ?_
  refine pw_cS dX8_harvest_27 (sp_X8_isIn) mi_X8_isIn ms_X8_isIn ml_X8_55 rfl rfl ⟨rfl, rfl⟩ rfl rfl ?_
  refine pw_if_eq dX8_harvest_30 (tgt := 45) (by decide) (fun c30 => absurd c30 (b2iT e3)) (fun c30 => ?_)
  refine pw_iload dX8_harvest_33 rfl ?_
  refine pw_iconst dX8_harvest_35 (v := 1) (by decide) ?_
  refine pw_sipush dX8_harvest_36 (v := 9999) (by decide) ?_
  refine pw_cS dX8_harvest_39 (sp_X8_isIn) mi_X8_isIn ms_X8_isIn ml_X8_55 rfl rfl ⟨rfl, rfl⟩ rfl rfl ?_
  refine pw_if_ne dX8_harvest_42 (tgt := 51) (by decide) (fun c42 => absurd c42 (fun q => q (b2iF e4))) (fun c42 => ?_)
  refine pw_aload_n dX8_harvest_45 rfl ?_
  refine pw_iconst dX8_harvest_46 (v := 1) (by decide) ?_
  refine pw_cV dX8_harvest_47 (sp_X8_fail) mi_X8_fail mv_X8_fail ml_X8_48 sh_253 rfl rfl rfl rfl ⟨rfl, rfl⟩ rfl rfl ?_
  exact pw_iretF dX8_harvest_50 rfl rfl rfl rfl rfl

set_option maxRecDepth 100000 in
set_option maxHeartbeats 4000000 in
theorem sp_X8_harvest_fl1 {l : Launch} {G : GC} {ad : Nat → Nat} {h : HP} {v g r q : Int32} (e1 : wiB v 0 99 = true) (e2 : wiB g 0 4 = true) (e3 : wiB r 0 3 = true) (e4 : wiB q 1 9999 = true) (e5 : h 254 0 = 24) : PF l G yX8_harvest (.code yX8_harvest cX8_harvest 7 ((Option.some FieldType.int))) { frames := 2, cells := 0, slots := 0, locals := 48 } [.ref (ad 253), .int (v), .int (g), .int (r), .int (q)] SW ad (h) (some (.int 0)) (faH (faH h 0) 2) := by
  refine PF.mk (L0 := [some (.ref (ad 253)), some (.int (v)), some (.int (g)), some (.int (r)), some (.int (q)), none, none]) RX8 "harvest" 0 0 (by decide +kernel) rfl rfl ⟨rfl, rfl⟩ (by simp [Value.category]) (Nat.le_of_ble_eq_true rfl) rfl ?_
  refine pw_aload_n dX8_harvest_0 rfl ?_
  refine pw_iconst dX8_harvest_1 (v := 0) (by decide) ?_
  refine pw_puti dX8_harvest_2 lf_X8_42 lp_8_5 sh_253 rfl rfl rfl ?_
  refine pw_iload_n dX8_harvest_5 rfl ?_
  refine pw_iconst dX8_harvest_6 (v := 0) (by decide) ?_
  refine pw_bipush dX8_harvest_7 (v := 99) (by decide) ?_
  refine pw_cS dX8_harvest_9 (sp_X8_isIn) mi_X8_isIn ms_X8_isIn ml_X8_55 rfl rfl ⟨rfl, rfl⟩ rfl rfl ?_
  refine pw_if_eq dX8_harvest_12 (tgt := 45) (by decide) (fun c12 => absurd c12 (b2iT e1)) (fun c12 => ?_)
  refine pw_iload_n dX8_harvest_15 rfl ?_
  refine pw_iconst dX8_harvest_16 (v := 0) (by decide) ?_
  refine pw_iconst dX8_harvest_17 (v := 4) (by decide) ?_
  refine pw_cS dX8_harvest_18 (sp_X8_isIn) mi_X8_isIn ms_X8_isIn ml_X8_55 rfl rfl ⟨rfl, rfl⟩ rfl rfl ?_
  refine pw_if_eq dX8_harvest_21 (tgt := 45) (by decide) (fun c21 => absurd c21 (b2iT e2)) (fun c21 => ?_)
  refine pw_iload_n dX8_harvest_24 rfl ?_
  refine pw_iconst dX8_harvest_25 (v := 0) (by decide) ?_
  refine pw_iconst dX8_harvest_26 (v := 3) (by decide) ?_
  refine pw_cS dX8_harvest_27 (sp_X8_isIn) mi_X8_isIn ms_X8_isIn ml_X8_55 rfl rfl ⟨rfl, rfl⟩ rfl rfl ?_
  refine pw_if_eq dX8_harvest_30 (tgt := 45) (by decide) (fun c30 => absurd c30 (b2iT e3)) (fun c30 => ?_)
  refine pw_iload dX8_harvest_33 rfl ?_
  refine pw_iconst dX8_harvest_35 (v := 1) (by decide) ?_
  refine pw_sipush dX8_harvest_36 (v := 9999) (by decide) ?_
  refine pw_cS dX8_harvest_39 (sp_X8_isIn) mi_X8_isIn ms_X8_isIn ml_X8_55 rfl rfl ⟨rfl, rfl⟩ rfl rfl ?_
  refine pw_if_ne dX8_harvest_42 (tgt := 51) (by decide) (fun c42 => ?_) (fun c42 => absurd c42 (b2iT e4))
  refine pw_aload_n dX8_harvest_51 rfl ?_
  refine pw_getr dX8_harvest_52 lf_X8_9 sh_253 rfl ?_
  refine pw_iconst dX8_harvest_55 (v := 0) (by decide) ?_
  refine pw_iaload dX8_harvest_56 sh_254 (vpin (n := 0) (N := 1032) (by decide) (by decide)) ?_
  refine pw_bipush dX8_harvest_57 (v := 24) (by decide) ?_
  refine pw_icmp_eq dX8_harvest_59 (tgt := 73) (by decide) (fun c59 => ?_) (fun c59 => absurd c59 (fun q => q e5))
  refine pw_aload_n dX8_harvest_73 rfl ?_
  refine pw_iconst dX8_harvest_74 (v := 2) (by decide) ?_
  refine pw_cV dX8_harvest_75 (sp_X8_fail) mi_X8_fail mv_X8_fail ml_X8_48 sh_253 rfl rfl rfl rfl ⟨rfl, rfl⟩ rfl rfl ?_
  exact pw_iretF dX8_harvest_78 rfl rfl rfl rfl rfl

set_option maxRecDepth 100000 in
set_option maxHeartbeats 4000000 in
theorem sp_X8_harvest_fl2 {l : Launch} {G : GC} {ad : Nat → Nat} {h : HP} {v g r q : Int32} (e1 : wiB v 0 99 = true) (e2 : wiB g 0 4 = true) (e3 : wiB r 0 3 = true) (e4 : wiB q 1 9999 = true) (e5 : ¬ h 254 0 = 24) (e6 : h 254 1 = 12) : PF l G yX8_harvest (.code yX8_harvest cX8_harvest 7 ((Option.some FieldType.int))) { frames := 2, cells := 0, slots := 0, locals := 48 } [.ref (ad 253), .int (v), .int (g), .int (r), .int (q)] SW ad (h) (some (.int 0)) (faH (faH h 0) 2) := by
  refine PF.mk (L0 := [some (.ref (ad 253)), some (.int (v)), some (.int (g)), some (.int (r)), some (.int (q)), none, none]) RX8 "harvest" 0 0 (by decide +kernel) rfl rfl ⟨rfl, rfl⟩ (by simp [Value.category]) (Nat.le_of_ble_eq_true rfl) rfl ?_
  refine pw_aload_n dX8_harvest_0 rfl ?_
  refine pw_iconst dX8_harvest_1 (v := 0) (by decide) ?_
  refine pw_puti dX8_harvest_2 lf_X8_42 lp_8_5 sh_253 rfl rfl rfl ?_
  refine pw_iload_n dX8_harvest_5 rfl ?_
  refine pw_iconst dX8_harvest_6 (v := 0) (by decide) ?_
  refine pw_bipush dX8_harvest_7 (v := 99) (by decide) ?_
  refine pw_cS dX8_harvest_9 (sp_X8_isIn) mi_X8_isIn ms_X8_isIn ml_X8_55 rfl rfl ⟨rfl, rfl⟩ rfl rfl ?_
  refine pw_if_eq dX8_harvest_12 (tgt := 45) (by decide) (fun c12 => absurd c12 (b2iT e1)) (fun c12 => ?_)
  refine pw_iload_n dX8_harvest_15 rfl ?_
  refine pw_iconst dX8_harvest_16 (v := 0) (by decide) ?_
  refine pw_iconst dX8_harvest_17 (v := 4) (by decide) ?_
  refine pw_cS dX8_harvest_18 (sp_X8_isIn) mi_X8_isIn ms_X8_isIn ml_X8_55 rfl rfl ⟨rfl, rfl⟩ rfl rfl ?_
  refine pw_if_eq dX8_harvest_21 (tgt := 45) (by decide) (fun c21 => absurd c21 (b2iT e2)) (fun c21 => ?_)
  refine pw_iload_n dX8_harvest_24 rfl ?_
  refine pw_iconst dX8_harvest_25 (v := 0) (by decide) ?_
  refine pw_iconst dX8_harvest_26 (v := 3) (by decide) ?_
  refine pw_cS dX8_harvest_27 (sp_X8_isIn) mi_X8_isIn ms_X8_isIn ml_X8_55 rfl rfl ⟨rfl, rfl⟩ rfl rfl ?_
  refine pw_if_eq dX8_harvest_30 (tgt := 45) (by decide) (fun c30 => absurd c30 (b2iT e3)) (fun c30 => ?_)
  refine pw_iload dX8_harvest_33 rfl ?_
  refine pw_iconst dX8_harvest_35 (v := 1) (by decide) ?_
  refine pw_sipush dX8_harvest_36 (v := 9999) (by decide) ?_
  refine pw_cS dX8_harvest_39 (sp_X8_isIn) mi_X8_isIn ms_X8_isIn ml_X8_55 rfl rfl ⟨rfl, rfl⟩ rfl rfl ?_
  refine pw_if_ne dX8_harvest_42 (tgt := 51) (by decide) (fun c42 => ?_) (fun c42 => absurd c42 (b2iT e4))
  refine pw_aload_n dX8_harvest_51 rfl ?_
  refine pw_getr dX8_harvest_52 lf_X8_9 sh_253 rfl ?_
  refine pw_iconst dX8_harvest_55 (v := 0) (by decide) ?_
  refine pw_iaload dX8_harvest_56 sh_254 (vpin (n := 0) (N := 1032) (by decide) (by decide)) ?_
  refine pw_bipush dX8_harvest_57 (v := 24) (by decide) ?_
  refine pw_icmp_eq dX8_harvest_59 (tgt := 73) (by decide) (fun c59 => absurd c59 (e5)) (fun c59 => ?_)
  refine pw_aload_n dX8_harvest_62 rfl ?_
  refine pw_getr dX8_harvest_63 lf_X8_9 sh_253 rfl ?_
  refine pw_iconst dX8_harvest_66 (v := 1) (by decide) ?_
  refine pw_iaload dX8_harvest_67 sh_254 (vpin (n := 1) (N := 1032) (by decide) (by decide)) ?_
  refine pw_bipush dX8_harvest_68 (v := 12) (by decide) ?_
  refine pw_icmp_ne dX8_harvest_70 (tgt := 79) (by decide) (fun c70 => absurd c70 (fun q => q e6)) (fun c70 => ?_)
  refine pw_aload_n dX8_harvest_73 rfl ?_
  refine pw_iconst dX8_harvest_74 (v := 2) (by decide) ?_
  refine pw_cV dX8_harvest_75 (sp_X8_fail) mi_X8_fail mv_X8_fail ml_X8_48 sh_253 rfl rfl rfl rfl ⟨rfl, rfl⟩ rfl rfl ?_
  exact pw_iretF dX8_harvest_78 rfl rfl rfl rfl rfl

set_option maxRecDepth 100000 in
set_option maxHeartbeats 4000000 in
theorem sp_X8_harvest_ok {l : Launch} {G : GC} {ad : Nat → Nat} {h : HP} {v g r q : Int32} (e1 : wiB v 0 99 = true) (e2 : wiB g 0 4 = true) (e3 : wiB r 0 3 = true) (e4 : wiB q 1 9999 = true) (e5 : ¬ h 254 0 = 24) (e6 : ¬ h 254 1 = 12) {h3 : HP} (hrem : PF l G yX8_remember (.code yX8_remember cX8_remember 2 ((Option.none : Option FieldType))) { frames := 0, cells := 0, slots := 0, locals := 0 } [.ref (ad 253)] SW ad (hput h 253 5 0) (none) (h3)) {nL nH : Nat} (hL3 : h3 254 0 = nI nL) (hL24 : nL < 24) (hH3 : h3 254 1 = nI nH) (hH12 : nH < 12) : PF l G yX8_harvest (.code yX8_harvest cX8_harvest 7 ((Option.some FieldType.int))) { frames := 2, cells := 0, slots := 0, locals := 48 } [.ref (ad 253), .int (v), .int (g), .int (r), .int (q)] SW ad (h) (some (.int (nI nL))) (harM h3 nL nH v g r q) := by
  refine PF.mk (L0 := [some (.ref (ad 253)), some (.int (v)), some (.int (g)), some (.int (r)), some (.int (q)), none, none]) RX8 "harvest" 0 0 (by decide +kernel) rfl rfl ⟨rfl, rfl⟩ (by simp [Value.category]) (Nat.le_of_ble_eq_true rfl) rfl ?_
  have hH4 : (hput (hput (hput (hput h3 254 (608 + 4 * nH) v) 254 (608 + 4 * nH + 1) g) 254 (608 + 4 * nH + 2) r) 254 (608 + 4 * nH + 3) q) 254 1 = nI nH := by
    simp only [hput, if_true]
    rw [if_neg (by omega), if_neg (by omega), if_neg (by omega), if_neg (by omega)]; exact hH3
  have hLh : haH h3 nH v g r q 254 0 = nI nL := by
    unfold haH
    simp only [hput, if_true]
    rw [if_neg (by omega), if_neg (by omega), if_neg (by omega), if_neg (by omega), if_neg (by omega)]; exact hL3
  refine pw_aload_n dX8_harvest_0 rfl ?_
  refine pw_iconst dX8_harvest_1 (v := 0) (by decide) ?_
  refine pw_puti dX8_harvest_2 lf_X8_42 lp_8_5 sh_253 rfl rfl rfl ?_
  refine pw_iload_n dX8_harvest_5 rfl ?_
  refine pw_iconst dX8_harvest_6 (v := 0) (by decide) ?_
  refine pw_bipush dX8_harvest_7 (v := 99) (by decide) ?_
  refine pw_cS dX8_harvest_9 (sp_X8_isIn) mi_X8_isIn ms_X8_isIn ml_X8_55 rfl rfl ⟨rfl, rfl⟩ rfl rfl ?_
  refine pw_if_eq dX8_harvest_12 (tgt := 45) (by decide) (fun c12 => absurd c12 (b2iT e1)) (fun c12 => ?_)
  refine pw_iload_n dX8_harvest_15 rfl ?_
  refine pw_iconst dX8_harvest_16 (v := 0) (by decide) ?_
  refine pw_iconst dX8_harvest_17 (v := 4) (by decide) ?_
  refine pw_cS dX8_harvest_18 (sp_X8_isIn) mi_X8_isIn ms_X8_isIn ml_X8_55 rfl rfl ⟨rfl, rfl⟩ rfl rfl ?_
  refine pw_if_eq dX8_harvest_21 (tgt := 45) (by decide) (fun c21 => absurd c21 (b2iT e2)) (fun c21 => ?_)
  refine pw_iload_n dX8_harvest_24 rfl ?_
  refine pw_iconst dX8_harvest_25 (v := 0) (by decide) ?_
  refine pw_iconst dX8_harvest_26 (v := 3) (by decide) ?_
  refine pw_cS dX8_harvest_27 (sp_X8_isIn) mi_X8_isIn ms_X8_isIn ml_X8_55 rfl rfl ⟨rfl, rfl⟩ rfl rfl ?_
  refine pw_if_eq dX8_harvest_30 (tgt := 45) (by decide) (fun c30 => absurd c30 (b2iT e3)) (fun c30 => ?_)
  refine pw_iload dX8_harvest_33 rfl ?_
  refine pw_iconst dX8_harvest_35 (v := 1) (by decide) ?_
  refine pw_sipush dX8_harvest_36 (v := 9999) (by decide) ?_
  refine pw_cS dX8_harvest_39 (sp_X8_isIn) mi_X8_isIn ms_X8_isIn ml_X8_55 rfl rfl ⟨rfl, rfl⟩ rfl rfl ?_
  refine pw_if_ne dX8_harvest_42 (tgt := 51) (by decide) (fun c42 => ?_) (fun c42 => absurd c42 (b2iT e4))
  refine pw_aload_n dX8_harvest_51 rfl ?_
  refine pw_getr dX8_harvest_52 lf_X8_9 sh_253 rfl ?_
  refine pw_iconst dX8_harvest_55 (v := 0) (by decide) ?_
  refine pw_iaload dX8_harvest_56 sh_254 (vpin (n := 0) (N := 1032) (by decide) (by decide)) ?_
  refine pw_bipush dX8_harvest_57 (v := 24) (by decide) ?_
  refine pw_icmp_eq dX8_harvest_59 (tgt := 73) (by decide) (fun c59 => absurd c59 (e5)) (fun c59 => ?_)
  refine pw_aload_n dX8_harvest_62 rfl ?_
  refine pw_getr dX8_harvest_63 lf_X8_9 sh_253 rfl ?_
  refine pw_iconst dX8_harvest_66 (v := 1) (by decide) ?_
  refine pw_iaload dX8_harvest_67 sh_254 (vpin (n := 1) (N := 1032) (by decide) (by decide)) ?_
  refine pw_bipush dX8_harvest_68 (v := 12) (by decide) ?_
  refine pw_icmp_ne dX8_harvest_70 (tgt := 79) (by decide) (fun c70 => ?_) (fun c70 => absurd c70 (e6))
  refine pw_aload_n dX8_harvest_79 rfl ?_
  refine pw_cVn dX8_harvest_80 (hrem) mi_X8_remember mv_X8_remember ml_X8_63 sh_253 rfl rfl rfl rfl ⟨rfl, rfl⟩ rfl rfl ?_
  refine pw_aload_n dX8_harvest_83 rfl ?_
  refine pw_getr dX8_harvest_84 lf_X8_9 sh_253 rfl ?_
  refine pw_iconst dX8_harvest_87 (v := 1) (by decide) ?_
  refine pw_iaload dX8_harvest_88 sh_254 (vpin (n := 1) (N := 1032) (by decide) (by decide)) ?_
  rw [show h3 254 (Int32.toNatClampNeg 1) = nI nH from hH3]
  refine pw_istore dX8_harvest_89 (by decide) rfl ?_
  refine pw_aload_n dX8_harvest_91 rfl ?_
  refine pw_getr dX8_harvest_92 lf_X8_9 sh_253 rfl ?_
  refine pw_sipush dX8_harvest_95 (v := 608) (by decide) ?_
  refine pw_iconst dX8_harvest_98 (v := 4) (by decide) ?_
  refine pw_iload dX8_harvest_99 rfl ?_
  refine pw_imul dX8_harvest_101 ?_
  refine pw_iadd dX8_harvest_102 ?_
  refine pw_iload_n dX8_harvest_103 rfl ?_
  rw [show (608 : Int32) + 4 * nI nH = nI (608 + 4 * nH) from ixM0 608 4 nH]
  refine pw_iastore dX8_harvest_104 sh_254 (vpin (by omega) (by decide)) ?_
  rw [nI_cl (show 608 + 4 * nH < 2147483648 by omega)]
  refine pw_aload_n dX8_harvest_105 rfl ?_
  refine pw_getr dX8_harvest_106 lf_X8_9 sh_253 rfl ?_
  refine pw_sipush dX8_harvest_109 (v := 608) (by decide) ?_
  refine pw_iconst dX8_harvest_112 (v := 4) (by decide) ?_
  refine pw_iload dX8_harvest_113 rfl ?_
  refine pw_imul dX8_harvest_115 ?_
  refine pw_iadd dX8_harvest_116 ?_
  refine pw_iconst dX8_harvest_117 (v := 1) (by decide) ?_
  refine pw_iadd dX8_harvest_118 ?_
  refine pw_iload_n dX8_harvest_119 rfl ?_
  rw [show (608 : Int32) + 4 * nI nH + 1 = nI (608 + 4 * nH + 1) from ixM 608 4 nH 1]
  refine pw_iastore dX8_harvest_120 sh_254 (vpin (by omega) (by decide)) ?_
  rw [nI_cl (show 608 + 4 * nH + 1 < 2147483648 by omega)]
  refine pw_aload_n dX8_harvest_121 rfl ?_
  refine pw_getr dX8_harvest_122 lf_X8_9 sh_253 rfl ?_
  refine pw_sipush dX8_harvest_125 (v := 608) (by decide) ?_
  refine pw_iconst dX8_harvest_128 (v := 4) (by decide) ?_
  refine pw_iload dX8_harvest_129 rfl ?_
  refine pw_imul dX8_harvest_131 ?_
  refine pw_iadd dX8_harvest_132 ?_
  refine pw_iconst dX8_harvest_133 (v := 2) (by decide) ?_
  refine pw_iadd dX8_harvest_134 ?_
  refine pw_iload_n dX8_harvest_135 rfl ?_
  rw [show (608 : Int32) + 4 * nI nH + 2 = nI (608 + 4 * nH + 2) from ixM 608 4 nH 2]
  refine pw_iastore dX8_harvest_136 sh_254 (vpin (by omega) (by decide)) ?_
  rw [nI_cl (show 608 + 4 * nH + 2 < 2147483648 by omega)]
  refine pw_aload_n dX8_harvest_137 rfl ?_
  refine pw_getr dX8_harvest_138 lf_X8_9 sh_253 rfl ?_
  refine pw_sipush dX8_harvest_141 (v := 608) (by decide) ?_
  refine pw_iconst dX8_harvest_144 (v := 4) (by decide) ?_
  refine pw_iload dX8_harvest_145 rfl ?_
  refine pw_imul dX8_harvest_147 ?_
  refine pw_iadd dX8_harvest_148 ?_
  refine pw_iconst dX8_harvest_149 (v := 3) (by decide) ?_
  refine pw_iadd dX8_harvest_150 ?_
  refine pw_iload dX8_harvest_151 rfl ?_
  rw [show (608 : Int32) + 4 * nI nH + 3 = nI (608 + 4 * nH + 3) from ixM 608 4 nH 3]
  refine pw_iastore dX8_harvest_153 sh_254 (vpin (by omega) (by decide)) ?_
  rw [nI_cl (show 608 + 4 * nH + 3 < 2147483648 by omega)]
  refine pw_aload_n dX8_harvest_154 rfl ?_
  refine pw_getr dX8_harvest_155 lf_X8_9 sh_253 rfl ?_
  refine pw_iconst dX8_harvest_158 (v := 1) (by decide) ?_
  refine pw_dup2 dX8_harvest_159 rfl rfl ?_
  refine pw_iaload dX8_harvest_160 sh_254 (vpin (n := 1) (N := 1032) (by decide) (by decide)) ?_
  rw [show (hput (hput (hput (hput h3 254 (608 + 4 * nH) v) 254 (608 + 4 * nH + 1) g) 254 (608 + 4 * nH + 2) r) 254 (608 + 4 * nH + 3) q) 254 (Int32.toNatClampNeg 1) = nI nH from hH4]
  refine pw_iconst dX8_harvest_161 (v := 1) (by decide) ?_
  refine pw_iadd dX8_harvest_162 ?_
  rw [nI_1]
  refine pw_iastore dX8_harvest_163 sh_254 (vpin (n := 1) (N := 1032) (by decide) (by decide)) ?_
  refine pw_heq (show _ = haH h3 nH v g r q from rfl) ?_
  refine pw_aload_n dX8_harvest_164 rfl ?_
  refine pw_iload dX8_harvest_165 rfl ?_
  refine pw_iconst dX8_harvest_167 (v := 0) (by decide) ?_
  refine pw_iload dX8_harvest_168 rfl ?_
  refine pw_cV dX8_harvest_170 (sp_X8_comes (h := haH h3 nH v g r q) (lot := nL) hL24 hLh) mi_X8_comes mv_X8_comes ml_X8_66 sh_253 rfl rfl rfl rfl ⟨rfl, rfl⟩ rfl rfl ?_
  refine pw_istore dX8_harvest_173 (by decide) rfl ?_
  refine pw_aload_n dX8_harvest_175 rfl ?_
  refine pw_iload dX8_harvest_176 rfl ?_
  refine pw_bipush dX8_harvest_178 (v := 13) (by decide) ?_
  refine pw_iload dX8_harvest_180 rfl ?_
  refine pw_iadd dX8_harvest_182 ?_
  refine pw_sipush dX8_harvest_183 (v := 1000) (by decide) ?_
  rw [show (13 : Int32) + nI nH = nI (13 + nH) from nI_add 13 nH]
  refine pw_cVn dX8_harvest_186 (sp_X8_setL (lot := nL) (k := 13 + nH) (by omega)) mi_X8_setL mv_X8_setL ml_X8_59 sh_253 rfl rfl rfl rfl ⟨rfl, rfl⟩ rfl rfl ?_
  refine pw_iload dX8_harvest_189 rfl ?_
  exact pw_iretF dX8_harvest_191 rfl rfl rfl rfl rfl

set_option maxRecDepth 100000 in
set_option maxHeartbeats 4000000 in
theorem sp_X8_spill_no1 {l : Launch} {G : GC} {ad : Nat → Nat} {h : HP} {n : Int32} {q : Int32} (e : wiB n 0 (h 254 0 - 1) = false) : PF l G yX8_spill (.code yX8_spill cX8_spill 3 ((Option.some FieldType.int))) { frames := 2, cells := 0, slots := 0, locals := 43 } [.ref (ad 253), .int (n), .int (q)] SW ad (h) (some (.int 0)) (faH (faH h 0) 1) := by
  refine PF.mk (L0 := [some (.ref (ad 253)), some (.int (n)), some (.int (q))]) RX8 "spill" 0 0 (by decide +kernel) rfl rfl ⟨rfl, rfl⟩ (by simp [Value.category]) (Nat.le_of_ble_eq_true rfl) rfl ?_
  refine pw_aload_n dX8_spill_0 rfl ?_
  refine pw_iconst dX8_spill_1 (v := 0) (by decide) ?_
  refine pw_puti dX8_spill_2 lf_X8_42 lp_8_5 sh_253 rfl rfl rfl ?_
  refine pw_aload_n dX8_spill_5 rfl ?_
  refine pw_iload_n dX8_spill_6 rfl ?_
  refine pw_cV dX8_spill_7 (sp_X8_isLot) mi_X8_isLot mv_X8_isLot ml_X8_98 sh_253 rfl rfl rfl rfl ⟨rfl, rfl⟩ rfl rfl ?_
  refine pw_if_ne dX8_spill_10 (tgt := 19) (by decide) (fun c10 => absurd c10 (fun q => q (b2iF e))) (fun c10 => ?_)
  refine pw_aload_n dX8_spill_13 rfl ?_
  refine pw_iconst dX8_spill_14 (v := 1) (by decide) ?_
  refine pw_cV dX8_spill_15 (sp_X8_fail) mi_X8_fail mv_X8_fail ml_X8_48 sh_253 rfl rfl rfl rfl ⟨rfl, rfl⟩ rfl rfl ?_
  exact pw_iretF dX8_spill_18 rfl rfl rfl rfl rfl

set_option maxRecDepth 100000 in
set_option maxHeartbeats 4000000 in
theorem sp_X8_spill_no2 {l : Launch} {G : GC} {ad : Nat → Nat} {h : HP} {nL nH nB nC : Nat} {np : Nat → Nat} {pl : Nat → Nat → Nat} {lb : Nat → Nat} (hw : MW h nL nH nB nC np pl lb) {lot : Nat} (hlot : lot < nL) {q : Int32} (e : wiB q 1 9999 = false) : PF l G yX8_spill (.code yX8_spill cX8_spill 3 ((Option.some FieldType.int))) { frames := 2, cells := 0, slots := 0, locals := 43 } [.ref (ad 253), .int (nI lot), .int (q)] SW ad (h) (some (.int 0)) (faH (faH h 0) 2) := by
  refine PF.mk (L0 := [some (.ref (ad 253)), some (.int (nI lot)), some (.int (q))]) RX8 "spill" 0 0 (by decide +kernel) rfl rfl ⟨rfl, rfl⟩ (by simp [Value.category]) (Nat.le_of_ble_eq_true rfl) rfl ?_
  have hwf : MW (hput h 253 5 0) nL nH nB nC np pl lb := MW_o hw (hput_ne h 5 0 (by decide))
  have hb1 := hw.1.2
  have hb2 := hw.2.1.2
  have hb3 := hw.2.2.1.2
  have hb4 := hw.2.2.2.1.2
  have hlot24 : lot < 24 := by omega
  refine pw_aload_n dX8_spill_0 rfl ?_
  refine pw_iconst dX8_spill_1 (v := 0) (by decide) ?_
  refine pw_puti dX8_spill_2 lf_X8_42 lp_8_5 sh_253 rfl rfl rfl ?_
  refine pw_aload_n dX8_spill_5 rfl ?_
  refine pw_iload_n dX8_spill_6 rfl ?_
  refine pw_cV dX8_spill_7 (sp_X8_isLot) mi_X8_isLot mv_X8_isLot ml_X8_98 sh_253 rfl rfl rfl rfl ⟨rfl, rfl⟩ rfl rfl ?_
  refine pw_if_ne dX8_spill_10 (tgt := 19) (by decide) (fun c10 => ?_) (fun c10 => absurd c10 (b2iT (show wiB (nI lot) 0 (h 254 0 - 1) = true from wi_ok hw.1.1 hlot (by have := hw.1.2; omega))))
  refine pw_iload_n dX8_spill_19 rfl ?_
  refine pw_iconst dX8_spill_20 (v := 1) (by decide) ?_
  refine pw_sipush dX8_spill_21 (v := 9999) (by decide) ?_
  refine pw_cS dX8_spill_24 (sp_X8_isIn) mi_X8_isIn ms_X8_isIn ml_X8_55 rfl rfl ⟨rfl, rfl⟩ rfl rfl ?_
  refine pw_if_eq dX8_spill_27 (tgt := 40) (by decide) (fun c27 => ?_) (fun c27 => absurd c27 (fun q => q (b2iF e)))
  refine pw_aload_n dX8_spill_40 rfl ?_
  refine pw_iconst dX8_spill_41 (v := 2) (by decide) ?_
  refine pw_cV dX8_spill_42 (sp_X8_fail) mi_X8_fail mv_X8_fail ml_X8_48 sh_253 rfl rfl rfl rfl ⟨rfl, rfl⟩ rfl rfl ?_
  exact pw_iretF dX8_spill_45 rfl rfl rfl rfl rfl

set_option maxRecDepth 100000 in
set_option maxHeartbeats 4000000 in
theorem sp_X8_spill_no3 {l : Launch} {G : GC} {ad : Nat → Nat} {h : HP} {nL nH nB nC : Nat} {np : Nat → Nat} {pl : Nat → Nat → Nat} {lb : Nat → Nat} (hw : MW h nL nH nB nC np pl lb) {lot : Nat} (hlot : lot < nL) {q : Int32} (e : wiB q 1 9999 = true) (e2 : ¬ q ≤ mL h lot 1) : PF l G yX8_spill (.code yX8_spill cX8_spill 3 ((Option.some FieldType.int))) { frames := 2, cells := 0, slots := 0, locals := 43 } [.ref (ad 253), .int (nI lot), .int (q)] SW ad (h) (some (.int 0)) (faH (faH h 0) 2) := by
  refine PF.mk (L0 := [some (.ref (ad 253)), some (.int (nI lot)), some (.int (q))]) RX8 "spill" 0 0 (by decide +kernel) rfl rfl ⟨rfl, rfl⟩ (by simp [Value.category]) (Nat.le_of_ble_eq_true rfl) rfl ?_
  have hwf : MW (hput h 253 5 0) nL nH nB nC np pl lb := MW_o hw (hput_ne h 5 0 (by decide))
  have hb1 := hw.1.2
  have hb2 := hw.2.1.2
  have hb3 := hw.2.2.1.2
  have hb4 := hw.2.2.2.1.2
  have hlot24 : lot < 24 := by omega
  refine pw_aload_n dX8_spill_0 rfl ?_
  refine pw_iconst dX8_spill_1 (v := 0) (by decide) ?_
  refine pw_puti dX8_spill_2 lf_X8_42 lp_8_5 sh_253 rfl rfl rfl ?_
  refine pw_aload_n dX8_spill_5 rfl ?_
  refine pw_iload_n dX8_spill_6 rfl ?_
  refine pw_cV dX8_spill_7 (sp_X8_isLot) mi_X8_isLot mv_X8_isLot ml_X8_98 sh_253 rfl rfl rfl rfl ⟨rfl, rfl⟩ rfl rfl ?_
  refine pw_if_ne dX8_spill_10 (tgt := 19) (by decide) (fun c10 => ?_) (fun c10 => absurd c10 (b2iT (show wiB (nI lot) 0 (h 254 0 - 1) = true from wi_ok hw.1.1 hlot (by have := hw.1.2; omega))))
  refine pw_iload_n dX8_spill_19 rfl ?_
  refine pw_iconst dX8_spill_20 (v := 1) (by decide) ?_
  refine pw_sipush dX8_spill_21 (v := 9999) (by decide) ?_
  refine pw_cS dX8_spill_24 (sp_X8_isIn) mi_X8_isIn ms_X8_isIn ml_X8_55 rfl rfl ⟨rfl, rfl⟩ rfl rfl ?_
  refine pw_if_eq dX8_spill_27 (tgt := 40) (by decide) (fun c27 => absurd c27 (b2iT e)) (fun c27 => ?_)
  refine pw_iload_n dX8_spill_30 rfl ?_
  refine pw_aload_n dX8_spill_31 rfl ?_
  refine pw_iload_n dX8_spill_32 rfl ?_
  refine pw_iconst dX8_spill_33 (v := 1) (by decide) ?_
  refine pw_cV dX8_spill_34 (sp_X8_l (lot := lot) (k := 1) (by omega)) mi_X8_l mv_X8_l ml_X8_102 sh_253 rfl rfl rfl rfl ⟨rfl, rfl⟩ rfl rfl ?_
  refine pw_icmp_le dX8_spill_37 (tgt := 46) (by decide) (fun c37 => absurd c37 (e2)) (fun c37 => ?_)
  refine pw_aload_n dX8_spill_40 rfl ?_
  refine pw_iconst dX8_spill_41 (v := 2) (by decide) ?_
  refine pw_cV dX8_spill_42 (sp_X8_fail) mi_X8_fail mv_X8_fail ml_X8_48 sh_253 rfl rfl rfl rfl ⟨rfl, rfl⟩ rfl rfl ?_
  exact pw_iretF dX8_spill_45 rfl rfl rfl rfl rfl

set_option maxRecDepth 100000 in
set_option maxHeartbeats 4000000 in
theorem sp_X8_spill_ok {l : Launch} {G : GC} {ad : Nat → Nat} {h : HP} {nL nH nB nC : Nat} {np : Nat → Nat} {pl : Nat → Nat → Nat} {lb : Nat → Nat} (hw : MW h nL nH nB nC np pl lb) {lot : Nat} (hlot : lot < nL) {q : Int32} (e : wiB q 1 9999 = true) (e2 : q ≤ mL h lot 1) {h3 : HP} (hrem : PF l G yX8_remember (.code yX8_remember cX8_remember 2 ((Option.none : Option FieldType))) { frames := 0, cells := 0, slots := 0, locals := 0 } [.ref (ad 253)] SW ad (hput h 253 5 0) (none) (h3)) : PF l G yX8_spill (.code yX8_spill cX8_spill 3 ((Option.some FieldType.int))) { frames := 2, cells := 0, slots := 0, locals := 43 } [.ref (ad 253), .int (nI lot), .int (q)] SW ad (h) (some (.int (mL (spiM h3 lot q) lot 1))) (spiM h3 lot q) := by
  refine PF.mk (L0 := [some (.ref (ad 253)), some (.int (nI lot)), some (.int (q))]) RX8 "spill" 0 0 (by decide +kernel) rfl rfl ⟨rfl, rfl⟩ (by simp [Value.category]) (Nat.le_of_ble_eq_true rfl) rfl ?_
  have hwf : MW (hput h 253 5 0) nL nH nB nC np pl lb := MW_o hw (hput_ne h 5 0 (by decide))
  have hb1 := hw.1.2
  have hb2 := hw.2.1.2
  have hb3 := hw.2.2.1.2
  have hb4 := hw.2.2.2.1.2
  have hlot24 : lot < 24 := by omega
  refine pw_aload_n dX8_spill_0 rfl ?_
  refine pw_iconst dX8_spill_1 (v := 0) (by decide) ?_
  refine pw_puti dX8_spill_2 lf_X8_42 lp_8_5 sh_253 rfl rfl rfl ?_
  refine pw_aload_n dX8_spill_5 rfl ?_
  refine pw_iload_n dX8_spill_6 rfl ?_
  refine pw_cV dX8_spill_7 (sp_X8_isLot) mi_X8_isLot mv_X8_isLot ml_X8_98 sh_253 rfl rfl rfl rfl ⟨rfl, rfl⟩ rfl rfl ?_
  refine pw_if_ne dX8_spill_10 (tgt := 19) (by decide) (fun c10 => ?_) (fun c10 => absurd c10 (b2iT (show wiB (nI lot) 0 (h 254 0 - 1) = true from wi_ok hw.1.1 hlot (by have := hw.1.2; omega))))
  refine pw_iload_n dX8_spill_19 rfl ?_
  refine pw_iconst dX8_spill_20 (v := 1) (by decide) ?_
  refine pw_sipush dX8_spill_21 (v := 9999) (by decide) ?_
  refine pw_cS dX8_spill_24 (sp_X8_isIn) mi_X8_isIn ms_X8_isIn ml_X8_55 rfl rfl ⟨rfl, rfl⟩ rfl rfl ?_
  refine pw_if_eq dX8_spill_27 (tgt := 40) (by decide) (fun c27 => absurd c27 (b2iT e)) (fun c27 => ?_)
  refine pw_iload_n dX8_spill_30 rfl ?_
  refine pw_aload_n dX8_spill_31 rfl ?_
  refine pw_iload_n dX8_spill_32 rfl ?_
  refine pw_iconst dX8_spill_33 (v := 1) (by decide) ?_
  refine pw_cV dX8_spill_34 (sp_X8_l (lot := lot) (k := 1) (by omega)) mi_X8_l mv_X8_l ml_X8_102 sh_253 rfl rfl rfl rfl ⟨rfl, rfl⟩ rfl rfl ?_
  refine pw_icmp_le dX8_spill_37 (tgt := 46) (by decide) (fun c37 => ?_) (fun c37 => absurd c37 (fun q => q e2))
  refine pw_aload_n dX8_spill_46 rfl ?_
  refine pw_cVn dX8_spill_47 (hrem) mi_X8_remember mv_X8_remember ml_X8_63 sh_253 rfl rfl rfl rfl ⟨rfl, rfl⟩ rfl rfl ?_
  refine pw_aload_n dX8_spill_50 rfl ?_
  refine pw_iload_n dX8_spill_51 rfl ?_
  refine pw_iconst dX8_spill_52 (v := 1) (by decide) ?_
  refine pw_aload_n dX8_spill_53 rfl ?_
  refine pw_iload_n dX8_spill_54 rfl ?_
  refine pw_iconst dX8_spill_55 (v := 1) (by decide) ?_
  refine pw_cV dX8_spill_56 (sp_X8_l (lot := lot) (k := 1) (by omega)) mi_X8_l mv_X8_l ml_X8_102 sh_253 rfl rfl rfl rfl ⟨rfl, rfl⟩ rfl rfl ?_
  refine pw_iload_n dX8_spill_59 rfl ?_
  refine pw_isub dX8_spill_60 ?_
  refine pw_cVn dX8_spill_61 (sp_X8_setL (lot := lot) (k := 1) (by omega)) mi_X8_setL mv_X8_setL ml_X8_59 sh_253 rfl rfl rfl rfl ⟨rfl, rfl⟩ rfl rfl ?_
  refine pw_aload_n dX8_spill_64 rfl ?_
  refine pw_getr dX8_spill_65 lf_X8_9 sh_253 rfl ?_
  refine pw_iconst dX8_spill_68 (v := 4) (by decide) ?_
  refine pw_dup2 dX8_spill_69 rfl rfl ?_
  refine pw_iaload dX8_spill_70 sh_254 (vpin (n := 4) (N := 1032) (by decide) (by decide)) ?_
  refine pw_iload_n dX8_spill_71 rfl ?_
  refine pw_iadd dX8_spill_72 ?_
  refine pw_iastore dX8_spill_73 sh_254 (vpin (n := 4) (N := 1032) (by decide) (by decide)) ?_
  refine pw_heq (show _ = spiM h3 lot q from rfl) ?_
  refine pw_aload_n dX8_spill_74 rfl ?_
  refine pw_iload_n dX8_spill_75 rfl ?_
  refine pw_iconst dX8_spill_76 (v := 1) (by decide) ?_
  refine pw_cV dX8_spill_77 (sp_X8_l (lot := lot) (k := 1) (by omega)) mi_X8_l mv_X8_l ml_X8_102 sh_253 rfl rfl rfl rfl ⟨rfl, rfl⟩ rfl rfl ?_
  exact pw_iretF dX8_spill_80 rfl rfl rfl rfl rfl

set_option maxRecDepth 100000 in
set_option maxHeartbeats 4000000 in
theorem sp_X8_lot_no1 {l : Launch} {G : GC} {ad : Nat → Nat} {h : HP} {n : Int32} {m : Int32} (e : wiB n 0 (h 254 0 - 1) = false) : PF l G yX8_lot (.code yX8_lot cX8_lot 3 ((Option.some FieldType.int))) { frames := 3, cells := 0, slots := 0, locals := 69 } [.ref (ad 253), .int (n), .int (m)] SW ad (h) (some (.int 0)) (faH (faH h 0) 1) := by
  refine PF.mk (L0 := [some (.ref (ad 253)), some (.int (n)), some (.int (m))]) RX8 "lot" 0 0 (by decide +kernel) rfl rfl ⟨rfl, rfl⟩ (by simp [Value.category]) (Nat.le_of_ble_eq_true rfl) rfl ?_
  refine pw_aload_n dX8_lot_0 rfl ?_
  refine pw_iconst dX8_lot_1 (v := 0) (by decide) ?_
  refine pw_puti dX8_lot_2 lf_X8_42 lp_8_5 sh_253 rfl rfl rfl ?_
  refine pw_aload_n dX8_lot_5 rfl ?_
  refine pw_iload_n dX8_lot_6 rfl ?_
  refine pw_cV dX8_lot_7 (sp_X8_isLot) mi_X8_isLot mv_X8_isLot ml_X8_98 sh_253 rfl rfl rfl rfl ⟨rfl, rfl⟩ rfl rfl ?_
  refine pw_if_ne dX8_lot_10 (tgt := 19) (by decide) (fun c10 => absurd c10 (fun q => q (b2iF e))) (fun c10 => ?_)
  refine pw_aload_n dX8_lot_13 rfl ?_
  refine pw_iconst dX8_lot_14 (v := 1) (by decide) ?_
  refine pw_cV dX8_lot_15 (sp_X8_fail) mi_X8_fail mv_X8_fail ml_X8_48 sh_253 rfl rfl rfl rfl ⟨rfl, rfl⟩ rfl rfl ?_
  exact pw_iretF dX8_lot_18 rfl rfl rfl rfl rfl

set_option maxRecDepth 100000 in
set_option maxHeartbeats 4000000 in
theorem sp_X8_lot_no2 {l : Launch} {G : GC} {ad : Nat → Nat} {h : HP} {nL nH nB nC : Nat} {np : Nat → Nat} {pl : Nat → Nat → Nat} {lb : Nat → Nat} (hw : MW h nL nH nB nC np pl lb) {lot : Nat} (hlot : lot < nL) {m : Int32} (e : wiB m 0 4 = false) (e5 : ¬ m = 5) (e6 : ¬ m = 6) : PF l G yX8_lot (.code yX8_lot cX8_lot 3 ((Option.some FieldType.int))) { frames := 3, cells := 0, slots := 0, locals := 69 } [.ref (ad 253), .int (nI lot), .int (m)] SW ad (h) (some (.int 0)) (faH (faH h 0) 2) := by
  refine PF.mk (L0 := [some (.ref (ad 253)), some (.int (nI lot)), some (.int (m))]) RX8 "lot" 0 0 (by decide +kernel) rfl rfl ⟨rfl, rfl⟩ (by simp [Value.category]) (Nat.le_of_ble_eq_true rfl) rfl ?_
  have hwf : MW (hput h 253 5 0) nL nH nB nC np pl lb := MW_o hw (hput_ne h 5 0 (by decide))
  have hb1 := hw.1.2
  have hb2 := hw.2.1.2
  have hb3 := hw.2.2.1.2
  have hb4 := hw.2.2.2.1.2
  have hlot24 : lot < 24 := by omega
  refine pw_aload_n dX8_lot_0 rfl ?_
  refine pw_iconst dX8_lot_1 (v := 0) (by decide) ?_
  refine pw_puti dX8_lot_2 lf_X8_42 lp_8_5 sh_253 rfl rfl rfl ?_
  refine pw_aload_n dX8_lot_5 rfl ?_
  refine pw_iload_n dX8_lot_6 rfl ?_
  refine pw_cV dX8_lot_7 (sp_X8_isLot) mi_X8_isLot mv_X8_isLot ml_X8_98 sh_253 rfl rfl rfl rfl ⟨rfl, rfl⟩ rfl rfl ?_
  refine pw_if_ne dX8_lot_10 (tgt := 19) (by decide) (fun c10 => ?_) (fun c10 => absurd c10 (b2iT (show wiB (nI lot) 0 (h 254 0 - 1) = true from wi_ok hw.1.1 hlot (by have := hw.1.2; omega))))
  refine pw_iload_n dX8_lot_19 rfl ?_
  refine pw_iconst dX8_lot_20 (v := 0) (by decide) ?_
  refine pw_iconst dX8_lot_21 (v := 4) (by decide) ?_
  refine pw_cS dX8_lot_22 (sp_X8_isIn) mi_X8_isIn ms_X8_isIn ml_X8_55 rfl rfl ⟨rfl, rfl⟩ rfl rfl ?_
  refine pw_if_eq dX8_lot_25 (tgt := 35) (by decide) (fun c25 => ?_) (fun c25 => absurd c25 (fun q => q (b2iF e)))
  refine pw_iload_n dX8_lot_35 rfl ?_
  refine pw_iconst dX8_lot_36 (v := 5) (by decide) ?_
  refine pw_icmp_ne dX8_lot_37 (tgt := 48) (by decide) (fun c37 => ?_) (fun c37 => absurd c37 (e5))
  refine pw_iload_n dX8_lot_48 rfl ?_
  refine pw_bipush dX8_lot_49 (v := 6) (by decide) ?_
  refine pw_icmp_ne dX8_lot_51 (tgt := 62) (by decide) (fun c51 => ?_) (fun c51 => absurd c51 (e6))
  refine pw_aload_n dX8_lot_62 rfl ?_
  refine pw_iconst dX8_lot_63 (v := 2) (by decide) ?_
  refine pw_cV dX8_lot_64 (sp_X8_fail) mi_X8_fail mv_X8_fail ml_X8_48 sh_253 rfl rfl rfl rfl ⟨rfl, rfl⟩ rfl rfl ?_
  exact pw_iretF dX8_lot_67 rfl rfl rfl rfl rfl

set_option maxRecDepth 100000 in
set_option maxHeartbeats 4000000 in
theorem sp_X8_lot_k {l : Launch} {G : GC} {ad : Nat → Nat} {h : HP} {nL nH nB nC : Nat} {np : Nat → Nat} {pl : Nat → Nat → Nat} {lb : Nat → Nat} (hw : MW h nL nH nB nC np pl lb) {lot : Nat} (hlot : lot < nL) {j : Nat} (hj : j < 5) : PF l G yX8_lot (.code yX8_lot cX8_lot 3 ((Option.some FieldType.int))) { frames := 3, cells := 0, slots := 0, locals := 69 } [.ref (ad 253), .int (nI lot), .int (nI j)] SW ad (h) (some (.int (mL h lot j))) (faH h 0) := by
  refine PF.mk (L0 := [some (.ref (ad 253)), some (.int (nI lot)), some (.int (nI j))]) RX8 "lot" 0 0 (by decide +kernel) rfl rfl ⟨rfl, rfl⟩ (by simp [Value.category]) (Nat.le_of_ble_eq_true rfl) rfl ?_
  have hwf : MW (hput h 253 5 0) nL nH nB nC np pl lb := MW_o hw (hput_ne h 5 0 (by decide))
  have hb1 := hw.1.2
  have hb2 := hw.2.1.2
  have hb3 := hw.2.2.1.2
  have hb4 := hw.2.2.2.1.2
  have hlot24 : lot < 24 := by omega
  refine pw_aload_n dX8_lot_0 rfl ?_
  refine pw_iconst dX8_lot_1 (v := 0) (by decide) ?_
  refine pw_puti dX8_lot_2 lf_X8_42 lp_8_5 sh_253 rfl rfl rfl ?_
  refine pw_aload_n dX8_lot_5 rfl ?_
  refine pw_iload_n dX8_lot_6 rfl ?_
  refine pw_cV dX8_lot_7 (sp_X8_isLot) mi_X8_isLot mv_X8_isLot ml_X8_98 sh_253 rfl rfl rfl rfl ⟨rfl, rfl⟩ rfl rfl ?_
  refine pw_if_ne dX8_lot_10 (tgt := 19) (by decide) (fun c10 => ?_) (fun c10 => absurd c10 (b2iT (show wiB (nI lot) 0 (h 254 0 - 1) = true from wi_ok hw.1.1 hlot (by have := hw.1.2; omega))))
  refine pw_iload_n dX8_lot_19 rfl ?_
  refine pw_iconst dX8_lot_20 (v := 0) (by decide) ?_
  refine pw_iconst dX8_lot_21 (v := 4) (by decide) ?_
  refine pw_cS dX8_lot_22 (sp_X8_isIn) mi_X8_isIn ms_X8_isIn ml_X8_55 rfl rfl ⟨rfl, rfl⟩ rfl rfl ?_
  refine pw_if_eq dX8_lot_25 (tgt := 35) (by decide) (fun c25 => absurd c25 (b2iT (wi_ok (x := 5) (N := 5) rfl hj (by decide)))) (fun c25 => ?_)
  refine pw_aload_n dX8_lot_28 rfl ?_
  refine pw_iload_n dX8_lot_29 rfl ?_
  refine pw_iload_n dX8_lot_30 rfl ?_
  refine pw_cV dX8_lot_31 (sp_X8_l (lot := lot) (k := j) (by omega)) mi_X8_l mv_X8_l ml_X8_102 sh_253 rfl rfl rfl rfl ⟨rfl, rfl⟩ rfl rfl ?_
  exact pw_iretF dX8_lot_34 rfl rfl rfl rfl rfl

set_option maxRecDepth 100000 in
set_option maxHeartbeats 4000000 in
theorem sp_X8_lot_k5 {l : Launch} {G : GC} {ad : Nat → Nat} {h : HP} {nL nH nB nC : Nat} {np : Nat → Nat} {pl : Nat → Nat → Nat} {lb : Nat → Nat} (hw : MW h nL nH nB nC np pl lb) {lot : Nat} (hlot : lot < nL) : PF l G yX8_lot (.code yX8_lot cX8_lot 3 ((Option.some FieldType.int))) { frames := 3, cells := 0, slots := 0, locals := 69 } [.ref (ad 253), .int (nI lot), .int (5)] SW ad (h) (some (.int (nI (cntB (fun k => decide (0 < mL h lot (13 + k))) nH)))) (faH h 0) := by
  refine PF.mk (L0 := [some (.ref (ad 253)), some (.int (nI lot)), some (.int (5))]) RX8 "lot" 0 0 (by decide +kernel) rfl rfl ⟨rfl, rfl⟩ (by simp [Value.category]) (Nat.le_of_ble_eq_true rfl) rfl ?_
  have hwf : MW (hput h 253 5 0) nL nH nB nC np pl lb := MW_o hw (hput_ne h 5 0 (by decide))
  have hb1 := hw.1.2
  have hb2 := hw.2.1.2
  have hb3 := hw.2.2.1.2
  have hb4 := hw.2.2.2.1.2
  have hlot24 : lot < 24 := by omega
  refine pw_aload_n dX8_lot_0 rfl ?_
  refine pw_iconst dX8_lot_1 (v := 0) (by decide) ?_
  refine pw_puti dX8_lot_2 lf_X8_42 lp_8_5 sh_253 rfl rfl rfl ?_
  refine pw_aload_n dX8_lot_5 rfl ?_
  refine pw_iload_n dX8_lot_6 rfl ?_
  refine pw_cV dX8_lot_7 (sp_X8_isLot) mi_X8_isLot mv_X8_isLot ml_X8_98 sh_253 rfl rfl rfl rfl ⟨rfl, rfl⟩ rfl rfl ?_
  refine pw_if_ne dX8_lot_10 (tgt := 19) (by decide) (fun c10 => ?_) (fun c10 => absurd c10 (b2iT (show wiB (nI lot) 0 (h 254 0 - 1) = true from wi_ok hw.1.1 hlot (by have := hw.1.2; omega))))
  refine pw_iload_n dX8_lot_19 rfl ?_
  refine pw_iconst dX8_lot_20 (v := 0) (by decide) ?_
  refine pw_iconst dX8_lot_21 (v := 4) (by decide) ?_
  refine pw_cS dX8_lot_22 (sp_X8_isIn) mi_X8_isIn ms_X8_isIn ml_X8_55 rfl rfl ⟨rfl, rfl⟩ rfl rfl ?_
  refine pw_if_eq dX8_lot_25 (tgt := 35) (by decide) (fun c25 => ?_) (fun c25 => absurd c25 (fun q => q (b2iF rfl)))
  refine pw_iload_n dX8_lot_35 rfl ?_
  refine pw_iconst dX8_lot_36 (v := 5) (by decide) ?_
  refine pw_icmp_ne dX8_lot_37 (tgt := 48) (by decide) (fun c37 => absurd c37 (fun q => q rfl)) (fun c37 => ?_)
  refine pw_aload_n dX8_lot_40 rfl ?_
  refine pw_iload_n dX8_lot_41 rfl ?_
  refine pw_cV dX8_lot_42 (sp_X8_harvestsIn hwf hlot24) mi_X8_harvestsIn mv_X8_harvestsIn ml_X8_138 sh_253 rfl rfl rfl rfl ⟨rfl, rfl⟩ rfl rfl ?_
  refine pw_goto dX8_lot_45 (tgt := 67) (by decide) ?_
  exact pw_iretF dX8_lot_67 rfl rfl rfl rfl rfl

set_option maxRecDepth 100000 in
set_option maxHeartbeats 4000000 in
theorem sp_X8_lot_k6 {l : Launch} {G : GC} {ad : Nat → Nat} {h : HP} {nL nH nB nC : Nat} {np : Nat → Nat} {pl : Nat → Nat → Nat} {lb : Nat → Nat} (hw : MW h nL nH nB nC np pl lb) {lot : Nat} (hlot : lot < nL) : PF l G yX8_lot (.code yX8_lot cX8_lot 3 ((Option.some FieldType.int))) { frames := 3, cells := 0, slots := 0, locals := 69 } [.ref (ad 253), .int (nI lot), .int (6)] SW ad (h) (some (.int (nI (cntB (fun b => ipB h (nI lot) b (np b)) nL)))) (faH h 0) := by
  refine PF.mk (L0 := [some (.ref (ad 253)), some (.int (nI lot)), some (.int (6))]) RX8 "lot" 0 0 (by decide +kernel) rfl rfl ⟨rfl, rfl⟩ (by simp [Value.category]) (Nat.le_of_ble_eq_true rfl) rfl ?_
  have hwf : MW (hput h 253 5 0) nL nH nB nC np pl lb := MW_o hw (hput_ne h 5 0 (by decide))
  have hb1 := hw.1.2
  have hb2 := hw.2.1.2
  have hb3 := hw.2.2.1.2
  have hb4 := hw.2.2.2.1.2
  have hlot24 : lot < 24 := by omega
  refine pw_aload_n dX8_lot_0 rfl ?_
  refine pw_iconst dX8_lot_1 (v := 0) (by decide) ?_
  refine pw_puti dX8_lot_2 lf_X8_42 lp_8_5 sh_253 rfl rfl rfl ?_
  refine pw_aload_n dX8_lot_5 rfl ?_
  refine pw_iload_n dX8_lot_6 rfl ?_
  refine pw_cV dX8_lot_7 (sp_X8_isLot) mi_X8_isLot mv_X8_isLot ml_X8_98 sh_253 rfl rfl rfl rfl ⟨rfl, rfl⟩ rfl rfl ?_
  refine pw_if_ne dX8_lot_10 (tgt := 19) (by decide) (fun c10 => ?_) (fun c10 => absurd c10 (b2iT (show wiB (nI lot) 0 (h 254 0 - 1) = true from wi_ok hw.1.1 hlot (by have := hw.1.2; omega))))
  refine pw_iload_n dX8_lot_19 rfl ?_
  refine pw_iconst dX8_lot_20 (v := 0) (by decide) ?_
  refine pw_iconst dX8_lot_21 (v := 4) (by decide) ?_
  refine pw_cS dX8_lot_22 (sp_X8_isIn) mi_X8_isIn ms_X8_isIn ml_X8_55 rfl rfl ⟨rfl, rfl⟩ rfl rfl ?_
  refine pw_if_eq dX8_lot_25 (tgt := 35) (by decide) (fun c25 => ?_) (fun c25 => absurd c25 (fun q => q (b2iF rfl)))
  refine pw_iload_n dX8_lot_35 rfl ?_
  refine pw_iconst dX8_lot_36 (v := 5) (by decide) ?_
  refine pw_icmp_ne dX8_lot_37 (tgt := 48) (by decide) (fun c37 => ?_) (fun c37 => absurd c37 (by decide))
  refine pw_iload_n dX8_lot_48 rfl ?_
  refine pw_bipush dX8_lot_49 (v := 6) (by decide) ?_
  refine pw_icmp_ne dX8_lot_51 (tgt := 62) (by decide) (fun c51 => absurd c51 (fun q => q rfl)) (fun c51 => ?_)
  refine pw_aload_n dX8_lot_54 rfl ?_
  refine pw_iload_n dX8_lot_55 rfl ?_
  refine pw_cV dX8_lot_56 (sp_X8_blendsOf hwf) mi_X8_blendsOf mv_X8_blendsOf ml_X8_141 sh_253 rfl rfl rfl rfl ⟨rfl, rfl⟩ rfl rfl ?_
  refine pw_goto dX8_lot_59 (tgt := 67) (by decide) ?_
  exact pw_iretF dX8_lot_67 rfl rfl rfl rfl rfl

set_option maxRecDepth 100000 in
set_option maxHeartbeats 4000000 in
theorem sp_X8_part_no1 {l : Launch} {G : GC} {ad : Nat → Nat} {h : HP} {n : Int32} {m j : Int32} (e : wiB n 0 (h 254 0 - 1) = false) : PF l G yX8_part (.code yX8_part cX8_part 4 ((Option.some FieldType.int))) { frames := 2, cells := 0, slots := 0, locals := 43 } [.ref (ad 253), .int (n), .int (m), .int (j)] SW ad (h) (some (.int 0)) (faH (faH h 0) 1) := by
  refine PF.mk (L0 := [some (.ref (ad 253)), some (.int (n)), some (.int (m)), some (.int (j))]) RX8 "part" 0 0 (by decide +kernel) rfl rfl ⟨rfl, rfl⟩ (by simp [Value.category]) (Nat.le_of_ble_eq_true rfl) rfl ?_
  refine pw_aload_n dX8_part_0 rfl ?_
  refine pw_iconst dX8_part_1 (v := 0) (by decide) ?_
  refine pw_puti dX8_part_2 lf_X8_42 lp_8_5 sh_253 rfl rfl rfl ?_
  refine pw_aload_n dX8_part_5 rfl ?_
  refine pw_iload_n dX8_part_6 rfl ?_
  refine pw_cV dX8_part_7 (sp_X8_isLot) mi_X8_isLot mv_X8_isLot ml_X8_98 sh_253 rfl rfl rfl rfl ⟨rfl, rfl⟩ rfl rfl ?_
  refine pw_if_ne dX8_part_10 (tgt := 19) (by decide) (fun c10 => absurd c10 (fun q => q (b2iF e))) (fun c10 => ?_)
  refine pw_aload_n dX8_part_13 rfl ?_
  refine pw_iconst dX8_part_14 (v := 1) (by decide) ?_
  refine pw_cV dX8_part_15 (sp_X8_fail) mi_X8_fail mv_X8_fail ml_X8_48 sh_253 rfl rfl rfl rfl ⟨rfl, rfl⟩ rfl rfl ?_
  exact pw_iretF dX8_part_18 rfl rfl rfl rfl rfl

set_option maxRecDepth 100000 in
set_option maxHeartbeats 4000000 in
theorem sp_X8_part_no2 {l : Launch} {G : GC} {ad : Nat → Nat} {h : HP} {nL nH nB nC : Nat} {np : Nat → Nat} {pl : Nat → Nat → Nat} {lb : Nat → Nat} (hw : MW h nL nH nB nC np pl lb) {lot : Nat} (hlot : lot < nL) {m j : Int32} (e : wiB m 0 (mL h lot 2 - 1) = false) : PF l G yX8_part (.code yX8_part cX8_part 4 ((Option.some FieldType.int))) { frames := 2, cells := 0, slots := 0, locals := 43 } [.ref (ad 253), .int (nI lot), .int (m), .int (j)] SW ad (h) (some (.int 0)) (faH (faH h 0) 2) := by
  refine PF.mk (L0 := [some (.ref (ad 253)), some (.int (nI lot)), some (.int (m)), some (.int (j))]) RX8 "part" 0 0 (by decide +kernel) rfl rfl ⟨rfl, rfl⟩ (by simp [Value.category]) (Nat.le_of_ble_eq_true rfl) rfl ?_
  have hwf : MW (hput h 253 5 0) nL nH nB nC np pl lb := MW_o hw (hput_ne h 5 0 (by decide))
  have hb1 := hw.1.2
  have hb2 := hw.2.1.2
  have hb3 := hw.2.2.1.2
  have hb4 := hw.2.2.2.1.2
  have hlot24 : lot < 24 := by omega
  refine pw_aload_n dX8_part_0 rfl ?_
  refine pw_iconst dX8_part_1 (v := 0) (by decide) ?_
  refine pw_puti dX8_part_2 lf_X8_42 lp_8_5 sh_253 rfl rfl rfl ?_
  refine pw_aload_n dX8_part_5 rfl ?_
  refine pw_iload_n dX8_part_6 rfl ?_
  refine pw_cV dX8_part_7 (sp_X8_isLot) mi_X8_isLot mv_X8_isLot ml_X8_98 sh_253 rfl rfl rfl rfl ⟨rfl, rfl⟩ rfl rfl ?_
  refine pw_if_ne dX8_part_10 (tgt := 19) (by decide) (fun c10 => ?_) (fun c10 => absurd c10 (b2iT (show wiB (nI lot) 0 (h 254 0 - 1) = true from wi_ok hw.1.1 hlot (by have := hw.1.2; omega))))
  refine pw_iload_n dX8_part_19 rfl ?_
  refine pw_iconst dX8_part_20 (v := 0) (by decide) ?_
  refine pw_aload_n dX8_part_21 rfl ?_
  refine pw_iload_n dX8_part_22 rfl ?_
  refine pw_iconst dX8_part_23 (v := 2) (by decide) ?_
  refine pw_cV dX8_part_24 (sp_X8_l (lot := lot) (k := 2) (by omega)) mi_X8_l mv_X8_l ml_X8_102 sh_253 rfl rfl rfl rfl ⟨rfl, rfl⟩ rfl rfl ?_
  refine pw_iconst dX8_part_27 (v := 1) (by decide) ?_
  refine pw_isub dX8_part_28 ?_
  refine pw_cS dX8_part_29 (sp_X8_isIn) mi_X8_isIn ms_X8_isIn ml_X8_55 rfl rfl ⟨rfl, rfl⟩ rfl rfl ?_
  refine pw_if_ne dX8_part_32 (tgt := 41) (by decide) (fun c32 => absurd c32 (fun q => q (b2iF e))) (fun c32 => ?_)
  refine pw_aload_n dX8_part_35 rfl ?_
  refine pw_iconst dX8_part_36 (v := 2) (by decide) ?_
  refine pw_cV dX8_part_37 (sp_X8_fail) mi_X8_fail mv_X8_fail ml_X8_48 sh_253 rfl rfl rfl rfl ⟨rfl, rfl⟩ rfl rfl ?_
  exact pw_iretF dX8_part_40 rfl rfl rfl rfl rfl

set_option maxRecDepth 100000 in
set_option maxHeartbeats 4000000 in
theorem sp_X8_part_no3 {l : Launch} {G : GC} {ad : Nat → Nat} {h : HP} {nL nH nB nC : Nat} {np : Nat → Nat} {pl : Nat → Nat → Nat} {lb : Nat → Nat} (hw : MW h nL nH nB nC np pl lb) {lot : Nat} (hlot : lot < nL) {m j : Int32} (e : wiB m 0 (mL h lot 2 - 1) = true) (e2 : ¬ j = 0) (e3 : ¬ j = 1) : PF l G yX8_part (.code yX8_part cX8_part 4 ((Option.some FieldType.int))) { frames := 2, cells := 0, slots := 0, locals := 43 } [.ref (ad 253), .int (nI lot), .int (m), .int (j)] SW ad (h) (some (.int 0)) (faH (faH h 0) 3) := by
  refine PF.mk (L0 := [some (.ref (ad 253)), some (.int (nI lot)), some (.int (m)), some (.int (j))]) RX8 "part" 0 0 (by decide +kernel) rfl rfl ⟨rfl, rfl⟩ (by simp [Value.category]) (Nat.le_of_ble_eq_true rfl) rfl ?_
  have hwf : MW (hput h 253 5 0) nL nH nB nC np pl lb := MW_o hw (hput_ne h 5 0 (by decide))
  have hb1 := hw.1.2
  have hb2 := hw.2.1.2
  have hb3 := hw.2.2.1.2
  have hb4 := hw.2.2.2.1.2
  have hlot24 : lot < 24 := by omega
  refine pw_aload_n dX8_part_0 rfl ?_
  refine pw_iconst dX8_part_1 (v := 0) (by decide) ?_
  refine pw_puti dX8_part_2 lf_X8_42 lp_8_5 sh_253 rfl rfl rfl ?_
  refine pw_aload_n dX8_part_5 rfl ?_
  refine pw_iload_n dX8_part_6 rfl ?_
  refine pw_cV dX8_part_7 (sp_X8_isLot) mi_X8_isLot mv_X8_isLot ml_X8_98 sh_253 rfl rfl rfl rfl ⟨rfl, rfl⟩ rfl rfl ?_
  refine pw_if_ne dX8_part_10 (tgt := 19) (by decide) (fun c10 => ?_) (fun c10 => absurd c10 (b2iT (show wiB (nI lot) 0 (h 254 0 - 1) = true from wi_ok hw.1.1 hlot (by have := hw.1.2; omega))))
  refine pw_iload_n dX8_part_19 rfl ?_
  refine pw_iconst dX8_part_20 (v := 0) (by decide) ?_
  refine pw_aload_n dX8_part_21 rfl ?_
  refine pw_iload_n dX8_part_22 rfl ?_
  refine pw_iconst dX8_part_23 (v := 2) (by decide) ?_
  refine pw_cV dX8_part_24 (sp_X8_l (lot := lot) (k := 2) (by omega)) mi_X8_l mv_X8_l ml_X8_102 sh_253 rfl rfl rfl rfl ⟨rfl, rfl⟩ rfl rfl ?_
  refine pw_iconst dX8_part_27 (v := 1) (by decide) ?_
  refine pw_isub dX8_part_28 ?_
  refine pw_cS dX8_part_29 (sp_X8_isIn) mi_X8_isIn ms_X8_isIn ml_X8_55 rfl rfl ⟨rfl, rfl⟩ rfl rfl ?_
  refine pw_if_ne dX8_part_32 (tgt := 41) (by decide) (fun c32 => ?_) (fun c32 => absurd c32 (b2iT e))
  refine pw_iload_n dX8_part_41 rfl ?_
  refine pw_if_ne dX8_part_42 (tgt := 56) (by decide) (fun c42 => ?_) (fun c42 => absurd c42 (e2))
  refine pw_iload_n dX8_part_56 rfl ?_
  refine pw_iconst dX8_part_57 (v := 1) (by decide) ?_
  refine pw_icmp_ne dX8_part_58 (tgt := 73) (by decide) (fun c58 => ?_) (fun c58 => absurd c58 (e3))
  refine pw_aload_n dX8_part_73 rfl ?_
  refine pw_iconst dX8_part_74 (v := 3) (by decide) ?_
  refine pw_cV dX8_part_75 (sp_X8_fail) mi_X8_fail mv_X8_fail ml_X8_48 sh_253 rfl rfl rfl rfl ⟨rfl, rfl⟩ rfl rfl ?_
  exact pw_iretF dX8_part_78 rfl rfl rfl rfl rfl

set_option maxRecDepth 100000 in
set_option maxHeartbeats 4000000 in
theorem sp_X8_part_k0 {l : Launch} {G : GC} {ad : Nat → Nat} {h : HP} {nL nH nB nC : Nat} {np : Nat → Nat} {pl : Nat → Nat → Nat} {lb : Nat → Nat} (hw : MW h nL nH nB nC np pl lb) {lot : Nat} (hlot : lot < nL) {t : Nat} (ht : t < np lot) : PF l G yX8_part (.code yX8_part cX8_part 4 ((Option.some FieldType.int))) { frames := 2, cells := 0, slots := 0, locals := 43 } [.ref (ad 253), .int (nI lot), .int (nI t), .int (0)] SW ad (h) (some (.int (mL h lot (5 + t)))) (faH h 0) := by
  refine PF.mk (L0 := [some (.ref (ad 253)), some (.int (nI lot)), some (.int (nI t)), some (.int (0))]) RX8 "part" 0 0 (by decide +kernel) rfl rfl ⟨rfl, rfl⟩ (by simp [Value.category]) (Nat.le_of_ble_eq_true rfl) rfl ?_
  have hwf : MW (hput h 253 5 0) nL nH nB nC np pl lb := MW_o hw (hput_ne h 5 0 (by decide))
  have hb1 := hw.1.2
  have hb2 := hw.2.1.2
  have hb3 := hw.2.2.1.2
  have hb4 := hw.2.2.2.1.2
  have hlot24 : lot < 24 := by omega
  have hp9 := hw.2.2.2.2.1 lot hlot24
  have hp4 := hp9.2
  have e : wiB (nI t) 0 (mL h lot 2 - 1) = true := wi_ok hp9.1 ht (by omega)
  refine pw_aload_n dX8_part_0 rfl ?_
  refine pw_iconst dX8_part_1 (v := 0) (by decide) ?_
  refine pw_puti dX8_part_2 lf_X8_42 lp_8_5 sh_253 rfl rfl rfl ?_
  refine pw_aload_n dX8_part_5 rfl ?_
  refine pw_iload_n dX8_part_6 rfl ?_
  refine pw_cV dX8_part_7 (sp_X8_isLot) mi_X8_isLot mv_X8_isLot ml_X8_98 sh_253 rfl rfl rfl rfl ⟨rfl, rfl⟩ rfl rfl ?_
  refine pw_if_ne dX8_part_10 (tgt := 19) (by decide) (fun c10 => ?_) (fun c10 => absurd c10 (b2iT (show wiB (nI lot) 0 (h 254 0 - 1) = true from wi_ok hw.1.1 hlot (by have := hw.1.2; omega))))
  refine pw_iload_n dX8_part_19 rfl ?_
  refine pw_iconst dX8_part_20 (v := 0) (by decide) ?_
  refine pw_aload_n dX8_part_21 rfl ?_
  refine pw_iload_n dX8_part_22 rfl ?_
  refine pw_iconst dX8_part_23 (v := 2) (by decide) ?_
  refine pw_cV dX8_part_24 (sp_X8_l (lot := lot) (k := 2) (by omega)) mi_X8_l mv_X8_l ml_X8_102 sh_253 rfl rfl rfl rfl ⟨rfl, rfl⟩ rfl rfl ?_
  refine pw_iconst dX8_part_27 (v := 1) (by decide) ?_
  refine pw_isub dX8_part_28 ?_
  refine pw_cS dX8_part_29 (sp_X8_isIn) mi_X8_isIn ms_X8_isIn ml_X8_55 rfl rfl ⟨rfl, rfl⟩ rfl rfl ?_
  refine pw_if_ne dX8_part_32 (tgt := 41) (by decide) (fun c32 => ?_) (fun c32 => absurd c32 (b2iT e))
  refine pw_iload_n dX8_part_41 rfl ?_
  refine pw_if_ne dX8_part_42 (tgt := 56) (by decide) (fun c42 => absurd c42 (fun q => q rfl)) (fun c42 => ?_)
  refine pw_aload_n dX8_part_45 rfl ?_
  refine pw_iload_n dX8_part_46 rfl ?_
  refine pw_iconst dX8_part_47 (v := 5) (by decide) ?_
  refine pw_iload_n dX8_part_48 rfl ?_
  refine pw_iadd dX8_part_49 ?_
  rw [show (5 : Int32) + nI t = nI (5 + t) from nI_add 5 t]
  refine pw_cV dX8_part_50 (sp_X8_l (lot := lot) (k := 5 + t) (by omega)) mi_X8_l mv_X8_l ml_X8_102 sh_253 rfl rfl rfl rfl ⟨rfl, rfl⟩ rfl rfl ?_
  refine pw_goto dX8_part_53 (tgt := 78) (by decide) ?_
  exact pw_iretF dX8_part_78 rfl rfl rfl rfl rfl

set_option maxRecDepth 100000 in
set_option maxHeartbeats 4000000 in
theorem sp_X8_part_k1 {l : Launch} {G : GC} {ad : Nat → Nat} {h : HP} {nL nH nB nC : Nat} {np : Nat → Nat} {pl : Nat → Nat → Nat} {lb : Nat → Nat} (hw : MW h nL nH nB nC np pl lb) {lot : Nat} (hlot : lot < nL) {t : Nat} (ht : t < np lot) : PF l G yX8_part (.code yX8_part cX8_part 4 ((Option.some FieldType.int))) { frames := 2, cells := 0, slots := 0, locals := 43 } [.ref (ad 253), .int (nI lot), .int (nI t), .int (1)] SW ad (h) (some (.int (mL h lot (9 + t)))) (faH h 0) := by
  refine PF.mk (L0 := [some (.ref (ad 253)), some (.int (nI lot)), some (.int (nI t)), some (.int (1))]) RX8 "part" 0 0 (by decide +kernel) rfl rfl ⟨rfl, rfl⟩ (by simp [Value.category]) (Nat.le_of_ble_eq_true rfl) rfl ?_
  have hwf : MW (hput h 253 5 0) nL nH nB nC np pl lb := MW_o hw (hput_ne h 5 0 (by decide))
  have hb1 := hw.1.2
  have hb2 := hw.2.1.2
  have hb3 := hw.2.2.1.2
  have hb4 := hw.2.2.2.1.2
  have hlot24 : lot < 24 := by omega
  have hp9 := hw.2.2.2.2.1 lot hlot24
  have hp4 := hp9.2
  have e : wiB (nI t) 0 (mL h lot 2 - 1) = true := wi_ok hp9.1 ht (by omega)
  refine pw_aload_n dX8_part_0 rfl ?_
  refine pw_iconst dX8_part_1 (v := 0) (by decide) ?_
  refine pw_puti dX8_part_2 lf_X8_42 lp_8_5 sh_253 rfl rfl rfl ?_
  refine pw_aload_n dX8_part_5 rfl ?_
  refine pw_iload_n dX8_part_6 rfl ?_
  refine pw_cV dX8_part_7 (sp_X8_isLot) mi_X8_isLot mv_X8_isLot ml_X8_98 sh_253 rfl rfl rfl rfl ⟨rfl, rfl⟩ rfl rfl ?_
  refine pw_if_ne dX8_part_10 (tgt := 19) (by decide) (fun c10 => ?_) (fun c10 => absurd c10 (b2iT (show wiB (nI lot) 0 (h 254 0 - 1) = true from wi_ok hw.1.1 hlot (by have := hw.1.2; omega))))
  refine pw_iload_n dX8_part_19 rfl ?_
  refine pw_iconst dX8_part_20 (v := 0) (by decide) ?_
  refine pw_aload_n dX8_part_21 rfl ?_
  refine pw_iload_n dX8_part_22 rfl ?_
  refine pw_iconst dX8_part_23 (v := 2) (by decide) ?_
  refine pw_cV dX8_part_24 (sp_X8_l (lot := lot) (k := 2) (by omega)) mi_X8_l mv_X8_l ml_X8_102 sh_253 rfl rfl rfl rfl ⟨rfl, rfl⟩ rfl rfl ?_
  refine pw_iconst dX8_part_27 (v := 1) (by decide) ?_
  refine pw_isub dX8_part_28 ?_
  refine pw_cS dX8_part_29 (sp_X8_isIn) mi_X8_isIn ms_X8_isIn ml_X8_55 rfl rfl ⟨rfl, rfl⟩ rfl rfl ?_
  refine pw_if_ne dX8_part_32 (tgt := 41) (by decide) (fun c32 => ?_) (fun c32 => absurd c32 (b2iT e))
  refine pw_iload_n dX8_part_41 rfl ?_
  refine pw_if_ne dX8_part_42 (tgt := 56) (by decide) (fun c42 => ?_) (fun c42 => absurd c42 (by decide))
  refine pw_iload_n dX8_part_56 rfl ?_
  refine pw_iconst dX8_part_57 (v := 1) (by decide) ?_
  refine pw_icmp_ne dX8_part_58 (tgt := 73) (by decide) (fun c58 => absurd c58 (fun q => q rfl)) (fun c58 => ?_)
  refine pw_aload_n dX8_part_61 rfl ?_
  refine pw_iload_n dX8_part_62 rfl ?_
  refine pw_bipush dX8_part_63 (v := 9) (by decide) ?_
  refine pw_iload_n dX8_part_65 rfl ?_
  refine pw_iadd dX8_part_66 ?_
  rw [show (9 : Int32) + nI t = nI (9 + t) from nI_add 9 t]
  refine pw_cV dX8_part_67 (sp_X8_l (lot := lot) (k := 9 + t) (by omega)) mi_X8_l mv_X8_l ml_X8_102 sh_253 rfl rfl rfl rfl ⟨rfl, rfl⟩ rfl rfl ?_
  refine pw_goto dX8_part_70 (tgt := 78) (by decide) ?_
  exact pw_iretF dX8_part_78 rfl rfl rfl rfl rfl

set_option maxRecDepth 100000 in
set_option maxHeartbeats 4000000 in
theorem sp_X8_share_no1 {l : Launch} {G : GC} {ad : Nat → Nat} {h : HP} {n : Int32} {m j : Int32} (e : wiB n 0 (h 254 0 - 1) = false) : PF l G yX8_share (.code yX8_share cX8_share 4 ((Option.some FieldType.int))) { frames := 2, cells := 0, slots := 0, locals := 47 } [.ref (ad 253), .int (n), .int (m), .int (j)] SW ad (h) (some (.int 0)) (faH (faH h 0) 1) := by
  refine PF.mk (L0 := [some (.ref (ad 253)), some (.int (n)), some (.int (m)), some (.int (j))]) RX8 "share" 0 0 (by decide +kernel) rfl rfl ⟨rfl, rfl⟩ (by simp [Value.category]) (Nat.le_of_ble_eq_true rfl) rfl ?_
  refine pw_aload_n dX8_share_0 rfl ?_
  refine pw_iconst dX8_share_1 (v := 0) (by decide) ?_
  refine pw_puti dX8_share_2 lf_X8_42 lp_8_5 sh_253 rfl rfl rfl ?_
  refine pw_aload_n dX8_share_5 rfl ?_
  refine pw_iload_n dX8_share_6 rfl ?_
  refine pw_cV dX8_share_7 (sp_X8_isLot) mi_X8_isLot mv_X8_isLot ml_X8_98 sh_253 rfl rfl rfl rfl ⟨rfl, rfl⟩ rfl rfl ?_
  refine pw_if_ne dX8_share_10 (tgt := 19) (by decide) (fun c10 => absurd c10 (fun q => q (b2iF e))) (fun c10 => ?_)
  refine pw_aload_n dX8_share_13 rfl ?_
  refine pw_iconst dX8_share_14 (v := 1) (by decide) ?_
  refine pw_cV dX8_share_15 (sp_X8_fail) mi_X8_fail mv_X8_fail ml_X8_48 sh_253 rfl rfl rfl rfl ⟨rfl, rfl⟩ rfl rfl ?_
  exact pw_iretF dX8_share_18 rfl rfl rfl rfl rfl

set_option maxRecDepth 100000 in
set_option maxHeartbeats 4000000 in
theorem sp_X8_share_no2 {l : Launch} {G : GC} {ad : Nat → Nat} {h : HP} {nL nH nB nC : Nat} {np : Nat → Nat} {pl : Nat → Nat → Nat} {lb : Nat → Nat} (hw : MW h nL nH nB nC np pl lb) {lot : Nat} (hlot : lot < nL) {m j : Int32} (e : wiB m 0 3 = false) : PF l G yX8_share (.code yX8_share cX8_share 4 ((Option.some FieldType.int))) { frames := 2, cells := 0, slots := 0, locals := 47 } [.ref (ad 253), .int (nI lot), .int (m), .int (j)] SW ad (h) (some (.int 0)) (faH (faH h 0) 2) := by
  refine PF.mk (L0 := [some (.ref (ad 253)), some (.int (nI lot)), some (.int (m)), some (.int (j))]) RX8 "share" 0 0 (by decide +kernel) rfl rfl ⟨rfl, rfl⟩ (by simp [Value.category]) (Nat.le_of_ble_eq_true rfl) rfl ?_
  have hwf : MW (hput h 253 5 0) nL nH nB nC np pl lb := MW_o hw (hput_ne h 5 0 (by decide))
  have hb1 := hw.1.2
  have hb2 := hw.2.1.2
  have hb3 := hw.2.2.1.2
  have hb4 := hw.2.2.2.1.2
  have hlot24 : lot < 24 := by omega
  refine pw_aload_n dX8_share_0 rfl ?_
  refine pw_iconst dX8_share_1 (v := 0) (by decide) ?_
  refine pw_puti dX8_share_2 lf_X8_42 lp_8_5 sh_253 rfl rfl rfl ?_
  refine pw_aload_n dX8_share_5 rfl ?_
  refine pw_iload_n dX8_share_6 rfl ?_
  refine pw_cV dX8_share_7 (sp_X8_isLot) mi_X8_isLot mv_X8_isLot ml_X8_98 sh_253 rfl rfl rfl rfl ⟨rfl, rfl⟩ rfl rfl ?_
  refine pw_if_ne dX8_share_10 (tgt := 19) (by decide) (fun c10 => ?_) (fun c10 => absurd c10 (b2iT (show wiB (nI lot) 0 (h 254 0 - 1) = true from wi_ok hw.1.1 hlot (by have := hw.1.2; omega))))
  refine pw_iload_n dX8_share_19 rfl ?_
  refine pw_iconst dX8_share_20 (v := 0) (by decide) ?_
  refine pw_iconst dX8_share_21 (v := 3) (by decide) ?_
  refine pw_cS dX8_share_22 (sp_X8_isIn) mi_X8_isIn ms_X8_isIn ml_X8_55 rfl rfl ⟨rfl, rfl⟩ rfl rfl ?_
  refine pw_if_eq dX8_share_25 (tgt := 57) (by decide) (fun c25 => ?_) (fun c25 => absurd c25 (fun q => q (b2iF e)))
  refine pw_aload_n dX8_share_57 rfl ?_
  refine pw_iconst dX8_share_58 (v := 2) (by decide) ?_
  refine pw_cV dX8_share_59 (sp_X8_fail) mi_X8_fail mv_X8_fail ml_X8_48 sh_253 rfl rfl rfl rfl ⟨rfl, rfl⟩ rfl rfl ?_
  exact pw_iretF dX8_share_62 rfl rfl rfl rfl rfl

set_option maxRecDepth 100000 in
set_option maxHeartbeats 4000000 in
theorem sp_X8_share_no30 {l : Launch} {G : GC} {ad : Nat → Nat} {h : HP} {nL nH nB nC : Nat} {np : Nat → Nat} {pl : Nat → Nat → Nat} {lb : Nat → Nat} (hw : MW h nL nH nB nC np pl lb) {lot : Nat} (hlot : lot < nL) {j : Int32} (e : wiB j 0 (h 254 1 - 1) = false) : PF l G yX8_share (.code yX8_share cX8_share 4 ((Option.some FieldType.int))) { frames := 2, cells := 0, slots := 0, locals := 47 } [.ref (ad 253), .int (nI lot), .int (0), .int (j)] SW ad (h) (some (.int 0)) (faH (faH h 0) 2) := by
  refine PF.mk (L0 := [some (.ref (ad 253)), some (.int (nI lot)), some (.int (0)), some (.int (j))]) RX8 "share" 0 0 (by decide +kernel) rfl rfl ⟨rfl, rfl⟩ (by simp [Value.category]) (Nat.le_of_ble_eq_true rfl) rfl ?_
  have hwf : MW (hput h 253 5 0) nL nH nB nC np pl lb := MW_o hw (hput_ne h 5 0 (by decide))
  have hb1 := hw.1.2
  have hb2 := hw.2.1.2
  have hb3 := hw.2.2.1.2
  have hb4 := hw.2.2.2.1.2
  have hlot24 : lot < 24 := by omega
  refine pw_aload_n dX8_share_0 rfl ?_
  refine pw_iconst dX8_share_1 (v := 0) (by decide) ?_
  refine pw_puti dX8_share_2 lf_X8_42 lp_8_5 sh_253 rfl rfl rfl ?_
  refine pw_aload_n dX8_share_5 rfl ?_
  refine pw_iload_n dX8_share_6 rfl ?_
  refine pw_cV dX8_share_7 (sp_X8_isLot) mi_X8_isLot mv_X8_isLot ml_X8_98 sh_253 rfl rfl rfl rfl ⟨rfl, rfl⟩ rfl rfl ?_
  refine pw_if_ne dX8_share_10 (tgt := 19) (by decide) (fun c10 => ?_) (fun c10 => absurd c10 (b2iT (show wiB (nI lot) 0 (h 254 0 - 1) = true from wi_ok hw.1.1 hlot (by have := hw.1.2; omega))))
  refine pw_iload_n dX8_share_19 rfl ?_
  refine pw_iconst dX8_share_20 (v := 0) (by decide) ?_
  refine pw_iconst dX8_share_21 (v := 3) (by decide) ?_
  refine pw_cS dX8_share_22 (sp_X8_isIn) mi_X8_isIn ms_X8_isIn ml_X8_55 rfl rfl ⟨rfl, rfl⟩ rfl rfl ?_
  refine pw_if_eq dX8_share_25 (tgt := 57) (by decide) (fun c25 => absurd c25 (b2iT rfl)) (fun c25 => ?_)
  refine pw_iload_n dX8_share_28 rfl ?_
  refine pw_iconst dX8_share_29 (v := 0) (by decide) ?_
  refine pw_iload_n dX8_share_30 rfl ?_
  refine pw_if_ne dX8_share_31 (tgt := 45) (by decide) (fun c31 => absurd c31 (fun q => q rfl)) (fun c31 => ?_)
  refine pw_aload_n dX8_share_34 rfl ?_
  refine pw_getr dX8_share_35 lf_X8_9 sh_253 rfl ?_
  refine pw_iconst dX8_share_38 (v := 1) (by decide) ?_
  refine pw_iaload dX8_share_39 sh_254 (vpin (n := 1) (N := 1032) (by decide) (by decide)) ?_
  refine pw_iconst dX8_share_40 (v := 1) (by decide) ?_
  refine pw_isub dX8_share_41 ?_
  refine pw_goto dX8_share_42 (tgt := 51) (by decide) ?_
  refine pw_cS dX8_share_51 (sp_X8_isIn) mi_X8_isIn ms_X8_isIn ml_X8_55 rfl rfl ⟨rfl, rfl⟩ rfl rfl ?_
  refine pw_if_ne dX8_share_54 (tgt := 63) (by decide) (fun c54 => absurd c54 (fun q => q (b2iF e))) (fun c54 => ?_)
  refine pw_aload_n dX8_share_57 rfl ?_
  refine pw_iconst dX8_share_58 (v := 2) (by decide) ?_
  refine pw_cV dX8_share_59 (sp_X8_fail) mi_X8_fail mv_X8_fail ml_X8_48 sh_253 rfl rfl rfl rfl ⟨rfl, rfl⟩ rfl rfl ?_
  exact pw_iretF dX8_share_62 rfl rfl rfl rfl rfl

set_option maxRecDepth 100000 in
set_option maxHeartbeats 4000000 in
theorem sp_X8_share_k0 {l : Launch} {G : GC} {ad : Nat → Nat} {h : HP} {nL nH nB nC : Nat} {np : Nat → Nat} {pl : Nat → Nat → Nat} {lb : Nat → Nat} (hw : MW h nL nH nB nC np pl lb) {lot : Nat} (hlot : lot < nL) {j : Nat} (hj : j < nH) : PF l G yX8_share (.code yX8_share cX8_share 4 ((Option.some FieldType.int))) { frames := 2, cells := 0, slots := 0, locals := 47 } [.ref (ad 253), .int (nI lot), .int (0), .int (nI j)] SW ad (h) (some (.int (mL h lot (13 + j)))) (faH h 0) := by
  refine PF.mk (L0 := [some (.ref (ad 253)), some (.int (nI lot)), some (.int (0)), some (.int (nI j))]) RX8 "share" 0 0 (by decide +kernel) rfl rfl ⟨rfl, rfl⟩ (by simp [Value.category]) (Nat.le_of_ble_eq_true rfl) rfl ?_
  have hwf : MW (hput h 253 5 0) nL nH nB nC np pl lb := MW_o hw (hput_ne h 5 0 (by decide))
  have hb1 := hw.1.2
  have hb2 := hw.2.1.2
  have hb3 := hw.2.2.1.2
  have hb4 := hw.2.2.2.1.2
  have hlot24 : lot < 24 := by omega
  refine pw_aload_n dX8_share_0 rfl ?_
  refine pw_iconst dX8_share_1 (v := 0) (by decide) ?_
  refine pw_puti dX8_share_2 lf_X8_42 lp_8_5 sh_253 rfl rfl rfl ?_
  refine pw_aload_n dX8_share_5 rfl ?_
  refine pw_iload_n dX8_share_6 rfl ?_
  refine pw_cV dX8_share_7 (sp_X8_isLot) mi_X8_isLot mv_X8_isLot ml_X8_98 sh_253 rfl rfl rfl rfl ⟨rfl, rfl⟩ rfl rfl ?_
  refine pw_if_ne dX8_share_10 (tgt := 19) (by decide) (fun c10 => ?_) (fun c10 => absurd c10 (b2iT (show wiB (nI lot) 0 (h 254 0 - 1) = true from wi_ok hw.1.1 hlot (by have := hw.1.2; omega))))
  refine pw_iload_n dX8_share_19 rfl ?_
  refine pw_iconst dX8_share_20 (v := 0) (by decide) ?_
  refine pw_iconst dX8_share_21 (v := 3) (by decide) ?_
  refine pw_cS dX8_share_22 (sp_X8_isIn) mi_X8_isIn ms_X8_isIn ml_X8_55 rfl rfl ⟨rfl, rfl⟩ rfl rfl ?_
  refine pw_if_eq dX8_share_25 (tgt := 57) (by decide) (fun c25 => absurd c25 (b2iT rfl)) (fun c25 => ?_)
  refine pw_iload_n dX8_share_28 rfl ?_
  refine pw_iconst dX8_share_29 (v := 0) (by decide) ?_
  refine pw_iload_n dX8_share_30 rfl ?_
  refine pw_if_ne dX8_share_31 (tgt := 45) (by decide) (fun c31 => absurd c31 (fun q => q rfl)) (fun c31 => ?_)
  refine pw_aload_n dX8_share_34 rfl ?_
  refine pw_getr dX8_share_35 lf_X8_9 sh_253 rfl ?_
  refine pw_iconst dX8_share_38 (v := 1) (by decide) ?_
  refine pw_iaload dX8_share_39 sh_254 (vpin (n := 1) (N := 1032) (by decide) (by decide)) ?_
  refine pw_iconst dX8_share_40 (v := 1) (by decide) ?_
  refine pw_isub dX8_share_41 ?_
  refine pw_goto dX8_share_42 (tgt := 51) (by decide) ?_
  refine pw_cS dX8_share_51 (sp_X8_isIn) mi_X8_isIn ms_X8_isIn ml_X8_55 rfl rfl ⟨rfl, rfl⟩ rfl rfl ?_
  refine pw_if_ne dX8_share_54 (tgt := 63) (by decide) (fun c54 => ?_) (fun c54 => absurd c54 (b2iT (show wiB (nI j) 0 (h 254 1 - 1) = true from wi_ok hw.2.1.1 hj (by omega))))
  refine pw_iload_n dX8_share_63 rfl ?_
  refine pw_if_ne dX8_share_64 (tgt := 79) (by decide) (fun c64 => absurd c64 (fun q => q rfl)) (fun c64 => ?_)
  refine pw_aload_n dX8_share_67 rfl ?_
  refine pw_iload_n dX8_share_68 rfl ?_
  refine pw_bipush dX8_share_69 (v := 13) (by decide) ?_
  refine pw_iload_n dX8_share_71 rfl ?_
  refine pw_iadd dX8_share_72 ?_
  rw [show (13 : Int32) + nI j = nI (13 + j) from nI_add 13 j]
  refine pw_cV dX8_share_73 (sp_X8_l (lot := lot) (k := 13 + j) (by omega)) mi_X8_l mv_X8_l ml_X8_102 sh_253 rfl rfl rfl rfl ⟨rfl, rfl⟩ rfl rfl ?_
  refine pw_goto dX8_share_76 (tgt := 88) (by decide) ?_
  exact pw_iretF dX8_share_88 rfl rfl rfl rfl rfl

set_option maxRecDepth 100000 in
set_option maxHeartbeats 4000000 in
theorem sp_X8_share_no31 {l : Launch} {G : GC} {ad : Nat → Nat} {h : HP} {nL nH nB nC : Nat} {np : Nat → Nat} {pl : Nat → Nat → Nat} {lb : Nat → Nat} (hw : MW h nL nH nB nC np pl lb) {lot : Nat} (hlot : lot < nL) {j : Int32} (e : wiB j 0 99 = false) : PF l G yX8_share (.code yX8_share cX8_share 4 ((Option.some FieldType.int))) { frames := 2, cells := 0, slots := 0, locals := 47 } [.ref (ad 253), .int (nI lot), .int (1), .int (j)] SW ad (h) (some (.int 0)) (faH (faH h 0) 2) := by
  refine PF.mk (L0 := [some (.ref (ad 253)), some (.int (nI lot)), some (.int (1)), some (.int (j))]) RX8 "share" 0 0 (by decide +kernel) rfl rfl ⟨rfl, rfl⟩ (by simp [Value.category]) (Nat.le_of_ble_eq_true rfl) rfl ?_
  have hwf : MW (hput h 253 5 0) nL nH nB nC np pl lb := MW_o hw (hput_ne h 5 0 (by decide))
  have hb1 := hw.1.2
  have hb2 := hw.2.1.2
  have hb3 := hw.2.2.1.2
  have hb4 := hw.2.2.2.1.2
  have hlot24 : lot < 24 := by omega
  refine pw_aload_n dX8_share_0 rfl ?_
  refine pw_iconst dX8_share_1 (v := 0) (by decide) ?_
  refine pw_puti dX8_share_2 lf_X8_42 lp_8_5 sh_253 rfl rfl rfl ?_
  refine pw_aload_n dX8_share_5 rfl ?_
  refine pw_iload_n dX8_share_6 rfl ?_
  refine pw_cV dX8_share_7 (sp_X8_isLot) mi_X8_isLot mv_X8_isLot ml_X8_98 sh_253 rfl rfl rfl rfl ⟨rfl, rfl⟩ rfl rfl ?_
  refine pw_if_ne dX8_share_10 (tgt := 19) (by decide) (fun c10 => ?_) (fun c10 => absurd c10 (b2iT (show wiB (nI lot) 0 (h 254 0 - 1) = true from wi_ok hw.1.1 hlot (by have := hw.1.2; omega))))
  refine pw_iload_n dX8_share_19 rfl ?_
  refine pw_iconst dX8_share_20 (v := 0) (by decide) ?_
  refine pw_iconst dX8_share_21 (v := 3) (by decide) ?_
  refine pw_cS dX8_share_22 (sp_X8_isIn) mi_X8_isIn ms_X8_isIn ml_X8_55 rfl rfl ⟨rfl, rfl⟩ rfl rfl ?_
  refine pw_if_eq dX8_share_25 (tgt := 57) (by decide) (fun c25 => absurd c25 (b2iT rfl)) (fun c25 => ?_)
  refine pw_iload_n dX8_share_28 rfl ?_
  refine pw_iconst dX8_share_29 (v := 0) (by decide) ?_
  refine pw_iload_n dX8_share_30 rfl ?_
  refine pw_if_ne dX8_share_31 (tgt := 45) (by decide) (fun c31 => ?_) (fun c31 => absurd c31 (by decide))
  refine pw_iload_n dX8_share_45 rfl ?_
  refine pw_iconst dX8_share_46 (v := 1) (by decide) ?_
  refine pw_isub dX8_share_47 ?_
  refine pw_cS dX8_share_48 ((show PF l G yX8_mostOf (.code yX8_mostOf cX8_mostOf 1 ((Option.some FieldType.int))) { frames := 0, cells := 0, slots := 0, locals := 0 } [.int (1 - 1)] SW ad (hput h 253 5 0) (some (.int 99)) (hput h 253 5 0) from sp_X8_mostOf)) mi_X8_mostOf ms_X8_mostOf ml_X8_147 rfl rfl ⟨rfl, rfl⟩ rfl rfl ?_
  refine pw_cS dX8_share_51 (sp_X8_isIn) mi_X8_isIn ms_X8_isIn ml_X8_55 rfl rfl ⟨rfl, rfl⟩ rfl rfl ?_
  refine pw_if_ne dX8_share_54 (tgt := 63) (by decide) (fun c54 => absurd c54 (fun q => q (b2iF e))) (fun c54 => ?_)
  refine pw_aload_n dX8_share_57 rfl ?_
  refine pw_iconst dX8_share_58 (v := 2) (by decide) ?_
  refine pw_cV dX8_share_59 (sp_X8_fail) mi_X8_fail mv_X8_fail ml_X8_48 sh_253 rfl rfl rfl rfl ⟨rfl, rfl⟩ rfl rfl ?_
  exact pw_iretF dX8_share_62 rfl rfl rfl rfl rfl

set_option maxRecDepth 100000 in
set_option maxHeartbeats 4000000 in
theorem sp_X8_share_k1 {l : Launch} {G : GC} {ad : Nat → Nat} {h : HP} {nL nH nB nC : Nat} {np : Nat → Nat} {pl : Nat → Nat → Nat} {lb : Nat → Nat} (hw : MW h nL nH nB nC np pl lb) {lot : Nat} (hlot : lot < nL) {j : Int32} (e : wiB j 0 99 = true) : PF l G yX8_share (.code yX8_share cX8_share 4 ((Option.some FieldType.int))) { frames := 2, cells := 0, slots := 0, locals := 47 } [.ref (ad 253), .int (nI lot), .int (1), .int (j)] SW ad (h) (some (.int (shM h lot 0 nH j))) (faH h 0) := by
  refine PF.mk (L0 := [some (.ref (ad 253)), some (.int (nI lot)), some (.int (1)), some (.int (j))]) RX8 "share" 0 0 (by decide +kernel) rfl rfl ⟨rfl, rfl⟩ (by simp [Value.category]) (Nat.le_of_ble_eq_true rfl) rfl ?_
  have hwf : MW (hput h 253 5 0) nL nH nB nC np pl lb := MW_o hw (hput_ne h 5 0 (by decide))
  have hb1 := hw.1.2
  have hb2 := hw.2.1.2
  have hb3 := hw.2.2.1.2
  have hb4 := hw.2.2.2.1.2
  have hlot24 : lot < 24 := by omega
  refine pw_aload_n dX8_share_0 rfl ?_
  refine pw_iconst dX8_share_1 (v := 0) (by decide) ?_
  refine pw_puti dX8_share_2 lf_X8_42 lp_8_5 sh_253 rfl rfl rfl ?_
  refine pw_aload_n dX8_share_5 rfl ?_
  refine pw_iload_n dX8_share_6 rfl ?_
  refine pw_cV dX8_share_7 (sp_X8_isLot) mi_X8_isLot mv_X8_isLot ml_X8_98 sh_253 rfl rfl rfl rfl ⟨rfl, rfl⟩ rfl rfl ?_
  refine pw_if_ne dX8_share_10 (tgt := 19) (by decide) (fun c10 => ?_) (fun c10 => absurd c10 (b2iT (show wiB (nI lot) 0 (h 254 0 - 1) = true from wi_ok hw.1.1 hlot (by have := hw.1.2; omega))))
  refine pw_iload_n dX8_share_19 rfl ?_
  refine pw_iconst dX8_share_20 (v := 0) (by decide) ?_
  refine pw_iconst dX8_share_21 (v := 3) (by decide) ?_
  refine pw_cS dX8_share_22 (sp_X8_isIn) mi_X8_isIn ms_X8_isIn ml_X8_55 rfl rfl ⟨rfl, rfl⟩ rfl rfl ?_
  refine pw_if_eq dX8_share_25 (tgt := 57) (by decide) (fun c25 => absurd c25 (b2iT rfl)) (fun c25 => ?_)
  refine pw_iload_n dX8_share_28 rfl ?_
  refine pw_iconst dX8_share_29 (v := 0) (by decide) ?_
  refine pw_iload_n dX8_share_30 rfl ?_
  refine pw_if_ne dX8_share_31 (tgt := 45) (by decide) (fun c31 => ?_) (fun c31 => absurd c31 (by decide))
  refine pw_iload_n dX8_share_45 rfl ?_
  refine pw_iconst dX8_share_46 (v := 1) (by decide) ?_
  refine pw_isub dX8_share_47 ?_
  refine pw_cS dX8_share_48 ((show PF l G yX8_mostOf (.code yX8_mostOf cX8_mostOf 1 ((Option.some FieldType.int))) { frames := 0, cells := 0, slots := 0, locals := 0 } [.int (1 - 1)] SW ad (hput h 253 5 0) (some (.int 99)) (hput h 253 5 0) from sp_X8_mostOf)) mi_X8_mostOf ms_X8_mostOf ml_X8_147 rfl rfl ⟨rfl, rfl⟩ rfl rfl ?_
  refine pw_cS dX8_share_51 (sp_X8_isIn) mi_X8_isIn ms_X8_isIn ml_X8_55 rfl rfl ⟨rfl, rfl⟩ rfl rfl ?_
  refine pw_if_ne dX8_share_54 (tgt := 63) (by decide) (fun c54 => ?_) (fun c54 => absurd c54 (b2iT e))
  refine pw_iload_n dX8_share_63 rfl ?_
  refine pw_if_ne dX8_share_64 (tgt := 79) (by decide) (fun c64 => ?_) (fun c64 => absurd c64 (by decide))
  refine pw_aload_n dX8_share_79 rfl ?_
  refine pw_iload_n dX8_share_80 rfl ?_
  refine pw_iload_n dX8_share_81 rfl ?_
  refine pw_iconst dX8_share_82 (v := 1) (by decide) ?_
  refine pw_isub dX8_share_83 ?_
  refine pw_iload_n dX8_share_84 rfl ?_
  refine pw_cV dX8_share_85 (sp_X8_shareOf hwf hlot24 (w := 0) (by decide)) mi_X8_shareOf mv_X8_shareOf ml_X8_150 sh_253 rfl rfl rfl rfl ⟨rfl, rfl⟩ rfl rfl ?_
  exact pw_iretF dX8_share_88 rfl rfl rfl rfl rfl

set_option maxRecDepth 100000 in
set_option maxHeartbeats 4000000 in
theorem sp_X8_share_no32 {l : Launch} {G : GC} {ad : Nat → Nat} {h : HP} {nL nH nB nC : Nat} {np : Nat → Nat} {pl : Nat → Nat → Nat} {lb : Nat → Nat} (hw : MW h nL nH nB nC np pl lb) {lot : Nat} (hlot : lot < nL) {j : Int32} (e : wiB j 0 4 = false) : PF l G yX8_share (.code yX8_share cX8_share 4 ((Option.some FieldType.int))) { frames := 2, cells := 0, slots := 0, locals := 47 } [.ref (ad 253), .int (nI lot), .int (2), .int (j)] SW ad (h) (some (.int 0)) (faH (faH h 0) 2) := by
  refine PF.mk (L0 := [some (.ref (ad 253)), some (.int (nI lot)), some (.int (2)), some (.int (j))]) RX8 "share" 0 0 (by decide +kernel) rfl rfl ⟨rfl, rfl⟩ (by simp [Value.category]) (Nat.le_of_ble_eq_true rfl) rfl ?_
  have hwf : MW (hput h 253 5 0) nL nH nB nC np pl lb := MW_o hw (hput_ne h 5 0 (by decide))
  have hb1 := hw.1.2
  have hb2 := hw.2.1.2
  have hb3 := hw.2.2.1.2
  have hb4 := hw.2.2.2.1.2
  have hlot24 : lot < 24 := by omega
  refine pw_aload_n dX8_share_0 rfl ?_
  refine pw_iconst dX8_share_1 (v := 0) (by decide) ?_
  refine pw_puti dX8_share_2 lf_X8_42 lp_8_5 sh_253 rfl rfl rfl ?_
  refine pw_aload_n dX8_share_5 rfl ?_
  refine pw_iload_n dX8_share_6 rfl ?_
  refine pw_cV dX8_share_7 (sp_X8_isLot) mi_X8_isLot mv_X8_isLot ml_X8_98 sh_253 rfl rfl rfl rfl ⟨rfl, rfl⟩ rfl rfl ?_
  refine pw_if_ne dX8_share_10 (tgt := 19) (by decide) (fun c10 => ?_) (fun c10 => absurd c10 (b2iT (show wiB (nI lot) 0 (h 254 0 - 1) = true from wi_ok hw.1.1 hlot (by have := hw.1.2; omega))))
  refine pw_iload_n dX8_share_19 rfl ?_
  refine pw_iconst dX8_share_20 (v := 0) (by decide) ?_
  refine pw_iconst dX8_share_21 (v := 3) (by decide) ?_
  refine pw_cS dX8_share_22 (sp_X8_isIn) mi_X8_isIn ms_X8_isIn ml_X8_55 rfl rfl ⟨rfl, rfl⟩ rfl rfl ?_
  refine pw_if_eq dX8_share_25 (tgt := 57) (by decide) (fun c25 => absurd c25 (b2iT rfl)) (fun c25 => ?_)
  refine pw_iload_n dX8_share_28 rfl ?_
  refine pw_iconst dX8_share_29 (v := 0) (by decide) ?_
  refine pw_iload_n dX8_share_30 rfl ?_
  refine pw_if_ne dX8_share_31 (tgt := 45) (by decide) (fun c31 => ?_) (fun c31 => absurd c31 (by decide))
  refine pw_iload_n dX8_share_45 rfl ?_
  refine pw_iconst dX8_share_46 (v := 1) (by decide) ?_
  refine pw_isub dX8_share_47 ?_
  refine pw_cS dX8_share_48 ((show PF l G yX8_mostOf (.code yX8_mostOf cX8_mostOf 1 ((Option.some FieldType.int))) { frames := 0, cells := 0, slots := 0, locals := 0 } [.int (2 - 1)] SW ad (hput h 253 5 0) (some (.int 4)) (hput h 253 5 0) from sp_X8_mostOf)) mi_X8_mostOf ms_X8_mostOf ml_X8_147 rfl rfl ⟨rfl, rfl⟩ rfl rfl ?_
  refine pw_cS dX8_share_51 (sp_X8_isIn) mi_X8_isIn ms_X8_isIn ml_X8_55 rfl rfl ⟨rfl, rfl⟩ rfl rfl ?_
  refine pw_if_ne dX8_share_54 (tgt := 63) (by decide) (fun c54 => absurd c54 (fun q => q (b2iF e))) (fun c54 => ?_)
  refine pw_aload_n dX8_share_57 rfl ?_
  refine pw_iconst dX8_share_58 (v := 2) (by decide) ?_
  refine pw_cV dX8_share_59 (sp_X8_fail) mi_X8_fail mv_X8_fail ml_X8_48 sh_253 rfl rfl rfl rfl ⟨rfl, rfl⟩ rfl rfl ?_
  exact pw_iretF dX8_share_62 rfl rfl rfl rfl rfl

set_option maxRecDepth 100000 in
set_option maxHeartbeats 4000000 in
theorem sp_X8_share_k2 {l : Launch} {G : GC} {ad : Nat → Nat} {h : HP} {nL nH nB nC : Nat} {np : Nat → Nat} {pl : Nat → Nat → Nat} {lb : Nat → Nat} (hw : MW h nL nH nB nC np pl lb) {lot : Nat} (hlot : lot < nL) {j : Int32} (e : wiB j 0 4 = true) : PF l G yX8_share (.code yX8_share cX8_share 4 ((Option.some FieldType.int))) { frames := 2, cells := 0, slots := 0, locals := 47 } [.ref (ad 253), .int (nI lot), .int (2), .int (j)] SW ad (h) (some (.int (shM h lot 1 nH j))) (faH h 0) := by
  refine PF.mk (L0 := [some (.ref (ad 253)), some (.int (nI lot)), some (.int (2)), some (.int (j))]) RX8 "share" 0 0 (by decide +kernel) rfl rfl ⟨rfl, rfl⟩ (by simp [Value.category]) (Nat.le_of_ble_eq_true rfl) rfl ?_
  have hwf : MW (hput h 253 5 0) nL nH nB nC np pl lb := MW_o hw (hput_ne h 5 0 (by decide))
  have hb1 := hw.1.2
  have hb2 := hw.2.1.2
  have hb3 := hw.2.2.1.2
  have hb4 := hw.2.2.2.1.2
  have hlot24 : lot < 24 := by omega
  refine pw_aload_n dX8_share_0 rfl ?_
  refine pw_iconst dX8_share_1 (v := 0) (by decide) ?_
  refine pw_puti dX8_share_2 lf_X8_42 lp_8_5 sh_253 rfl rfl rfl ?_
  refine pw_aload_n dX8_share_5 rfl ?_
  refine pw_iload_n dX8_share_6 rfl ?_
  refine pw_cV dX8_share_7 (sp_X8_isLot) mi_X8_isLot mv_X8_isLot ml_X8_98 sh_253 rfl rfl rfl rfl ⟨rfl, rfl⟩ rfl rfl ?_
  refine pw_if_ne dX8_share_10 (tgt := 19) (by decide) (fun c10 => ?_) (fun c10 => absurd c10 (b2iT (show wiB (nI lot) 0 (h 254 0 - 1) = true from wi_ok hw.1.1 hlot (by have := hw.1.2; omega))))
  refine pw_iload_n dX8_share_19 rfl ?_
  refine pw_iconst dX8_share_20 (v := 0) (by decide) ?_
  refine pw_iconst dX8_share_21 (v := 3) (by decide) ?_
  refine pw_cS dX8_share_22 (sp_X8_isIn) mi_X8_isIn ms_X8_isIn ml_X8_55 rfl rfl ⟨rfl, rfl⟩ rfl rfl ?_
  refine pw_if_eq dX8_share_25 (tgt := 57) (by decide) (fun c25 => absurd c25 (b2iT rfl)) (fun c25 => ?_)
  refine pw_iload_n dX8_share_28 rfl ?_
  refine pw_iconst dX8_share_29 (v := 0) (by decide) ?_
  refine pw_iload_n dX8_share_30 rfl ?_
  refine pw_if_ne dX8_share_31 (tgt := 45) (by decide) (fun c31 => ?_) (fun c31 => absurd c31 (by decide))
  refine pw_iload_n dX8_share_45 rfl ?_
  refine pw_iconst dX8_share_46 (v := 1) (by decide) ?_
  refine pw_isub dX8_share_47 ?_
  refine pw_cS dX8_share_48 ((show PF l G yX8_mostOf (.code yX8_mostOf cX8_mostOf 1 ((Option.some FieldType.int))) { frames := 0, cells := 0, slots := 0, locals := 0 } [.int (2 - 1)] SW ad (hput h 253 5 0) (some (.int 4)) (hput h 253 5 0) from sp_X8_mostOf)) mi_X8_mostOf ms_X8_mostOf ml_X8_147 rfl rfl ⟨rfl, rfl⟩ rfl rfl ?_
  refine pw_cS dX8_share_51 (sp_X8_isIn) mi_X8_isIn ms_X8_isIn ml_X8_55 rfl rfl ⟨rfl, rfl⟩ rfl rfl ?_
  refine pw_if_ne dX8_share_54 (tgt := 63) (by decide) (fun c54 => ?_) (fun c54 => absurd c54 (b2iT e))
  refine pw_iload_n dX8_share_63 rfl ?_
  refine pw_if_ne dX8_share_64 (tgt := 79) (by decide) (fun c64 => ?_) (fun c64 => absurd c64 (by decide))
  refine pw_aload_n dX8_share_79 rfl ?_
  refine pw_iload_n dX8_share_80 rfl ?_
  refine pw_iload_n dX8_share_81 rfl ?_
  refine pw_iconst dX8_share_82 (v := 1) (by decide) ?_
  refine pw_isub dX8_share_83 ?_
  refine pw_iload_n dX8_share_84 rfl ?_
  refine pw_cV dX8_share_85 (sp_X8_shareOf hwf hlot24 (w := 1) (by decide)) mi_X8_shareOf mv_X8_shareOf ml_X8_150 sh_253 rfl rfl rfl rfl ⟨rfl, rfl⟩ rfl rfl ?_
  exact pw_iretF dX8_share_88 rfl rfl rfl rfl rfl

set_option maxRecDepth 100000 in
set_option maxHeartbeats 4000000 in
theorem sp_X8_share_no33 {l : Launch} {G : GC} {ad : Nat → Nat} {h : HP} {nL nH nB nC : Nat} {np : Nat → Nat} {pl : Nat → Nat → Nat} {lb : Nat → Nat} (hw : MW h nL nH nB nC np pl lb) {lot : Nat} (hlot : lot < nL) {j : Int32} (e : wiB j 0 3 = false) : PF l G yX8_share (.code yX8_share cX8_share 4 ((Option.some FieldType.int))) { frames := 2, cells := 0, slots := 0, locals := 47 } [.ref (ad 253), .int (nI lot), .int (3), .int (j)] SW ad (h) (some (.int 0)) (faH (faH h 0) 2) := by
  refine PF.mk (L0 := [some (.ref (ad 253)), some (.int (nI lot)), some (.int (3)), some (.int (j))]) RX8 "share" 0 0 (by decide +kernel) rfl rfl ⟨rfl, rfl⟩ (by simp [Value.category]) (Nat.le_of_ble_eq_true rfl) rfl ?_
  have hwf : MW (hput h 253 5 0) nL nH nB nC np pl lb := MW_o hw (hput_ne h 5 0 (by decide))
  have hb1 := hw.1.2
  have hb2 := hw.2.1.2
  have hb3 := hw.2.2.1.2
  have hb4 := hw.2.2.2.1.2
  have hlot24 : lot < 24 := by omega
  refine pw_aload_n dX8_share_0 rfl ?_
  refine pw_iconst dX8_share_1 (v := 0) (by decide) ?_
  refine pw_puti dX8_share_2 lf_X8_42 lp_8_5 sh_253 rfl rfl rfl ?_
  refine pw_aload_n dX8_share_5 rfl ?_
  refine pw_iload_n dX8_share_6 rfl ?_
  refine pw_cV dX8_share_7 (sp_X8_isLot) mi_X8_isLot mv_X8_isLot ml_X8_98 sh_253 rfl rfl rfl rfl ⟨rfl, rfl⟩ rfl rfl ?_
  refine pw_if_ne dX8_share_10 (tgt := 19) (by decide) (fun c10 => ?_) (fun c10 => absurd c10 (b2iT (show wiB (nI lot) 0 (h 254 0 - 1) = true from wi_ok hw.1.1 hlot (by have := hw.1.2; omega))))
  refine pw_iload_n dX8_share_19 rfl ?_
  refine pw_iconst dX8_share_20 (v := 0) (by decide) ?_
  refine pw_iconst dX8_share_21 (v := 3) (by decide) ?_
  refine pw_cS dX8_share_22 (sp_X8_isIn) mi_X8_isIn ms_X8_isIn ml_X8_55 rfl rfl ⟨rfl, rfl⟩ rfl rfl ?_
  refine pw_if_eq dX8_share_25 (tgt := 57) (by decide) (fun c25 => absurd c25 (b2iT rfl)) (fun c25 => ?_)
  refine pw_iload_n dX8_share_28 rfl ?_
  refine pw_iconst dX8_share_29 (v := 0) (by decide) ?_
  refine pw_iload_n dX8_share_30 rfl ?_
  refine pw_if_ne dX8_share_31 (tgt := 45) (by decide) (fun c31 => ?_) (fun c31 => absurd c31 (by decide))
  refine pw_iload_n dX8_share_45 rfl ?_
  refine pw_iconst dX8_share_46 (v := 1) (by decide) ?_
  refine pw_isub dX8_share_47 ?_
  refine pw_cS dX8_share_48 ((show PF l G yX8_mostOf (.code yX8_mostOf cX8_mostOf 1 ((Option.some FieldType.int))) { frames := 0, cells := 0, slots := 0, locals := 0 } [.int (3 - 1)] SW ad (hput h 253 5 0) (some (.int 3)) (hput h 253 5 0) from sp_X8_mostOf)) mi_X8_mostOf ms_X8_mostOf ml_X8_147 rfl rfl ⟨rfl, rfl⟩ rfl rfl ?_
  refine pw_cS dX8_share_51 (sp_X8_isIn) mi_X8_isIn ms_X8_isIn ml_X8_55 rfl rfl ⟨rfl, rfl⟩ rfl rfl ?_
  refine pw_if_ne dX8_share_54 (tgt := 63) (by decide) (fun c54 => absurd c54 (fun q => q (b2iF e))) (fun c54 => ?_)
  refine pw_aload_n dX8_share_57 rfl ?_
  refine pw_iconst dX8_share_58 (v := 2) (by decide) ?_
  refine pw_cV dX8_share_59 (sp_X8_fail) mi_X8_fail mv_X8_fail ml_X8_48 sh_253 rfl rfl rfl rfl ⟨rfl, rfl⟩ rfl rfl ?_
  exact pw_iretF dX8_share_62 rfl rfl rfl rfl rfl

set_option maxRecDepth 100000 in
set_option maxHeartbeats 4000000 in
theorem sp_X8_share_k3 {l : Launch} {G : GC} {ad : Nat → Nat} {h : HP} {nL nH nB nC : Nat} {np : Nat → Nat} {pl : Nat → Nat → Nat} {lb : Nat → Nat} (hw : MW h nL nH nB nC np pl lb) {lot : Nat} (hlot : lot < nL) {j : Int32} (e : wiB j 0 3 = true) : PF l G yX8_share (.code yX8_share cX8_share 4 ((Option.some FieldType.int))) { frames := 2, cells := 0, slots := 0, locals := 47 } [.ref (ad 253), .int (nI lot), .int (3), .int (j)] SW ad (h) (some (.int (shM h lot 2 nH j))) (faH h 0) := by
  refine PF.mk (L0 := [some (.ref (ad 253)), some (.int (nI lot)), some (.int (3)), some (.int (j))]) RX8 "share" 0 0 (by decide +kernel) rfl rfl ⟨rfl, rfl⟩ (by simp [Value.category]) (Nat.le_of_ble_eq_true rfl) rfl ?_
  have hwf : MW (hput h 253 5 0) nL nH nB nC np pl lb := MW_o hw (hput_ne h 5 0 (by decide))
  have hb1 := hw.1.2
  have hb2 := hw.2.1.2
  have hb3 := hw.2.2.1.2
  have hb4 := hw.2.2.2.1.2
  have hlot24 : lot < 24 := by omega
  refine pw_aload_n dX8_share_0 rfl ?_
  refine pw_iconst dX8_share_1 (v := 0) (by decide) ?_
  refine pw_puti dX8_share_2 lf_X8_42 lp_8_5 sh_253 rfl rfl rfl ?_
  refine pw_aload_n dX8_share_5 rfl ?_
  refine pw_iload_n dX8_share_6 rfl ?_
  refine pw_cV dX8_share_7 (sp_X8_isLot) mi_X8_isLot mv_X8_isLot ml_X8_98 sh_253 rfl rfl rfl rfl ⟨rfl, rfl⟩ rfl rfl ?_
  refine pw_if_ne dX8_share_10 (tgt := 19) (by decide) (fun c10 => ?_) (fun c10 => absurd c10 (b2iT (show wiB (nI lot) 0 (h 254 0 - 1) = true from wi_ok hw.1.1 hlot (by have := hw.1.2; omega))))
  refine pw_iload_n dX8_share_19 rfl ?_
  refine pw_iconst dX8_share_20 (v := 0) (by decide) ?_
  refine pw_iconst dX8_share_21 (v := 3) (by decide) ?_
  refine pw_cS dX8_share_22 (sp_X8_isIn) mi_X8_isIn ms_X8_isIn ml_X8_55 rfl rfl ⟨rfl, rfl⟩ rfl rfl ?_
  refine pw_if_eq dX8_share_25 (tgt := 57) (by decide) (fun c25 => absurd c25 (b2iT rfl)) (fun c25 => ?_)
  refine pw_iload_n dX8_share_28 rfl ?_
  refine pw_iconst dX8_share_29 (v := 0) (by decide) ?_
  refine pw_iload_n dX8_share_30 rfl ?_
  refine pw_if_ne dX8_share_31 (tgt := 45) (by decide) (fun c31 => ?_) (fun c31 => absurd c31 (by decide))
  refine pw_iload_n dX8_share_45 rfl ?_
  refine pw_iconst dX8_share_46 (v := 1) (by decide) ?_
  refine pw_isub dX8_share_47 ?_
  refine pw_cS dX8_share_48 ((show PF l G yX8_mostOf (.code yX8_mostOf cX8_mostOf 1 ((Option.some FieldType.int))) { frames := 0, cells := 0, slots := 0, locals := 0 } [.int (3 - 1)] SW ad (hput h 253 5 0) (some (.int 3)) (hput h 253 5 0) from sp_X8_mostOf)) mi_X8_mostOf ms_X8_mostOf ml_X8_147 rfl rfl ⟨rfl, rfl⟩ rfl rfl ?_
  refine pw_cS dX8_share_51 (sp_X8_isIn) mi_X8_isIn ms_X8_isIn ml_X8_55 rfl rfl ⟨rfl, rfl⟩ rfl rfl ?_
  refine pw_if_ne dX8_share_54 (tgt := 63) (by decide) (fun c54 => ?_) (fun c54 => absurd c54 (b2iT e))
  refine pw_iload_n dX8_share_63 rfl ?_
  refine pw_if_ne dX8_share_64 (tgt := 79) (by decide) (fun c64 => ?_) (fun c64 => absurd c64 (by decide))
  refine pw_aload_n dX8_share_79 rfl ?_
  refine pw_iload_n dX8_share_80 rfl ?_
  refine pw_iload_n dX8_share_81 rfl ?_
  refine pw_iconst dX8_share_82 (v := 1) (by decide) ?_
  refine pw_isub dX8_share_83 ?_
  refine pw_iload_n dX8_share_84 rfl ?_
  refine pw_cV dX8_share_85 (sp_X8_shareOf hwf hlot24 (w := 2) (by decide)) mi_X8_shareOf mv_X8_shareOf ml_X8_150 sh_253 rfl rfl rfl rfl ⟨rfl, rfl⟩ rfl rfl ?_
  exact pw_iretF dX8_share_88 rfl rfl rfl rfl rfl

set_option maxRecDepth 100000 in
set_option maxHeartbeats 4000000 in
theorem sp_X8_setLaw_no1 {l : Launch} {G : GC} {ad : Nat → Nat} {h : HP} {n q : Int32} (e : wiB n 0 2 = false) : PF l G yX8_setLaw (.code yX8_setLaw cX8_setLaw 4 ((Option.some FieldType.int))) { frames := 1, cells := 0, slots := 0, locals := 22 } [.ref (ad 253), .int (n), .int (q)] SW ad (h) (some (.int 0)) (faH (faH h 0) 1) := by
  refine PF.mk (L0 := [some (.ref (ad 253)), some (.int (n)), some (.int (q)), none]) RX8 "setLaw" 0 0 (by decide +kernel) rfl rfl ⟨rfl, rfl⟩ (by simp [Value.category]) (Nat.le_of_ble_eq_true rfl) rfl ?_
  refine pw_aload_n dX8_setLaw_0 rfl ?_
  refine pw_iconst dX8_setLaw_1 (v := 0) (by decide) ?_
  refine pw_puti dX8_setLaw_2 lf_X8_42 lp_8_5 sh_253 rfl rfl rfl ?_
  refine pw_iload_n dX8_setLaw_5 rfl ?_
  refine pw_iconst dX8_setLaw_6 (v := 0) (by decide) ?_
  refine pw_iconst dX8_setLaw_7 (v := 2) (by decide) ?_
  refine pw_cS dX8_setLaw_8 (sp_X8_isIn) mi_X8_isIn ms_X8_isIn ml_X8_55 rfl rfl ⟨rfl, rfl⟩ rfl rfl ?_
  refine pw_if_ne dX8_setLaw_11 (tgt := 20) (by decide) (fun c11 => absurd c11 (fun q => q (b2iF e))) (fun c11 => ?_)
  refine pw_aload_n dX8_setLaw_14 rfl ?_
  refine pw_iconst dX8_setLaw_15 (v := 1) (by decide) ?_
  refine pw_cV dX8_setLaw_16 (sp_X8_fail) mi_X8_fail mv_X8_fail ml_X8_48 sh_253 rfl rfl rfl rfl ⟨rfl, rfl⟩ rfl rfl ?_
  exact pw_iretF dX8_setLaw_19 rfl rfl rfl rfl rfl

set_option maxRecDepth 100000 in
set_option maxHeartbeats 4000000 in
theorem sp_X8_setLaw_no2 {l : Launch} {G : GC} {ad : Nat → Nat} {h : HP} {n q : Int32} (e : wiB n 0 2 = true) (e2 : wiB q 500 1000 = false) : PF l G yX8_setLaw (.code yX8_setLaw cX8_setLaw 4 ((Option.some FieldType.int))) { frames := 1, cells := 0, slots := 0, locals := 22 } [.ref (ad 253), .int (n), .int (q)] SW ad (h) (some (.int 0)) (faH (faH h 0) 2) := by
  refine PF.mk (L0 := [some (.ref (ad 253)), some (.int (n)), some (.int (q)), none]) RX8 "setLaw" 0 0 (by decide +kernel) rfl rfl ⟨rfl, rfl⟩ (by simp [Value.category]) (Nat.le_of_ble_eq_true rfl) rfl ?_
  refine pw_aload_n dX8_setLaw_0 rfl ?_
  refine pw_iconst dX8_setLaw_1 (v := 0) (by decide) ?_
  refine pw_puti dX8_setLaw_2 lf_X8_42 lp_8_5 sh_253 rfl rfl rfl ?_
  refine pw_iload_n dX8_setLaw_5 rfl ?_
  refine pw_iconst dX8_setLaw_6 (v := 0) (by decide) ?_
  refine pw_iconst dX8_setLaw_7 (v := 2) (by decide) ?_
  refine pw_cS dX8_setLaw_8 (sp_X8_isIn) mi_X8_isIn ms_X8_isIn ml_X8_55 rfl rfl ⟨rfl, rfl⟩ rfl rfl ?_
  refine pw_if_ne dX8_setLaw_11 (tgt := 20) (by decide) (fun c11 => ?_) (fun c11 => absurd c11 (b2iT e))
  refine pw_iload_n dX8_setLaw_20 rfl ?_
  refine pw_sipush dX8_setLaw_21 (v := 500) (by decide) ?_
  refine pw_sipush dX8_setLaw_24 (v := 1000) (by decide) ?_
  refine pw_cS dX8_setLaw_27 (sp_X8_isIn) mi_X8_isIn ms_X8_isIn ml_X8_55 rfl rfl ⟨rfl, rfl⟩ rfl rfl ?_
  refine pw_if_ne dX8_setLaw_30 (tgt := 39) (by decide) (fun c30 => absurd c30 (fun q => q (b2iF e2))) (fun c30 => ?_)
  refine pw_aload_n dX8_setLaw_33 rfl ?_
  refine pw_iconst dX8_setLaw_34 (v := 2) (by decide) ?_
  refine pw_cV dX8_setLaw_35 (sp_X8_fail) mi_X8_fail mv_X8_fail ml_X8_48 sh_253 rfl rfl rfl rfl ⟨rfl, rfl⟩ rfl rfl ?_
  exact pw_iretF dX8_setLaw_38 rfl rfl rfl rfl rfl

set_option maxRecDepth 100000 in
set_option maxHeartbeats 4000000 in
theorem sp_X8_setLaw_ok {l : Launch} {G : GC} {ad : Nat → Nat} {h : HP} {w : Nat} (hw3 : w < 3) {q : Int32} (e2 : wiB q 500 1000 = true) {h3 : HP} (hrem : PF l G yX8_remember (.code yX8_remember cX8_remember 2 ((Option.none : Option FieldType))) { frames := 0, cells := 0, slots := 0, locals := 0 } [.ref (ad 253)] SW ad (hput h 253 5 0) (none) (h3)) : PF l G yX8_setLaw (.code yX8_setLaw cX8_setLaw 4 ((Option.some FieldType.int))) { frames := 1, cells := 0, slots := 0, locals := 22 } [.ref (ad 253), .int (nI w), .int (q)] SW ad (h) (some (.int (h 254 (5 + w)))) (hput h3 254 (5 + w) q) := by
  refine PF.mk (L0 := [some (.ref (ad 253)), some (.int (nI w)), some (.int (q)), none]) RX8 "setLaw" 0 0 (by decide +kernel) rfl rfl ⟨rfl, rfl⟩ (by simp [Value.category]) (Nat.le_of_ble_eq_true rfl) rfl ?_
  refine pw_aload_n dX8_setLaw_0 rfl ?_
  refine pw_iconst dX8_setLaw_1 (v := 0) (by decide) ?_
  refine pw_puti dX8_setLaw_2 lf_X8_42 lp_8_5 sh_253 rfl rfl rfl ?_
  refine pw_iload_n dX8_setLaw_5 rfl ?_
  refine pw_iconst dX8_setLaw_6 (v := 0) (by decide) ?_
  refine pw_iconst dX8_setLaw_7 (v := 2) (by decide) ?_
  refine pw_cS dX8_setLaw_8 (sp_X8_isIn) mi_X8_isIn ms_X8_isIn ml_X8_55 rfl rfl ⟨rfl, rfl⟩ rfl rfl ?_
  refine pw_if_ne dX8_setLaw_11 (tgt := 20) (by decide) (fun c11 => ?_) (fun c11 => absurd c11 (b2iT (wi_ok (x := 3) (N := 3) rfl hw3 (by decide))))
  refine pw_iload_n dX8_setLaw_20 rfl ?_
  refine pw_sipush dX8_setLaw_21 (v := 500) (by decide) ?_
  refine pw_sipush dX8_setLaw_24 (v := 1000) (by decide) ?_
  refine pw_cS dX8_setLaw_27 (sp_X8_isIn) mi_X8_isIn ms_X8_isIn ml_X8_55 rfl rfl ⟨rfl, rfl⟩ rfl rfl ?_
  refine pw_if_ne dX8_setLaw_30 (tgt := 39) (by decide) (fun c30 => ?_) (fun c30 => absurd c30 (b2iT e2))
  refine pw_aload_n dX8_setLaw_39 rfl ?_
  refine pw_getr dX8_setLaw_40 lf_X8_9 sh_253 rfl ?_
  refine pw_iconst dX8_setLaw_43 (v := 5) (by decide) ?_
  refine pw_iload_n dX8_setLaw_44 rfl ?_
  refine pw_iadd dX8_setLaw_45 ?_
  rw [show (5 : Int32) + nI w = nI (5 + w) from nI_add 5 w]
  refine pw_iaload dX8_setLaw_46 sh_254 (vpin (by omega) (by decide)) ?_
  rw [nI_cl (show 5 + w < 2147483648 by omega)]
  refine pw_istore_n dX8_setLaw_47 (by decide) rfl ?_
  refine pw_aload_n dX8_setLaw_48 rfl ?_
  refine pw_cVn dX8_setLaw_49 (hrem) mi_X8_remember mv_X8_remember ml_X8_63 sh_253 rfl rfl rfl rfl ⟨rfl, rfl⟩ rfl rfl ?_
  refine pw_aload_n dX8_setLaw_52 rfl ?_
  refine pw_getr dX8_setLaw_53 lf_X8_9 sh_253 rfl ?_
  refine pw_iconst dX8_setLaw_56 (v := 5) (by decide) ?_
  refine pw_iload_n dX8_setLaw_57 rfl ?_
  refine pw_iadd dX8_setLaw_58 ?_
  refine pw_iload_n dX8_setLaw_59 rfl ?_
  rw [show (5 : Int32) + nI w = nI (5 + w) from nI_add 5 w]
  refine pw_iastore dX8_setLaw_60 sh_254 (vpin (by omega) (by decide)) ?_
  rw [nI_cl (show 5 + w < 2147483648 by omega)]
  refine pw_iload_n dX8_setLaw_61 rfl ?_
  exact pw_iretF dX8_setLaw_62 rfl rfl rfl rfl rfl

