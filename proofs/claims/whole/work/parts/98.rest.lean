/-! WANTING STILL -/
theorem jp_harvest {l : Launch} {G : GC} {ad : Nat → Nat} (hfl : l.stackTraces = false) : J_harvest l G ad INV := sorry
theorem jp_blend {l : Launch} {G : GC} {ad : Nat → Nat} (hfl : l.stackTraces = false) : J_blend l G ad INV := sorry
theorem jp_spill {l : Launch} {G : GC} {ad : Nat → Nat} (hfl : l.stackTraces = false) : J_spill l G ad INV := sorry
theorem jp_greatest {l : Launch} {G : GC} {ad : Nat → Nat} (hfl : l.stackTraces = false) : J_greatest l G ad INV := sorry
theorem jp_setLaw {l : Launch} {G : GC} {ad : Nat → Nat} (hfl : l.stackTraces = false) : J_setLaw l G ad INV := sorry
theorem jp_bottle {l : Launch} {G : GC} {ad : Nat → Nat} (hfl : l.stackTraces = false) : J_bottle l G ad INV := sorry
theorem jp_forbids {l : Launch} {G : GC} {ad : Nat → Nat} (hfl : l.stackTraces = false) : J_forbids l G ad INV := sorry
theorem jp_bottling {l : Launch} {G : GC} {ad : Nat → Nat} (hfl : l.stackTraces = false) : J_bottling l G ad INV := sorry
theorem jp_addCustomer {l : Launch} {G : GC} {ad : Nat → Nat} (hfl : l.stackTraces = false) : J_addCustomer l G ad INV := sorry
theorem jp_wish {l : Launch} {G : GC} {ad : Nat → Nat} (hfl : l.stackTraces = false) : J_wish l G ad INV := sorry
theorem jp_serve {l : Launch} {G : GC} {ad : Nat → Nat} (hfl : l.stackTraces = false) : J_serve l G ad INV := sorry
theorem jp_giveBack {l : Launch} {G : GC} {ad : Nat → Nat} (hfl : l.stackTraces = false) : J_giveBack l G ad INV := sorry
theorem jp_holds {l : Launch} {G : GC} {ad : Nat → Nat} (hfl : l.stackTraces = false) : J_holds l G ad INV := sorry
theorem jp_listed {l : Launch} {G : GC} {ad : Nat → Nat} (hfl : l.stackTraces = false) : J_listed l G ad INV := sorry
theorem jp_recalled {l : Launch} {G : GC} {ad : Nat → Nat} (hfl : l.stackTraces = false) : J_recalled l G ad INV := sorry
theorem jp_recalledAgain {l : Launch} {G : GC} {ad : Nat → Nat} (hfl : l.stackTraces = false) : J_recalledAgain l G ad INV := sorry
theorem jp_bottlesOf {l : Launch} {G : GC} {ad : Nat → Nat} (hfl : l.stackTraces = false) : J_bottlesOf l G ad INV := sorry
theorem jp_ways {l : Launch} {G : GC} {ad : Nat → Nat} (hfl : l.stackTraces = false) : J_ways l G ad INV := sorry
theorem jp_account {l : Launch} {G : GC} {ad : Nat → Nat} (hfl : l.stackTraces = false) : J_account l G ad INV := sorry
theorem jp_feed {l : Launch} {G : GC} {ad : Nat → Nat} (hfl : l.stackTraces = false) : J_feed l G ad INV := sorry
theorem jp_undo {l : Launch} {G : GC} {ad : Nat → Nat} (hfl : l.stackTraces = false) : J_undo l G ad INV := sorry
theorem jp_save {l : Launch} {G : GC} {ad : Nat → Nat} (hfl : l.stackTraces = false) : J_save l G ad INV := sorry
theorem jp_restore {l : Launch} {G : GC} {ad : Nat → Nat} (hfl : l.stackTraces = false) : J_restore l G ad INV := sorry
theorem INV_0 : INV h00 := sorry
