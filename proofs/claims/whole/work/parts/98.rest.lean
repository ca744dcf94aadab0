/-! WANTING STILL -/
theorem jp_blend {l : Launch} {G : GC} {ad : Nat → Nat} (hfl : l.stackTraces = false) : J_blend l G ad INV := sorry
