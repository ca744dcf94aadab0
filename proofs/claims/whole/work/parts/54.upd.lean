/-! ONE CELL PUT ON BOTH SIDES -/
def upR (s : Nat → Int32) (i : Nat) (v : Int32) : Nat → Int32 := fun j => if j = i then v else s j
theorem upR_at (s : Nat → Int32) (i : Nat) (v : Int32) : upR s i v i = v := if_pos rfl
theorem upR_ne (s : Nat → Int32) {i j : Nat} (v : Int32) (h : j ≠ i) : upR s i v j = s j := if_neg h
theorem hput_u (h : HP) (p i : Nat) (v : Int32) : hput h p i v p = upR (h p) i v := by funext j; simp [hput, upR]
theorem hput_at (h : HP) (p i : Nat) (v : Int32) : hput h p i v p i = v := by simp [hput]

theorem Rep.ua1 {h : HP} {s : Nat → Int32} (r : Rep h 1 s) (v : Int32) : Rep (hput h 2 (5) v) 1 (upR s (0) v) := by
  obtain ⟨⟨a1, a2, a3, a4, a5⟩, b1, b2, b3, b4, b5, b6, b7, b8, b9, b10⟩ := r
  exact ⟨⟨by show hput _ _ _ _ _ _ = _; rw [hput_at, upR_at], by show hput _ _ _ _ 2 6 = _; rw [hput_k _ _ _ (by omega), upR_ne _ _ (by omega)]; exact a2, by show hput _ _ _ _ 13 1 = _; rw [hput_ne _ _ _ (by omega), upR_ne _ _ (by omega)]; exact a3, by show hput _ _ _ _ 16 3 = _; rw [hput_ne _ _ _ (by omega), upR_ne _ _ (by omega)]; exact a4, by show hput _ _ _ _ 2 7 = _; rw [hput_k _ _ _ (by omega), upR_ne _ _ (by omega)]; exact a5⟩,
    fun k' j' hk hj => by show hput _ _ _ _ 4 _ = _; rw [hput_ne _ _ _ (by omega), upR_ne _ _ (by omega)]; exact b1 k' j' hk hj,
    fun k' j' hk hj => by show hput _ _ _ _ 6 _ = _; rw [hput_ne _ _ _ (by omega), upR_ne _ _ (by omega)]; exact b2 k' j' hk hj,
    fun k' j' hk hj => by show hput _ _ _ _ 8 _ = _; rw [hput_ne _ _ _ (by omega), upR_ne _ _ (by omega)]; exact b3 k' j' hk hj,
    fun k' j' hk hj => by show hput _ _ _ _ 10 _ = _; rw [hput_ne _ _ _ (by omega), upR_ne _ _ (by omega)]; exact b4 k' j' hk hj,
    fun k' j' hk hj => by show hput _ _ _ _ 12 _ = _; rw [hput_ne _ _ _ (by omega), upR_ne _ _ (by omega)]; exact b5 k' j' hk hj,
    fun k' j' hk hj => by show hput _ _ _ _ 15 _ = _; rw [hput_ne _ _ _ (by omega), upR_ne _ _ (by omega)]; exact b6 k' j' hk hj,
    fun k' hk => by show hput _ _ _ _ 18 _ = _; rw [hput_ne _ _ _ (by omega), upR_ne _ _ (by omega)]; exact b7 k' hk,
    fun k' j' hk hj => by show hput _ _ _ _ 20 _ = _; rw [hput_ne _ _ _ (by omega), upR_ne _ _ (by omega)]; exact b8 k' j' hk hj,
    fun k' j' hk hj => by show hput _ _ _ _ 22 _ = _; rw [hput_ne _ _ _ (by omega), upR_ne _ _ (by omega)]; exact b9 k' j' hk hj,
    fun j' hj => by show hput _ _ _ _ 24 _ = _; rw [hput_ne _ _ _ (by omega), upR_ne _ _ (by omega)]; exact b10 j' hj⟩

theorem Rep.ua2 {h : HP} {s : Nat → Int32} (r : Rep h 1 s) (v : Int32) : Rep (hput h 2 (6) v) 1 (upR s (1) v) := by
  obtain ⟨⟨a1, a2, a3, a4, a5⟩, b1, b2, b3, b4, b5, b6, b7, b8, b9, b10⟩ := r
  exact ⟨⟨by show hput _ _ _ _ 2 5 = _; rw [hput_k _ _ _ (by omega), upR_ne _ _ (by omega)]; exact a1, by show hput _ _ _ _ _ _ = _; rw [hput_at, upR_at], by show hput _ _ _ _ 13 1 = _; rw [hput_ne _ _ _ (by omega), upR_ne _ _ (by omega)]; exact a3, by show hput _ _ _ _ 16 3 = _; rw [hput_ne _ _ _ (by omega), upR_ne _ _ (by omega)]; exact a4, by show hput _ _ _ _ 2 7 = _; rw [hput_k _ _ _ (by omega), upR_ne _ _ (by omega)]; exact a5⟩,
    fun k' j' hk hj => by show hput _ _ _ _ 4 _ = _; rw [hput_ne _ _ _ (by omega), upR_ne _ _ (by omega)]; exact b1 k' j' hk hj,
    fun k' j' hk hj => by show hput _ _ _ _ 6 _ = _; rw [hput_ne _ _ _ (by omega), upR_ne _ _ (by omega)]; exact b2 k' j' hk hj,
    fun k' j' hk hj => by show hput _ _ _ _ 8 _ = _; rw [hput_ne _ _ _ (by omega), upR_ne _ _ (by omega)]; exact b3 k' j' hk hj,
    fun k' j' hk hj => by show hput _ _ _ _ 10 _ = _; rw [hput_ne _ _ _ (by omega), upR_ne _ _ (by omega)]; exact b4 k' j' hk hj,
    fun k' j' hk hj => by show hput _ _ _ _ 12 _ = _; rw [hput_ne _ _ _ (by omega), upR_ne _ _ (by omega)]; exact b5 k' j' hk hj,
    fun k' j' hk hj => by show hput _ _ _ _ 15 _ = _; rw [hput_ne _ _ _ (by omega), upR_ne _ _ (by omega)]; exact b6 k' j' hk hj,
    fun k' hk => by show hput _ _ _ _ 18 _ = _; rw [hput_ne _ _ _ (by omega), upR_ne _ _ (by omega)]; exact b7 k' hk,
    fun k' j' hk hj => by show hput _ _ _ _ 20 _ = _; rw [hput_ne _ _ _ (by omega), upR_ne _ _ (by omega)]; exact b8 k' j' hk hj,
    fun k' j' hk hj => by show hput _ _ _ _ 22 _ = _; rw [hput_ne _ _ _ (by omega), upR_ne _ _ (by omega)]; exact b9 k' j' hk hj,
    fun j' hj => by show hput _ _ _ _ 24 _ = _; rw [hput_ne _ _ _ (by omega), upR_ne _ _ (by omega)]; exact b10 j' hj⟩

theorem Rep.ua3 {h : HP} {s : Nat → Int32} (r : Rep h 1 s) (v : Int32) : Rep (hput h 13 (1) v) 1 (upR s (2) v) := by
  obtain ⟨⟨a1, a2, a3, a4, a5⟩, b1, b2, b3, b4, b5, b6, b7, b8, b9, b10⟩ := r
  exact ⟨⟨by show hput _ _ _ _ 2 5 = _; rw [hput_ne _ _ _ (by omega), upR_ne _ _ (by omega)]; exact a1, by show hput _ _ _ _ 2 6 = _; rw [hput_ne _ _ _ (by omega), upR_ne _ _ (by omega)]; exact a2, by show hput _ _ _ _ _ _ = _; rw [hput_at, upR_at], by show hput _ _ _ _ 16 3 = _; rw [hput_ne _ _ _ (by omega), upR_ne _ _ (by omega)]; exact a4, by show hput _ _ _ _ 2 7 = _; rw [hput_ne _ _ _ (by omega), upR_ne _ _ (by omega)]; exact a5⟩,
    fun k' j' hk hj => by show hput _ _ _ _ 4 _ = _; rw [hput_ne _ _ _ (by omega), upR_ne _ _ (by omega)]; exact b1 k' j' hk hj,
    fun k' j' hk hj => by show hput _ _ _ _ 6 _ = _; rw [hput_ne _ _ _ (by omega), upR_ne _ _ (by omega)]; exact b2 k' j' hk hj,
    fun k' j' hk hj => by show hput _ _ _ _ 8 _ = _; rw [hput_ne _ _ _ (by omega), upR_ne _ _ (by omega)]; exact b3 k' j' hk hj,
    fun k' j' hk hj => by show hput _ _ _ _ 10 _ = _; rw [hput_ne _ _ _ (by omega), upR_ne _ _ (by omega)]; exact b4 k' j' hk hj,
    fun k' j' hk hj => by show hput _ _ _ _ 12 _ = _; rw [hput_ne _ _ _ (by omega), upR_ne _ _ (by omega)]; exact b5 k' j' hk hj,
    fun k' j' hk hj => by show hput _ _ _ _ 15 _ = _; rw [hput_ne _ _ _ (by omega), upR_ne _ _ (by omega)]; exact b6 k' j' hk hj,
    fun k' hk => by show hput _ _ _ _ 18 _ = _; rw [hput_ne _ _ _ (by omega), upR_ne _ _ (by omega)]; exact b7 k' hk,
    fun k' j' hk hj => by show hput _ _ _ _ 20 _ = _; rw [hput_ne _ _ _ (by omega), upR_ne _ _ (by omega)]; exact b8 k' j' hk hj,
    fun k' j' hk hj => by show hput _ _ _ _ 22 _ = _; rw [hput_ne _ _ _ (by omega), upR_ne _ _ (by omega)]; exact b9 k' j' hk hj,
    fun j' hj => by show hput _ _ _ _ 24 _ = _; rw [hput_ne _ _ _ (by omega), upR_ne _ _ (by omega)]; exact b10 j' hj⟩

theorem Rep.ua4 {h : HP} {s : Nat → Int32} (r : Rep h 1 s) (v : Int32) : Rep (hput h 16 (3) v) 1 (upR s (3) v) := by
  obtain ⟨⟨a1, a2, a3, a4, a5⟩, b1, b2, b3, b4, b5, b6, b7, b8, b9, b10⟩ := r
  exact ⟨⟨by show hput _ _ _ _ 2 5 = _; rw [hput_ne _ _ _ (by omega), upR_ne _ _ (by omega)]; exact a1, by show hput _ _ _ _ 2 6 = _; rw [hput_ne _ _ _ (by omega), upR_ne _ _ (by omega)]; exact a2, by show hput _ _ _ _ 13 1 = _; rw [hput_ne _ _ _ (by omega), upR_ne _ _ (by omega)]; exact a3, by show hput _ _ _ _ _ _ = _; rw [hput_at, upR_at], by show hput _ _ _ _ 2 7 = _; rw [hput_ne _ _ _ (by omega), upR_ne _ _ (by omega)]; exact a5⟩,
    fun k' j' hk hj => by show hput _ _ _ _ 4 _ = _; rw [hput_ne _ _ _ (by omega), upR_ne _ _ (by omega)]; exact b1 k' j' hk hj,
    fun k' j' hk hj => by show hput _ _ _ _ 6 _ = _; rw [hput_ne _ _ _ (by omega), upR_ne _ _ (by omega)]; exact b2 k' j' hk hj,
    fun k' j' hk hj => by show hput _ _ _ _ 8 _ = _; rw [hput_ne _ _ _ (by omega), upR_ne _ _ (by omega)]; exact b3 k' j' hk hj,
    fun k' j' hk hj => by show hput _ _ _ _ 10 _ = _; rw [hput_ne _ _ _ (by omega), upR_ne _ _ (by omega)]; exact b4 k' j' hk hj,
    fun k' j' hk hj => by show hput _ _ _ _ 12 _ = _; rw [hput_ne _ _ _ (by omega), upR_ne _ _ (by omega)]; exact b5 k' j' hk hj,
    fun k' j' hk hj => by show hput _ _ _ _ 15 _ = _; rw [hput_ne _ _ _ (by omega), upR_ne _ _ (by omega)]; exact b6 k' j' hk hj,
    fun k' hk => by show hput _ _ _ _ 18 _ = _; rw [hput_ne _ _ _ (by omega), upR_ne _ _ (by omega)]; exact b7 k' hk,
    fun k' j' hk hj => by show hput _ _ _ _ 20 _ = _; rw [hput_ne _ _ _ (by omega), upR_ne _ _ (by omega)]; exact b8 k' j' hk hj,
    fun k' j' hk hj => by show hput _ _ _ _ 22 _ = _; rw [hput_ne _ _ _ (by omega), upR_ne _ _ (by omega)]; exact b9 k' j' hk hj,
    fun j' hj => by show hput _ _ _ _ 24 _ = _; rw [hput_ne _ _ _ (by omega), upR_ne _ _ (by omega)]; exact b10 j' hj⟩

theorem Rep.ua5 {h : HP} {s : Nat → Int32} (r : Rep h 1 s) (v : Int32) : Rep (hput h 2 (7) v) 1 (upR s (4) v) := by
  obtain ⟨⟨a1, a2, a3, a4, a5⟩, b1, b2, b3, b4, b5, b6, b7, b8, b9, b10⟩ := r
  exact ⟨⟨by show hput _ _ _ _ 2 5 = _; rw [hput_k _ _ _ (by omega), upR_ne _ _ (by omega)]; exact a1, by show hput _ _ _ _ 2 6 = _; rw [hput_k _ _ _ (by omega), upR_ne _ _ (by omega)]; exact a2, by show hput _ _ _ _ 13 1 = _; rw [hput_ne _ _ _ (by omega), upR_ne _ _ (by omega)]; exact a3, by show hput _ _ _ _ 16 3 = _; rw [hput_ne _ _ _ (by omega), upR_ne _ _ (by omega)]; exact a4, by show hput _ _ _ _ _ _ = _; rw [hput_at, upR_at]⟩,
    fun k' j' hk hj => by show hput _ _ _ _ 4 _ = _; rw [hput_ne _ _ _ (by omega), upR_ne _ _ (by omega)]; exact b1 k' j' hk hj,
    fun k' j' hk hj => by show hput _ _ _ _ 6 _ = _; rw [hput_ne _ _ _ (by omega), upR_ne _ _ (by omega)]; exact b2 k' j' hk hj,
    fun k' j' hk hj => by show hput _ _ _ _ 8 _ = _; rw [hput_ne _ _ _ (by omega), upR_ne _ _ (by omega)]; exact b3 k' j' hk hj,
    fun k' j' hk hj => by show hput _ _ _ _ 10 _ = _; rw [hput_ne _ _ _ (by omega), upR_ne _ _ (by omega)]; exact b4 k' j' hk hj,
    fun k' j' hk hj => by show hput _ _ _ _ 12 _ = _; rw [hput_ne _ _ _ (by omega), upR_ne _ _ (by omega)]; exact b5 k' j' hk hj,
    fun k' j' hk hj => by show hput _ _ _ _ 15 _ = _; rw [hput_ne _ _ _ (by omega), upR_ne _ _ (by omega)]; exact b6 k' j' hk hj,
    fun k' hk => by show hput _ _ _ _ 18 _ = _; rw [hput_ne _ _ _ (by omega), upR_ne _ _ (by omega)]; exact b7 k' hk,
    fun k' j' hk hj => by show hput _ _ _ _ 20 _ = _; rw [hput_ne _ _ _ (by omega), upR_ne _ _ (by omega)]; exact b8 k' j' hk hj,
    fun k' j' hk hj => by show hput _ _ _ _ 22 _ = _; rw [hput_ne _ _ _ (by omega), upR_ne _ _ (by omega)]; exact b9 k' j' hk hj,
    fun j' hj => by show hput _ _ _ _ 24 _ = _; rw [hput_ne _ _ _ (by omega), upR_ne _ _ (by omega)]; exact b10 j' hj⟩

theorem Rep.ub1 {h : HP} {s : Nat → Int32} (r : Rep h 1 s) {k : Nat} {j : Nat} (hk : k < 24) (hj : j < 5) (v : Int32) : Rep (hput h 4 (k * 5 + j) v) 1 (upR s (8 + 25 * k + j) v) := by
  obtain ⟨⟨a1, a2, a3, a4, a5⟩, b1, b2, b3, b4, b5, b6, b7, b8, b9, b10⟩ := r
  exact ⟨⟨by show hput _ _ _ _ 2 5 = _; rw [hput_ne _ _ _ (by omega), upR_ne _ _ (by omega)]; exact a1, by show hput _ _ _ _ 2 6 = _; rw [hput_ne _ _ _ (by omega), upR_ne _ _ (by omega)]; exact a2, by show hput _ _ _ _ 13 1 = _; rw [hput_ne _ _ _ (by omega), upR_ne _ _ (by omega)]; exact a3, by show hput _ _ _ _ 16 3 = _; rw [hput_ne _ _ _ (by omega), upR_ne _ _ (by omega)]; exact a4, by show hput _ _ _ _ 2 7 = _; rw [hput_ne _ _ _ (by omega), upR_ne _ _ (by omega)]; exact a5⟩,
    fun k' j' hk hj => by
    by_cases e : k' = k ∧ j' = j
    · obtain ⟨rfl, rfl⟩ := e
      show hput _ _ _ _ _ _ = _
      rw [hput_at, upR_at]
    · show hput _ _ _ _ _ _ = _
      rw [hput_k _ _ _ (by omega), upR_ne _ _ (by omega)]; exact b1 k' j' hk hj,
    fun k' j' hk hj => by show hput _ _ _ _ 6 _ = _; rw [hput_ne _ _ _ (by omega), upR_ne _ _ (by omega)]; exact b2 k' j' hk hj,
    fun k' j' hk hj => by show hput _ _ _ _ 8 _ = _; rw [hput_ne _ _ _ (by omega), upR_ne _ _ (by omega)]; exact b3 k' j' hk hj,
    fun k' j' hk hj => by show hput _ _ _ _ 10 _ = _; rw [hput_ne _ _ _ (by omega), upR_ne _ _ (by omega)]; exact b4 k' j' hk hj,
    fun k' j' hk hj => by show hput _ _ _ _ 12 _ = _; rw [hput_ne _ _ _ (by omega), upR_ne _ _ (by omega)]; exact b5 k' j' hk hj,
    fun k' j' hk hj => by show hput _ _ _ _ 15 _ = _; rw [hput_ne _ _ _ (by omega), upR_ne _ _ (by omega)]; exact b6 k' j' hk hj,
    fun k' hk => by show hput _ _ _ _ 18 _ = _; rw [hput_ne _ _ _ (by omega), upR_ne _ _ (by omega)]; exact b7 k' hk,
    fun k' j' hk hj => by show hput _ _ _ _ 20 _ = _; rw [hput_ne _ _ _ (by omega), upR_ne _ _ (by omega)]; exact b8 k' j' hk hj,
    fun k' j' hk hj => by show hput _ _ _ _ 22 _ = _; rw [hput_ne _ _ _ (by omega), upR_ne _ _ (by omega)]; exact b9 k' j' hk hj,
    fun j' hj => by show hput _ _ _ _ 24 _ = _; rw [hput_ne _ _ _ (by omega), upR_ne _ _ (by omega)]; exact b10 j' hj⟩

theorem Rep.ub2 {h : HP} {s : Nat → Int32} (r : Rep h 1 s) {k : Nat} {j : Nat} (hk : k < 24) (hj : j < 4) (v : Int32) : Rep (hput h 6 (k * 4 + j) v) 1 (upR s (8 + 25 * k + (5 + j)) v) := by
  obtain ⟨⟨a1, a2, a3, a4, a5⟩, b1, b2, b3, b4, b5, b6, b7, b8, b9, b10⟩ := r
  exact ⟨⟨by show hput _ _ _ _ 2 5 = _; rw [hput_ne _ _ _ (by omega), upR_ne _ _ (by omega)]; exact a1, by show hput _ _ _ _ 2 6 = _; rw [hput_ne _ _ _ (by omega), upR_ne _ _ (by omega)]; exact a2, by show hput _ _ _ _ 13 1 = _; rw [hput_ne _ _ _ (by omega), upR_ne _ _ (by omega)]; exact a3, by show hput _ _ _ _ 16 3 = _; rw [hput_ne _ _ _ (by omega), upR_ne _ _ (by omega)]; exact a4, by show hput _ _ _ _ 2 7 = _; rw [hput_ne _ _ _ (by omega), upR_ne _ _ (by omega)]; exact a5⟩,
    fun k' j' hk hj => by show hput _ _ _ _ 4 _ = _; rw [hput_ne _ _ _ (by omega), upR_ne _ _ (by omega)]; exact b1 k' j' hk hj,
    fun k' j' hk hj => by
    by_cases e : k' = k ∧ j' = j
    · obtain ⟨rfl, rfl⟩ := e
      show hput _ _ _ _ _ _ = _
      rw [hput_at, upR_at]
    · show hput _ _ _ _ _ _ = _
      rw [hput_k _ _ _ (by omega), upR_ne _ _ (by omega)]; exact b2 k' j' hk hj,
    fun k' j' hk hj => by show hput _ _ _ _ 8 _ = _; rw [hput_ne _ _ _ (by omega), upR_ne _ _ (by omega)]; exact b3 k' j' hk hj,
    fun k' j' hk hj => by show hput _ _ _ _ 10 _ = _; rw [hput_ne _ _ _ (by omega), upR_ne _ _ (by omega)]; exact b4 k' j' hk hj,
    fun k' j' hk hj => by show hput _ _ _ _ 12 _ = _; rw [hput_ne _ _ _ (by omega), upR_ne _ _ (by omega)]; exact b5 k' j' hk hj,
    fun k' j' hk hj => by show hput _ _ _ _ 15 _ = _; rw [hput_ne _ _ _ (by omega), upR_ne _ _ (by omega)]; exact b6 k' j' hk hj,
    fun k' hk => by show hput _ _ _ _ 18 _ = _; rw [hput_ne _ _ _ (by omega), upR_ne _ _ (by omega)]; exact b7 k' hk,
    fun k' j' hk hj => by show hput _ _ _ _ 20 _ = _; rw [hput_ne _ _ _ (by omega), upR_ne _ _ (by omega)]; exact b8 k' j' hk hj,
    fun k' j' hk hj => by show hput _ _ _ _ 22 _ = _; rw [hput_ne _ _ _ (by omega), upR_ne _ _ (by omega)]; exact b9 k' j' hk hj,
    fun j' hj => by show hput _ _ _ _ 24 _ = _; rw [hput_ne _ _ _ (by omega), upR_ne _ _ (by omega)]; exact b10 j' hj⟩

theorem Rep.ub3 {h : HP} {s : Nat → Int32} (r : Rep h 1 s) {k : Nat} {j : Nat} (hk : k < 24) (hj : j < 4) (v : Int32) : Rep (hput h 8 (k * 4 + j) v) 1 (upR s (8 + 25 * k + (9 + j)) v) := by
  obtain ⟨⟨a1, a2, a3, a4, a5⟩, b1, b2, b3, b4, b5, b6, b7, b8, b9, b10⟩ := r
  exact ⟨⟨by show hput _ _ _ _ 2 5 = _; rw [hput_ne _ _ _ (by omega), upR_ne _ _ (by omega)]; exact a1, by show hput _ _ _ _ 2 6 = _; rw [hput_ne _ _ _ (by omega), upR_ne _ _ (by omega)]; exact a2, by show hput _ _ _ _ 13 1 = _; rw [hput_ne _ _ _ (by omega), upR_ne _ _ (by omega)]; exact a3, by show hput _ _ _ _ 16 3 = _; rw [hput_ne _ _ _ (by omega), upR_ne _ _ (by omega)]; exact a4, by show hput _ _ _ _ 2 7 = _; rw [hput_ne _ _ _ (by omega), upR_ne _ _ (by omega)]; exact a5⟩,
    fun k' j' hk hj => by show hput _ _ _ _ 4 _ = _; rw [hput_ne _ _ _ (by omega), upR_ne _ _ (by omega)]; exact b1 k' j' hk hj,
    fun k' j' hk hj => by show hput _ _ _ _ 6 _ = _; rw [hput_ne _ _ _ (by omega), upR_ne _ _ (by omega)]; exact b2 k' j' hk hj,
    fun k' j' hk hj => by
    by_cases e : k' = k ∧ j' = j
    · obtain ⟨rfl, rfl⟩ := e
      show hput _ _ _ _ _ _ = _
      rw [hput_at, upR_at]
    · show hput _ _ _ _ _ _ = _
      rw [hput_k _ _ _ (by omega), upR_ne _ _ (by omega)]; exact b3 k' j' hk hj,
    fun k' j' hk hj => by show hput _ _ _ _ 10 _ = _; rw [hput_ne _ _ _ (by omega), upR_ne _ _ (by omega)]; exact b4 k' j' hk hj,
    fun k' j' hk hj => by show hput _ _ _ _ 12 _ = _; rw [hput_ne _ _ _ (by omega), upR_ne _ _ (by omega)]; exact b5 k' j' hk hj,
    fun k' j' hk hj => by show hput _ _ _ _ 15 _ = _; rw [hput_ne _ _ _ (by omega), upR_ne _ _ (by omega)]; exact b6 k' j' hk hj,
    fun k' hk => by show hput _ _ _ _ 18 _ = _; rw [hput_ne _ _ _ (by omega), upR_ne _ _ (by omega)]; exact b7 k' hk,
    fun k' j' hk hj => by show hput _ _ _ _ 20 _ = _; rw [hput_ne _ _ _ (by omega), upR_ne _ _ (by omega)]; exact b8 k' j' hk hj,
    fun k' j' hk hj => by show hput _ _ _ _ 22 _ = _; rw [hput_ne _ _ _ (by omega), upR_ne _ _ (by omega)]; exact b9 k' j' hk hj,
    fun j' hj => by show hput _ _ _ _ 24 _ = _; rw [hput_ne _ _ _ (by omega), upR_ne _ _ (by omega)]; exact b10 j' hj⟩

theorem Rep.ub4 {h : HP} {s : Nat → Int32} (r : Rep h 1 s) {k : Nat} {j : Nat} (hk : k < 24) (hj : j < 12) (v : Int32) : Rep (hput h 10 (k * 12 + j) v) 1 (upR s (8 + 25 * k + (13 + j)) v) := by
  obtain ⟨⟨a1, a2, a3, a4, a5⟩, b1, b2, b3, b4, b5, b6, b7, b8, b9, b10⟩ := r
  exact ⟨⟨by show hput _ _ _ _ 2 5 = _; rw [hput_ne _ _ _ (by omega), upR_ne _ _ (by omega)]; exact a1, by show hput _ _ _ _ 2 6 = _; rw [hput_ne _ _ _ (by omega), upR_ne _ _ (by omega)]; exact a2, by show hput _ _ _ _ 13 1 = _; rw [hput_ne _ _ _ (by omega), upR_ne _ _ (by omega)]; exact a3, by show hput _ _ _ _ 16 3 = _; rw [hput_ne _ _ _ (by omega), upR_ne _ _ (by omega)]; exact a4, by show hput _ _ _ _ 2 7 = _; rw [hput_ne _ _ _ (by omega), upR_ne _ _ (by omega)]; exact a5⟩,
    fun k' j' hk hj => by show hput _ _ _ _ 4 _ = _; rw [hput_ne _ _ _ (by omega), upR_ne _ _ (by omega)]; exact b1 k' j' hk hj,
    fun k' j' hk hj => by show hput _ _ _ _ 6 _ = _; rw [hput_ne _ _ _ (by omega), upR_ne _ _ (by omega)]; exact b2 k' j' hk hj,
    fun k' j' hk hj => by show hput _ _ _ _ 8 _ = _; rw [hput_ne _ _ _ (by omega), upR_ne _ _ (by omega)]; exact b3 k' j' hk hj,
    fun k' j' hk hj => by
    by_cases e : k' = k ∧ j' = j
    · obtain ⟨rfl, rfl⟩ := e
      show hput _ _ _ _ _ _ = _
      rw [hput_at, upR_at]
    · show hput _ _ _ _ _ _ = _
      rw [hput_k _ _ _ (by omega), upR_ne _ _ (by omega)]; exact b4 k' j' hk hj,
    fun k' j' hk hj => by show hput _ _ _ _ 12 _ = _; rw [hput_ne _ _ _ (by omega), upR_ne _ _ (by omega)]; exact b5 k' j' hk hj,
    fun k' j' hk hj => by show hput _ _ _ _ 15 _ = _; rw [hput_ne _ _ _ (by omega), upR_ne _ _ (by omega)]; exact b6 k' j' hk hj,
    fun k' hk => by show hput _ _ _ _ 18 _ = _; rw [hput_ne _ _ _ (by omega), upR_ne _ _ (by omega)]; exact b7 k' hk,
    fun k' j' hk hj => by show hput _ _ _ _ 20 _ = _; rw [hput_ne _ _ _ (by omega), upR_ne _ _ (by omega)]; exact b8 k' j' hk hj,
    fun k' j' hk hj => by show hput _ _ _ _ 22 _ = _; rw [hput_ne _ _ _ (by omega), upR_ne _ _ (by omega)]; exact b9 k' j' hk hj,
    fun j' hj => by show hput _ _ _ _ 24 _ = _; rw [hput_ne _ _ _ (by omega), upR_ne _ _ (by omega)]; exact b10 j' hj⟩

theorem Rep.ub5 {h : HP} {s : Nat → Int32} (r : Rep h 1 s) {k : Nat} {j : Nat} (hk : k < 12) (hj : j < 3) (v : Int32) : Rep (hput h 12 (k * 3 + j) v) 1 (upR s (608 + 4 * k + j) v) := by
  obtain ⟨⟨a1, a2, a3, a4, a5⟩, b1, b2, b3, b4, b5, b6, b7, b8, b9, b10⟩ := r
  exact ⟨⟨by show hput _ _ _ _ 2 5 = _; rw [hput_ne _ _ _ (by omega), upR_ne _ _ (by omega)]; exact a1, by show hput _ _ _ _ 2 6 = _; rw [hput_ne _ _ _ (by omega), upR_ne _ _ (by omega)]; exact a2, by show hput _ _ _ _ 13 1 = _; rw [hput_ne _ _ _ (by omega), upR_ne _ _ (by omega)]; exact a3, by show hput _ _ _ _ 16 3 = _; rw [hput_ne _ _ _ (by omega), upR_ne _ _ (by omega)]; exact a4, by show hput _ _ _ _ 2 7 = _; rw [hput_ne _ _ _ (by omega), upR_ne _ _ (by omega)]; exact a5⟩,
    fun k' j' hk hj => by show hput _ _ _ _ 4 _ = _; rw [hput_ne _ _ _ (by omega), upR_ne _ _ (by omega)]; exact b1 k' j' hk hj,
    fun k' j' hk hj => by show hput _ _ _ _ 6 _ = _; rw [hput_ne _ _ _ (by omega), upR_ne _ _ (by omega)]; exact b2 k' j' hk hj,
    fun k' j' hk hj => by show hput _ _ _ _ 8 _ = _; rw [hput_ne _ _ _ (by omega), upR_ne _ _ (by omega)]; exact b3 k' j' hk hj,
    fun k' j' hk hj => by show hput _ _ _ _ 10 _ = _; rw [hput_ne _ _ _ (by omega), upR_ne _ _ (by omega)]; exact b4 k' j' hk hj,
    fun k' j' hk hj => by
    by_cases e : k' = k ∧ j' = j
    · obtain ⟨rfl, rfl⟩ := e
      show hput _ _ _ _ _ _ = _
      rw [hput_at, upR_at]
    · show hput _ _ _ _ _ _ = _
      rw [hput_k _ _ _ (by omega), upR_ne _ _ (by omega)]; exact b5 k' j' hk hj,
    fun k' j' hk hj => by show hput _ _ _ _ 15 _ = _; rw [hput_ne _ _ _ (by omega), upR_ne _ _ (by omega)]; exact b6 k' j' hk hj,
    fun k' hk => by show hput _ _ _ _ 18 _ = _; rw [hput_ne _ _ _ (by omega), upR_ne _ _ (by omega)]; exact b7 k' hk,
    fun k' j' hk hj => by show hput _ _ _ _ 20 _ = _; rw [hput_ne _ _ _ (by omega), upR_ne _ _ (by omega)]; exact b8 k' j' hk hj,
    fun k' j' hk hj => by show hput _ _ _ _ 22 _ = _; rw [hput_ne _ _ _ (by omega), upR_ne _ _ (by omega)]; exact b9 k' j' hk hj,
    fun j' hj => by show hput _ _ _ _ 24 _ = _; rw [hput_ne _ _ _ (by omega), upR_ne _ _ (by omega)]; exact b10 j' hj⟩

theorem Rep.ub6 {h : HP} {s : Nat → Int32} (r : Rep h 1 s) {k : Nat} {j : Nat} (hk : k < 16) (hj : j < 7) (v : Int32) : Rep (hput h 15 (k * 7 + j) v) 1 (upR s (656 + 7 * k + j) v) := by
  obtain ⟨⟨a1, a2, a3, a4, a5⟩, b1, b2, b3, b4, b5, b6, b7, b8, b9, b10⟩ := r
  exact ⟨⟨by show hput _ _ _ _ 2 5 = _; rw [hput_ne _ _ _ (by omega), upR_ne _ _ (by omega)]; exact a1, by show hput _ _ _ _ 2 6 = _; rw [hput_ne _ _ _ (by omega), upR_ne _ _ (by omega)]; exact a2, by show hput _ _ _ _ 13 1 = _; rw [hput_ne _ _ _ (by omega), upR_ne _ _ (by omega)]; exact a3, by show hput _ _ _ _ 16 3 = _; rw [hput_ne _ _ _ (by omega), upR_ne _ _ (by omega)]; exact a4, by show hput _ _ _ _ 2 7 = _; rw [hput_ne _ _ _ (by omega), upR_ne _ _ (by omega)]; exact a5⟩,
    fun k' j' hk hj => by show hput _ _ _ _ 4 _ = _; rw [hput_ne _ _ _ (by omega), upR_ne _ _ (by omega)]; exact b1 k' j' hk hj,
    fun k' j' hk hj => by show hput _ _ _ _ 6 _ = _; rw [hput_ne _ _ _ (by omega), upR_ne _ _ (by omega)]; exact b2 k' j' hk hj,
    fun k' j' hk hj => by show hput _ _ _ _ 8 _ = _; rw [hput_ne _ _ _ (by omega), upR_ne _ _ (by omega)]; exact b3 k' j' hk hj,
    fun k' j' hk hj => by show hput _ _ _ _ 10 _ = _; rw [hput_ne _ _ _ (by omega), upR_ne _ _ (by omega)]; exact b4 k' j' hk hj,
    fun k' j' hk hj => by show hput _ _ _ _ 12 _ = _; rw [hput_ne _ _ _ (by omega), upR_ne _ _ (by omega)]; exact b5 k' j' hk hj,
    fun k' j' hk hj => by
    by_cases e : k' = k ∧ j' = j
    · obtain ⟨rfl, rfl⟩ := e
      show hput _ _ _ _ _ _ = _
      rw [hput_at, upR_at]
    · show hput _ _ _ _ _ _ = _
      rw [hput_k _ _ _ (by omega), upR_ne _ _ (by omega)]; exact b6 k' j' hk hj,
    fun k' hk => by show hput _ _ _ _ 18 _ = _; rw [hput_ne _ _ _ (by omega), upR_ne _ _ (by omega)]; exact b7 k' hk,
    fun k' j' hk hj => by show hput _ _ _ _ 20 _ = _; rw [hput_ne _ _ _ (by omega), upR_ne _ _ (by omega)]; exact b8 k' j' hk hj,
    fun k' j' hk hj => by show hput _ _ _ _ 22 _ = _; rw [hput_ne _ _ _ (by omega), upR_ne _ _ (by omega)]; exact b9 k' j' hk hj,
    fun j' hj => by show hput _ _ _ _ 24 _ = _; rw [hput_ne _ _ _ (by omega), upR_ne _ _ (by omega)]; exact b10 j' hj⟩

theorem Rep.ub7 {h : HP} {s : Nat → Int32} (r : Rep h 1 s) {k : Nat} (hk : k < 8) (v : Int32) : Rep (hput h 18 (k * 1 + 0) v) 1 (upR s (768 + k) v) := by
  obtain ⟨⟨a1, a2, a3, a4, a5⟩, b1, b2, b3, b4, b5, b6, b7, b8, b9, b10⟩ := r
  exact ⟨⟨by show hput _ _ _ _ 2 5 = _; rw [hput_ne _ _ _ (by omega), upR_ne _ _ (by omega)]; exact a1, by show hput _ _ _ _ 2 6 = _; rw [hput_ne _ _ _ (by omega), upR_ne _ _ (by omega)]; exact a2, by show hput _ _ _ _ 13 1 = _; rw [hput_ne _ _ _ (by omega), upR_ne _ _ (by omega)]; exact a3, by show hput _ _ _ _ 16 3 = _; rw [hput_ne _ _ _ (by omega), upR_ne _ _ (by omega)]; exact a4, by show hput _ _ _ _ 2 7 = _; rw [hput_ne _ _ _ (by omega), upR_ne _ _ (by omega)]; exact a5⟩,
    fun k' j' hk hj => by show hput _ _ _ _ 4 _ = _; rw [hput_ne _ _ _ (by omega), upR_ne _ _ (by omega)]; exact b1 k' j' hk hj,
    fun k' j' hk hj => by show hput _ _ _ _ 6 _ = _; rw [hput_ne _ _ _ (by omega), upR_ne _ _ (by omega)]; exact b2 k' j' hk hj,
    fun k' j' hk hj => by show hput _ _ _ _ 8 _ = _; rw [hput_ne _ _ _ (by omega), upR_ne _ _ (by omega)]; exact b3 k' j' hk hj,
    fun k' j' hk hj => by show hput _ _ _ _ 10 _ = _; rw [hput_ne _ _ _ (by omega), upR_ne _ _ (by omega)]; exact b4 k' j' hk hj,
    fun k' j' hk hj => by show hput _ _ _ _ 12 _ = _; rw [hput_ne _ _ _ (by omega), upR_ne _ _ (by omega)]; exact b5 k' j' hk hj,
    fun k' j' hk hj => by show hput _ _ _ _ 15 _ = _; rw [hput_ne _ _ _ (by omega), upR_ne _ _ (by omega)]; exact b6 k' j' hk hj,
    fun k' hk => by
    by_cases e : k' = k
    · obtain rfl := e
      show hput _ _ _ _ _ _ = _
      rw [hput_at, upR_at]
    · show hput _ _ _ _ _ _ = _
      rw [hput_k _ _ _ (by omega), upR_ne _ _ (by omega)]; exact b7 k' hk,
    fun k' j' hk hj => by show hput _ _ _ _ 20 _ = _; rw [hput_ne _ _ _ (by omega), upR_ne _ _ (by omega)]; exact b8 k' j' hk hj,
    fun k' j' hk hj => by show hput _ _ _ _ 22 _ = _; rw [hput_ne _ _ _ (by omega), upR_ne _ _ (by omega)]; exact b9 k' j' hk hj,
    fun j' hj => by show hput _ _ _ _ 24 _ = _; rw [hput_ne _ _ _ (by omega), upR_ne _ _ (by omega)]; exact b10 j' hj⟩

theorem Rep.ub8 {h : HP} {s : Nat → Int32} (r : Rep h 1 s) {k : Nat} {j : Nat} (hk : k < 8) (hj : j < 16) (v : Int32) : Rep (hput h 20 (k * 16 + j) v) 1 (upR s (776 + 16 * k + j) v) := by
  obtain ⟨⟨a1, a2, a3, a4, a5⟩, b1, b2, b3, b4, b5, b6, b7, b8, b9, b10⟩ := r
  exact ⟨⟨by show hput _ _ _ _ 2 5 = _; rw [hput_ne _ _ _ (by omega), upR_ne _ _ (by omega)]; exact a1, by show hput _ _ _ _ 2 6 = _; rw [hput_ne _ _ _ (by omega), upR_ne _ _ (by omega)]; exact a2, by show hput _ _ _ _ 13 1 = _; rw [hput_ne _ _ _ (by omega), upR_ne _ _ (by omega)]; exact a3, by show hput _ _ _ _ 16 3 = _; rw [hput_ne _ _ _ (by omega), upR_ne _ _ (by omega)]; exact a4, by show hput _ _ _ _ 2 7 = _; rw [hput_ne _ _ _ (by omega), upR_ne _ _ (by omega)]; exact a5⟩,
    fun k' j' hk hj => by show hput _ _ _ _ 4 _ = _; rw [hput_ne _ _ _ (by omega), upR_ne _ _ (by omega)]; exact b1 k' j' hk hj,
    fun k' j' hk hj => by show hput _ _ _ _ 6 _ = _; rw [hput_ne _ _ _ (by omega), upR_ne _ _ (by omega)]; exact b2 k' j' hk hj,
    fun k' j' hk hj => by show hput _ _ _ _ 8 _ = _; rw [hput_ne _ _ _ (by omega), upR_ne _ _ (by omega)]; exact b3 k' j' hk hj,
    fun k' j' hk hj => by show hput _ _ _ _ 10 _ = _; rw [hput_ne _ _ _ (by omega), upR_ne _ _ (by omega)]; exact b4 k' j' hk hj,
    fun k' j' hk hj => by show hput _ _ _ _ 12 _ = _; rw [hput_ne _ _ _ (by omega), upR_ne _ _ (by omega)]; exact b5 k' j' hk hj,
    fun k' j' hk hj => by show hput _ _ _ _ 15 _ = _; rw [hput_ne _ _ _ (by omega), upR_ne _ _ (by omega)]; exact b6 k' j' hk hj,
    fun k' hk => by show hput _ _ _ _ 18 _ = _; rw [hput_ne _ _ _ (by omega), upR_ne _ _ (by omega)]; exact b7 k' hk,
    fun k' j' hk hj => by
    by_cases e : k' = k ∧ j' = j
    · obtain ⟨rfl, rfl⟩ := e
      show hput _ _ _ _ _ _ = _
      rw [hput_at, upR_at]
    · show hput _ _ _ _ _ _ = _
      rw [hput_k _ _ _ (by omega), upR_ne _ _ (by omega)]; exact b8 k' j' hk hj,
    fun k' j' hk hj => by show hput _ _ _ _ 22 _ = _; rw [hput_ne _ _ _ (by omega), upR_ne _ _ (by omega)]; exact b9 k' j' hk hj,
    fun j' hj => by show hput _ _ _ _ 24 _ = _; rw [hput_ne _ _ _ (by omega), upR_ne _ _ (by omega)]; exact b10 j' hj⟩

theorem Rep.ub9 {h : HP} {s : Nat → Int32} (r : Rep h 1 s) {k : Nat} {j : Nat} (hk : k < 8) (hj : j < 16) (v : Int32) : Rep (hput h 22 (k * 16 + j) v) 1 (upR s (904 + 16 * k + j) v) := by
  obtain ⟨⟨a1, a2, a3, a4, a5⟩, b1, b2, b3, b4, b5, b6, b7, b8, b9, b10⟩ := r
  exact ⟨⟨by show hput _ _ _ _ 2 5 = _; rw [hput_ne _ _ _ (by omega), upR_ne _ _ (by omega)]; exact a1, by show hput _ _ _ _ 2 6 = _; rw [hput_ne _ _ _ (by omega), upR_ne _ _ (by omega)]; exact a2, by show hput _ _ _ _ 13 1 = _; rw [hput_ne _ _ _ (by omega), upR_ne _ _ (by omega)]; exact a3, by show hput _ _ _ _ 16 3 = _; rw [hput_ne _ _ _ (by omega), upR_ne _ _ (by omega)]; exact a4, by show hput _ _ _ _ 2 7 = _; rw [hput_ne _ _ _ (by omega), upR_ne _ _ (by omega)]; exact a5⟩,
    fun k' j' hk hj => by show hput _ _ _ _ 4 _ = _; rw [hput_ne _ _ _ (by omega), upR_ne _ _ (by omega)]; exact b1 k' j' hk hj,
    fun k' j' hk hj => by show hput _ _ _ _ 6 _ = _; rw [hput_ne _ _ _ (by omega), upR_ne _ _ (by omega)]; exact b2 k' j' hk hj,
    fun k' j' hk hj => by show hput _ _ _ _ 8 _ = _; rw [hput_ne _ _ _ (by omega), upR_ne _ _ (by omega)]; exact b3 k' j' hk hj,
    fun k' j' hk hj => by show hput _ _ _ _ 10 _ = _; rw [hput_ne _ _ _ (by omega), upR_ne _ _ (by omega)]; exact b4 k' j' hk hj,
    fun k' j' hk hj => by show hput _ _ _ _ 12 _ = _; rw [hput_ne _ _ _ (by omega), upR_ne _ _ (by omega)]; exact b5 k' j' hk hj,
    fun k' j' hk hj => by show hput _ _ _ _ 15 _ = _; rw [hput_ne _ _ _ (by omega), upR_ne _ _ (by omega)]; exact b6 k' j' hk hj,
    fun k' hk => by show hput _ _ _ _ 18 _ = _; rw [hput_ne _ _ _ (by omega), upR_ne _ _ (by omega)]; exact b7 k' hk,
    fun k' j' hk hj => by show hput _ _ _ _ 20 _ = _; rw [hput_ne _ _ _ (by omega), upR_ne _ _ (by omega)]; exact b8 k' j' hk hj,
    fun k' j' hk hj => by
    by_cases e : k' = k ∧ j' = j
    · obtain ⟨rfl, rfl⟩ := e
      show hput _ _ _ _ _ _ = _
      rw [hput_at, upR_at]
    · show hput _ _ _ _ _ _ = _
      rw [hput_k _ _ _ (by omega), upR_ne _ _ (by omega)]; exact b9 k' j' hk hj,
    fun j' hj => by show hput _ _ _ _ 24 _ = _; rw [hput_ne _ _ _ (by omega), upR_ne _ _ (by omega)]; exact b10 j' hj⟩

theorem Rep.ub10 {h : HP} {s : Nat → Int32} (r : Rep h 1 s) {j : Nat} (hj : j < 3) (v : Int32) : Rep (hput h 24 (0 * 3 + j) v) 1 (upR s (5 + j) v) := by
  obtain ⟨⟨a1, a2, a3, a4, a5⟩, b1, b2, b3, b4, b5, b6, b7, b8, b9, b10⟩ := r
  exact ⟨⟨by show hput _ _ _ _ 2 5 = _; rw [hput_ne _ _ _ (by omega), upR_ne _ _ (by omega)]; exact a1, by show hput _ _ _ _ 2 6 = _; rw [hput_ne _ _ _ (by omega), upR_ne _ _ (by omega)]; exact a2, by show hput _ _ _ _ 13 1 = _; rw [hput_ne _ _ _ (by omega), upR_ne _ _ (by omega)]; exact a3, by show hput _ _ _ _ 16 3 = _; rw [hput_ne _ _ _ (by omega), upR_ne _ _ (by omega)]; exact a4, by show hput _ _ _ _ 2 7 = _; rw [hput_ne _ _ _ (by omega), upR_ne _ _ (by omega)]; exact a5⟩,
    fun k' j' hk hj => by show hput _ _ _ _ 4 _ = _; rw [hput_ne _ _ _ (by omega), upR_ne _ _ (by omega)]; exact b1 k' j' hk hj,
    fun k' j' hk hj => by show hput _ _ _ _ 6 _ = _; rw [hput_ne _ _ _ (by omega), upR_ne _ _ (by omega)]; exact b2 k' j' hk hj,
    fun k' j' hk hj => by show hput _ _ _ _ 8 _ = _; rw [hput_ne _ _ _ (by omega), upR_ne _ _ (by omega)]; exact b3 k' j' hk hj,
    fun k' j' hk hj => by show hput _ _ _ _ 10 _ = _; rw [hput_ne _ _ _ (by omega), upR_ne _ _ (by omega)]; exact b4 k' j' hk hj,
    fun k' j' hk hj => by show hput _ _ _ _ 12 _ = _; rw [hput_ne _ _ _ (by omega), upR_ne _ _ (by omega)]; exact b5 k' j' hk hj,
    fun k' j' hk hj => by show hput _ _ _ _ 15 _ = _; rw [hput_ne _ _ _ (by omega), upR_ne _ _ (by omega)]; exact b6 k' j' hk hj,
    fun k' hk => by show hput _ _ _ _ 18 _ = _; rw [hput_ne _ _ _ (by omega), upR_ne _ _ (by omega)]; exact b7 k' hk,
    fun k' j' hk hj => by show hput _ _ _ _ 20 _ = _; rw [hput_ne _ _ _ (by omega), upR_ne _ _ (by omega)]; exact b8 k' j' hk hj,
    fun k' j' hk hj => by show hput _ _ _ _ 22 _ = _; rw [hput_ne _ _ _ (by omega), upR_ne _ _ (by omega)]; exact b9 k' j' hk hj,
    fun j' hj => by
    by_cases e : j' = j
    · obtain rfl := e
      show hput _ _ _ _ _ _ = _
      rw [hput_at, upR_at]
    · show hput _ _ _ _ _ _ = _
      rw [hput_k _ _ _ (by omega), upR_ne _ _ (by omega)]; exact b10 j' hj⟩

/-- all that is kept, behind a change of the present -/
theorem INV_ch {h h1 h2 : HP} {k c : Nat} {z : Int32} (hI : INV h) (hk8 : k < 8) (hc8 : c ≤ 8) (hh : HisOk h k c)
    (a : ∀ q, 24 < q ∨ q = 0 → h1 q = remH h 1 k c q) (b : ∀ q, q ≠ 254 → h2 q = remM (hput (hput h1 263 0 z) 253 5 0) c q)
    (n : Rep h1 1 (h2 254) ∧ Inv (h2 254)) : INV h2 := by
  obtain ⟨hn, hS, hH, hIn, hR, h9⟩ := hI
  have e : ∀ q, q ≠ 253 → q ≠ 254 → q ≠ 255 → q ≠ 263 → h2 q = h1 q := fun q q1 q2 q3 q4 => by rw [b q q2, remM_o _ _ q1 q3, hput_ne _ _ _ q1, hput_ne _ _ _ q4]
  have a2 : ∀ q, (24 < q ∧ q < 49) ∨ q = 0 ∨ 242 < q → h1 q = h q := fun q hq => by rw [a q (by omega), remH_o h 1 k c hk8 (by omega)]
  have e2 : ∀ q, (24 < q ∧ q < 49) ∨ q = 0 ∨ (242 < q ∧ q ≠ 253 ∧ q ≠ 254 ∧ q ≠ 255 ∧ q ≠ 263) → h2 q = h q := fun q hq => by rw [e q (by omega) (by omega) (by omega) (by omega), a2 q (by omega)]
  have em : ∀ j, j ≠ 2 → j ≠ 5 → h2 253 j = h 253 j := fun j h1 h2 => by rw [b 253 (by decide), remM_k _ _ h1, hput_k _ _ _ h2, hput_ne _ _ _ (by decide), a2 253 (by omega)]
  have e0 := e2 0 (by omega)
  refine ⟨⟨n.1.congr (fun o h1 h2 => e _ (by omega) (by omega) (by omega) (by omega)) (fun _ _ => rfl), n.2⟩,
    InvS_c hS (fun q h1 h2 => e2 q (by omega)) (by rw [e0]) (em 4 (by decide) (by decide)) (e2 256 (by omega)),
    InvH_rem hk8 hc8 hh hn (fun q h1 h2 => (e q (by omega) (by omega) (by omega) (by omega)).trans (a q (by omega))) (by rw [b 253 (by decide)]; exact remM_2 _ hc8) (fun i j hi hj => ?_),
    InvI_c hIn (by rw [e2 243 (by omega)]) (em 9 (by decide) (by decide)) (e2 244 (by omega)) (e2 257 (by omega)),
    InvR_c hR (by rw [e0]) (em 6 (by decide) (by decide)), by rw [e0, em 7 (by decide) (by decide)]; exact h9⟩
  rw [b 255 (by decide), remM_row _ hc8 hi hj, hput_ne _ _ _ (by decide : (254 : Nat) ≠ 253), hput_ne _ _ _ (by decide : (254 : Nat) ≠ 263), hput_ne _ _ _ (by decide : (255 : Nat) ≠ 253), hput_ne _ _ _ (by decide : (255 : Nat) ≠ 263), a2 254 (by omega), a2 255 (by omega)]
/-- rows whose lots are as they were -/
theorem Inv.cust {s s' : Nat → Int32} (i : Inv s) (e0 : ∀ j, j < 3 → s' j = s j) (e1 : ∀ j, 8 ≤ j → j < 656 → s' j = s j)
    (e2 : ∀ b j, b < 16 → j < 7 → j ≠ 2 → s' (656 + 7 * b + j) = s (656 + 7 * b + j)) (c3 : bd (s' 3) 8) (la : ∀ j, j < 3 → bd (s' (5 + j)) 1000)
    (st : ∀ b, b < nv (s 2) → bd (s' (656 + 7 * b + 2)) 3333 ∧ nHd s' b 8 + nv (s' (656 + 7 * b + 2)) = nv (s (656 + 7 * b + 1)))
    (z2 : ∀ b, nv (s 2) ≤ b → b < 16 → s' (656 + 7 * b + 2) = 0) (kd : ∀ c, c < 8 → bd (s' (768 + c)) 2)
    (hw : ∀ c b, c < 8 → b < 16 → bd (s' (776 + 16 * c + b)) 3333 ∧ bd (s' (904 + 16 * c + b)) 3333)
    (hz : ∀ c b, c < 8 → b < 16 → (nv (s' 3) ≤ c ∨ nv (s 2) ≤ b) → s' (776 + 16 * c + b) = 0 ∧ s' (904 + 16 * c + b) = 0) (kz : ∀ c, nv (s' 3) ≤ c → c < 8 → s' (768 + c) = 0) : Inv s' := by
  have hhv : ∀ k, k < 24 → hvB s' k = hvB s k := fun k hk => by unfold hvB; rw [e1 _ (by omega) (by omega)]
  have hcn : ∀ k, k ≤ 24 → cntB (hvB s') k = cntB (hvB s) k := fun k hk => cntB_c (fun j hj => hhv j (by omega))
  obtain ⟨⟨a1, a2, a3, a4⟩, b1, b2, b3, b4, b5, b6, b7, b8, b9, b10⟩ := i
  have f0 := e0 0 (by decide)
  have f1 := e0 1 (by decide)
  have f2 := e0 2 (by decide)
  have h24 := a1.2
  have h16 := a3.2
  refine ⟨⟨by rw [f0]; exact a1, by rw [f1]; exact a2, by rw [f2]; exact a3, c3⟩, la, fun k hk => ?_, fun k j hk h2 hj => ?_, by rw [f0, f1, hcn _ h24]; exact b4, fun b hb => ?_, fun b j hb h2 hj => ?_, kd, hw, fun c b hc hb hq => hz c b hc hb (by rw [f2] at hq; exact hq), kz⟩
  · rw [f0] at hk
    have := cntB_le (hvB s) k
    exact (b2 k hk).congr (fun i j hi hj _ => e1 _ (by omega) (by omega)) (by rw [e1 _ (by omega) (by omega)]; exact (b2 k hk).2.1) (by rw [f1]; exact Nat.le_refl _) (by omega) (fun hq => e1 _ (by omega) (by
      have h3 : cntB (hvB s) (k + 1) ≤ cntB (hvB s) (nv (s 0)) := cnt_mono hk
      rw [cntB, hq] at h3
      have h4 := a2.2
      have h5 : (if true = true then 1 else 0) = 1 := rfl
      omega))
  · rw [f0] at hk
    rw [e1 _ (by omega) (by omega)]; exact b3 k j hk h2 hj
  · rw [f2] at hb
    obtain ⟨⟨c1, c2⟩, c3, c4, c5, c6⟩ := b5 b hb
    obtain ⟨d1, d2⟩ := st b hb
    refine ⟨⟨by rw [e2 b 0 (by omega) (by omega) (by omega)]; exact c1, by rw [e2 b 0 (by omega) (by omega) (by omega), f0]; exact c2⟩, by rw [e2 b 1 (by omega) (by omega) (by omega)]; exact c3, d1, by rw [e2 b 5 (by omega) (by omega) (by omega), e2 b 4 (by omega) (by omega) (by omega)]; exact c5, ?_⟩
    rw [d2, e2 b 1 (by omega) (by omega) (by omega)]
  · rw [f2] at hb
    by_cases h7 : j = 2
    · subst h7; exact z2 b hb h2
    · rw [e2 b j h2 hj h7]; exact b6 b j hb h2 hj
/-- rows whose lots hold other quantities -/
theorem Inv.qty {s s' : Nat → Int32} (i : Inv s) (e : ∀ j, j < 1032 → j ≠ 4 → (∀ k, k < 24 → j ≠ 8 + 25 * k + 1) → s' j = s j)
    (q : ∀ k, k < 24 → bd (s' (8 + 25 * k + 1)) 39996 ∧ (nv (s 0) ≤ k → s' (8 + 25 * k + 1) = 0)) : Inv s' := by
  have hhv : ∀ k, k < 24 → hvB s' k = hvB s k := fun k hk => by unfold hvB; rw [e _ (by omega) (by omega) (fun _ _ => by omega)]
  have hcn : ∀ k, k ≤ 24 → cntB (hvB s') k = cntB (hvB s) k := fun k hk => cntB_c (fun j hj => hhv j (by omega))
  obtain ⟨⟨a1, a2, a3, a4⟩, b1, b2, b3, b4, b5, b6, b7, b8, b9, b10⟩ := i
  have f0 := e 0 (by omega) (by omega) (fun _ _ => by omega)
  have f1 := e 1 (by omega) (by omega) (fun _ _ => by omega)
  have f2 := e 2 (by omega) (by omega) (fun _ _ => by omega)
  have f3 := e 3 (by omega) (by omega) (fun _ _ => by omega)
  have h24 := a1.2
  have h16 := a3.2
  refine ⟨⟨by rw [f0]; exact a1, by rw [f1]; exact a2, by rw [f2]; exact a3, by rw [f3]; exact a4⟩, fun j hj => by rw [e _ (by omega) (by omega) (fun _ _ => by omega)]; exact b1 j hj, fun k hk => ?_, fun k j hk h2 hj => ?_, by rw [f0, f1, hcn _ h24]; exact b4, fun b hb => ?_, fun b j hb h2 hj => ?_,
    fun c hc => by rw [e _ (by omega) (by omega) (fun _ _ => by omega)]; exact b7 c hc, fun c b hc hb => by rw [e _ (by omega) (by omega) (fun _ _ => by omega), e _ (by omega) (by omega) (fun _ _ => by omega)]; exact b8 c b hc hb,
    fun c b hc hb hq => by rw [f2, f3] at hq; rw [e _ (by omega) (by omega) (fun _ _ => by omega), e _ (by omega) (by omega) (fun _ _ => by omega)]; exact b9 c b hc hb hq, fun c hq hc => by rw [f3] at hq; rw [e _ (by omega) (by omega) (fun _ _ => by omega)]; exact b10 c hq hc⟩
  · rw [f0] at hk
    have := cntB_le (hvB s) k
    exact (b2 k hk).congr (fun i j hi hj h1 => e _ (by omega) (by omega) (fun _ _ => by omega)) (q k (by omega)).1 (by rw [f1]; exact Nat.le_refl _) (by omega) (fun hq => e _ (by omega) (by omega) (fun _ _ => by omega))
  · rw [f0] at hk
    by_cases h1 : j = 1
    · subst h1; exact (q k h2).2 hk
    · rw [e _ (by omega) (by omega) (fun _ _ => by omega)]; exact b3 k j hk h2 hj
  · rw [f2] at hb
    obtain ⟨⟨c1, c2⟩, c3, c4, c5, c6⟩ := b5 b hb
    have eb : ∀ j, j < 7 → s' (656 + 7 * b + j) = s (656 + 7 * b + j) := fun j hj => e _ (by omega) (by omega) (fun _ _ => by omega)
    refine ⟨⟨by rw [eb 0 (by omega)]; exact c1, by rw [eb 0 (by omega), f0]; exact c2⟩, by rw [eb 1 (by omega)]; exact c3, by rw [eb 2 (by omega)]; exact c4, by rw [eb 5 (by omega), eb 4 (by omega)]; exact c5, ?_⟩
    rw [nHd_c (fun c hc => e _ (by omega) (by omega) (fun _ _ => by omega)), eb 1 (by omega), eb 2 (by omega)]; exact c6
  · rw [f2] at hb
    rw [e _ (by omega) (by omega) (fun _ _ => by omega)]; exact b6 b j hb h2 hj
/-- one lot more -/
theorem Inv.addLot {s s' : Nat → Int32} {nL : Nat} (i : Inv s) (hnL : nv (s 0) = nL) (hn : nL < 24) (e0 : s' 0 = nI (nL + 1)) (h1 : bd (s' 1) 12) (hcnt : cntB (hvB s') (nL + 1) = nv (s' 1)) (hmono : nv (s 1) ≤ nv (s' 1))
    (e : ∀ j, j < 1032 → j ≠ 0 → j ≠ 1 → (j < 8 + 25 * nL ∨ 8 + 25 * nL + 25 ≤ j) → (j < 608 + 4 * nv (s 1) ∨ 656 ≤ j) → s' j = s j) (hl : LotOk s' nL) : Inv s' := by
  subst hnL
  obtain ⟨⟨a1, a2, a3, a4⟩, b1, b2, b3, b4, b5, b6, b7, b8, b9, b10⟩ := i
  have h12 := a2.2
  have f2 := e 2 (by omega) (by omega) (by omega) (by omega) (by omega)
  have f3 := e 3 (by omega) (by omega) (by omega) (by omega) (by omega)
  have h16 := a3.2
  have n1 : nv (s' 0) = nv (s 0) + 1 := by rw [e0]; exact nv_nI (by omega)
  have up : ∀ j, 656 ≤ j → j < 1032 → s' j = s j := fun j h1 h2 => e j h2 (by omega) (by omega) (by omega) (by omega)
  refine ⟨⟨by rw [e0]; exact bd_nI (by omega) (by decide), h1, by rw [f2]; exact a3, by rw [f3]; exact a4⟩, fun j hj => by rw [e _ (by omega) (by omega) (by omega) (by omega) (by omega)]; exact b1 j hj, fun k hk => ?_, fun k j hk h2 hj => ?_, by rw [n1]; exact hcnt, fun b hb => ?_, fun b j hb h2 hj => ?_,
    fun c hc => by rw [up _ (by omega) (by omega)]; exact b7 c hc, fun c b hc hb => by rw [up _ (by omega) (by omega), up _ (by omega) (by omega)]; exact b8 c b hc hb,
    fun c b hc hb hq => by rw [f2, f3] at hq; rw [up _ (by omega) (by omega), up _ (by omega) (by omega)]; exact b9 c b hc hb hq, fun c hq hc => by rw [f3] at hq; rw [up _ (by omega) (by omega)]; exact b10 c hq hc⟩
  · rw [n1] at hk
    rcases Nat.lt_succ_iff_lt_or_eq.mp hk with q | q
    · refine (b2 k q).congr (fun i j hi hj h1 => e _ (by omega) (by omega) (by omega) (by omega) (by omega)) (by rw [e _ (by omega) (by omega) (by omega) (by omega) (by omega)]; exact (b2 k q).2.1) hmono (by omega) (fun hq => ?_)
      have h3 : cntB (hvB s) (k + 1) ≤ cntB (hvB s) (nv (s 0)) := cnt_mono q
      rw [cntB, hq] at h3
      have h5 : (if true = true then 1 else 0) = 1 := rfl
      exact e _ (by omega) (by omega) (by omega) (by omega) (by omega)
    · subst q; exact hl
  · rw [n1] at hk
    rw [e _ (by omega) (by omega) (by omega) (by omega) (by omega)]; exact b3 k j (by omega) h2 hj
  · rw [f2] at hb
    obtain ⟨⟨c1, c2⟩, c3, c4, c5, c6⟩ := b5 b hb
    have eb : ∀ j, j < 7 → s' (656 + 7 * b + j) = s (656 + 7 * b + j) := fun j hj => up _ (by omega) (by omega)
    refine ⟨⟨by rw [eb 0 (by omega)]; exact c1, by rw [eb 0 (by omega), n1]; omega⟩, by rw [eb 1 (by omega)]; exact c3, by rw [eb 2 (by omega)]; exact c4, by rw [eb 5 (by omega), eb 4 (by omega)]; exact c5, ?_⟩
    rw [nHd_c (fun c hc => up _ (by omega) (by omega)), eb 1 (by omega), eb 2 (by omega)]; exact c6
  · rw [f2] at hb
    rw [up _ (by omega) (by omega)]; exact b6 b j hb h2 hj
