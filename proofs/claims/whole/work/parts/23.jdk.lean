/-! THE LIBRARY'S OWN METHODS -/
theorem sMax {X : List Int32} {d : Nat} {M : Mm} (x y : Int32) : zca X zML (d + 1) 19 [.int x, .int y] M (some (.int (if x < y then y else x))) M := by
  refine iJ9_max_7cf53 ⟨rfl, by decide⟩ (zgo_in 50 ?_)
  dsimp only [zen, zrep, zw, zLo, zSe, zi1, zi2, zl2, zr1, zj, zsw, zpop, zkd, zLn, zc1, pJ9_max_7cf53]
  trace_state
  split <;> exact ⟨trivial, rfl, rfl⟩
theorem sMin {X : List Int32} {d : Nat} {M : Mm} (x y : Int32) : zca X zML (d + 1) 94 [.int x, .int y] M (some (.int (if y < x then y else x))) M := by
  refine iJ9_min_7cf53 ⟨rfl, by decide⟩ (zgo_in 50 ?_)
  dsimp only [zen, zrep, zw, zLo, zSe, zi1, zi2, zl2, zr1, zj, zsw, zpop, zkd, zLn, zc1, pJ9_min_7cf53]
  trace_state
  split <;> exact ⟨trivial, rfl, rfl⟩
theorem sAsked {X : List Int32} {d : Nat} {M : Mm} {r : Nat} (hO : zO M r 2) (day : Int32) : zca X zML (d + 2) 20 [.ref r, .int day] M (some (.int (if 1 < mI M r 0 - mI M r 1 * day then mI M r 0 - mI M r 1 * day else 1))) M := by
  refine iX2_askedOn ⟨rfl, by decide⟩ (zgo_in 50 ?_)
  dsimp only [zen, zrep, zw, zLo, zSe, zi1, zi2, zl2, zr1, zj, zsw, zpop, zkd, zLn, zc1, pX2_askedOn]
  trace_state
  sorry
theorem sCell {X : List Int32} {d : Nat} {M : Mm} {r : Nat} (hO : zO M r 8) (m s : Int32) : zca X zML (d + 1) 29 [.ref r, .int m, .int s] M (some (.int (if mI M r 1 >>> (s &&& 31) &&& 1 = 1 then s else m * 8 + s))) M := by
  refine iX8_cell ⟨rfl, by decide⟩ (zgo_in 50 ?_)
  dsimp only [zen, zrep, zw, zLo, zSe, zi1, zi2, zl2, zr1, zj, zsw, zpop, zkd, zLn, zc1, pX8_cell]
  trace_state
  sorry
