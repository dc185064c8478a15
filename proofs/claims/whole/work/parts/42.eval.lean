/-! texts worked out: the pure side -/
theorem div_m1 (x : Int32) : x / (-1) = -x := by
  apply Int32.toInt_inj.mp
  rw [Int32.toInt_div]
  show (x.toInt.tdiv (-1)).bmod (2 ^ 32) = _
  rw [Int.tdiv_neg, Int.tdiv_one, Int32.toInt_neg]
def zjn (c x y : Int32) : Int32 := if c = 124 then (if x = 0 then (if y = 0 then 0 else 1) else 1) else if c = 38 then (if x = 0 then 0 else if y = 0 then 0 else 1) else if c = 60 then (if x < y then 1 else 0) else if c = 61 then (if x = y then 1 else 0) else if c = 62 then (if y < x then 1 else 0) else if c = 43 then x + y else if c = 45 then x - y else if c = 42 then x * y else (if y = 0 then 0 else x / y)
theorem tg_cases {c : Int32} (h : tg c ≠ 0) : c = 124 ∨ c = 38 ∨ c = 60 ∨ c = 61 ∨ c = 62 ∨ c = 43 ∨ c = 45 ∨ c = 42 ∨ c = 47 := by
  by_cases a1 : c = 124
  · simp [a1]
  by_cases a2 : c = 38
  · simp [a2]
  by_cases a3 : c = 60 ∨ c = 61 ∨ c = 62
  · rcases a3 with e | e | e <;> simp [e]
  by_cases a4 : c = 43 ∨ c = 45
  · rcases a4 with e | e <;> simp [e]
  by_cases a5 : c = 42 ∨ c = 47
  · rcases a5 with e | e <;> simp [e]
  exact absurd (by unfold tg; rw [if_neg a1, if_neg a2, if_neg a3, if_neg a4, if_neg a5]) h
set_option maxRecDepth 100000 in
set_option maxHeartbeats 4000000 in
theorem sJoin {X : List Int32} {d : Nat} {M : Mm} (c x y : Int32) (ht : tg c ≠ 0) : zca X zML (d + 1) 55 [.int c, .int x, .int y] M (some (.int (zjn c x y))) M := by
  refine iX1_join ⟨rfl, Nat.le_of_ble_eq_true rfl⟩ (zgo_u 200 (show pX1_join = uX1_join_0 from rfl) ?_)
  dsimp only [zen, zrep, zw, zLo, zSe, zi1, zi2, zl2, zr1, zsw, zpop, zkd, zLn, zc1, Nat.reduceSub, uX1_join_0, uX1_join_2, uX1_join_6, uX1_join_8, uX1_join_9, uX1_join_10, uX1_join_16, uX1_join_17, uX1_join_18, uX1_join_23, uX1_join_24, uX1_join_25, uX1_join_30, uX1_join_31, uX1_join_32, uX1_join_37, uX1_join_38, uX1_join_39, uX1_join_43, uX1_join_47, uX1_join_51, uX1_join_55, uX1_join_58, jX1_join_2, jX1_join_6, jX1_join_8, jX1_join_9, jX1_join_10, jX1_join_16, jX1_join_17, jX1_join_18, jX1_join_23, jX1_join_24, jX1_join_25, jX1_join_30, jX1_join_31, jX1_join_32, jX1_join_37, jX1_join_38, jX1_join_39, jX1_join_43, jX1_join_47, jX1_join_51, jX1_join_55, jX1_join_58]
  have hc := tg_cases ht
  rcases hc with rfl | rfl | rfl | rfl | rfl | rfl | rfl | rfl | rfl
  all_goals
    simp (decide := true) only [zjn, reduceIte, true_and, if_true, if_false]
    repeat' first
      | exact ⟨trivial, rfl, rfl⟩
      | exact ⟨rfl, rfl⟩
      | exact rfl
      | refine And.intro ?_ ?_
      | assumption
      | split
      | exact absurd ‹_ < _› (Int32.not_lt.mpr ‹_ ≤ _›)
      | (simp_all; done)
set_option maxRecDepth 100000 in
set_option maxHeartbeats 4000000 in
theorem mJoined {X : List Int32} {d : Nat} {M : Mm} (c x y : Int32) (ht : tg c ≠ 0) : zca X zML (d + 1) 73 [.int c, .int x, .int y] M (some (.int (zjn c x y))) M := by
  refine iX12_joined ⟨rfl, Nat.le_of_ble_eq_true rfl⟩ (zgo_u 200 (show pX12_joined = uX12_joined_0 from rfl) ?_)
  dsimp only [zen, zrep, zw, zLo, zSe, zi1, zi2, zl2, zr1, zsw, zpop, zkd, zLn, zc1, Nat.reduceSub, uX12_joined_0, uX12_joined_2, uX12_joined_6, uX12_joined_10, uX12_joined_14, uX12_joined_18, uX12_joined_24, uX12_joined_27, uX12_joined_28, uX12_joined_33, uX12_joined_34, uX12_joined_35, uX12_joined_40, uX12_joined_41, uX12_joined_42, uX12_joined_47, uX12_joined_48, uX12_joined_49, uX12_joined_55, uX12_joined_56, uX12_joined_57, uX12_joined_61, uX12_joined_63, uX12_joined_64, jX12_joined_2, jX12_joined_6, jX12_joined_10, jX12_joined_14, jX12_joined_18, jX12_joined_24, jX12_joined_27, jX12_joined_28, jX12_joined_33, jX12_joined_34, jX12_joined_35, jX12_joined_40, jX12_joined_41, jX12_joined_42, jX12_joined_47, jX12_joined_48, jX12_joined_49, jX12_joined_55, jX12_joined_56, jX12_joined_57, jX12_joined_61, jX12_joined_63, jX12_joined_64]
  have hc := tg_cases ht
  rcases hc with rfl | rfl | rfl | rfl | rfl | rfl | rfl | rfl | rfl
  all_goals
    simp (decide := true) only [zjn, reduceIte, true_and, if_true, if_false]
    repeat' first
      | exact ⟨trivial, rfl, rfl⟩
      | exact ⟨rfl, rfl⟩
      | exact rfl
      | refine And.intro ?_ ?_
      | assumption
      | split
      | exact absurd ‹_ < _› (Int32.not_lt.mpr ‹_ ≤ _›)
      | (simp_all; done)
    all_goals (first | exact congrArg (fun z => some (Value.int z)) (div_m1 _).symm | (rename_i q; subst q; rw [div_m1]))
set_option maxRecDepth 100000 in
set_option maxHeartbeats 4000000 in
theorem sTight {X : List Int32} {d : Nat} {M : Mm} (c : Int32) : zca X zML (d + 1) 53 [.int c] M (some (.int (nI (tg c)))) M := by
  refine iX10_tightness ⟨rfl, Nat.le_of_ble_eq_true rfl⟩ (zgo_u 200 (show pX10_tightness = uX10_tightness_0 from rfl) ?_)
  dsimp only [zen, zrep, zw, zLo, zSe, zi1, zi2, zl2, zr1, zsw, zpop, zkd, zLn, zc1, Nat.reduceSub, uX10_tightness_0, uX10_tightness_2, uX10_tightness_4, uX10_tightness_6, uX10_tightness_8, uX10_tightness_10, uX10_tightness_12, jX10_tightness_2, jX10_tightness_4, jX10_tightness_6, jX10_tightness_8, jX10_tightness_10, jX10_tightness_12]
  by_cases h0 : c = 124
  · subst h0
    simp (decide := true) only [reduceIte, if_true, if_false]
    try exact ⟨trivial, rfl, rfl⟩
  · by_cases h1 : c = 38
    · subst h1
      simp (decide := true) only [reduceIte, if_true, if_false]
      try exact ⟨trivial, rfl, rfl⟩
    · by_cases h2 : c = 60
      · subst h2
        simp (decide := true) only [reduceIte, if_true, if_false]
        try exact ⟨trivial, rfl, rfl⟩
      · by_cases h3 : c = 61
        · subst h3
          simp (decide := true) only [reduceIte, if_true, if_false]
          try exact ⟨trivial, rfl, rfl⟩
        · by_cases h4 : c = 62
          · subst h4
            simp (decide := true) only [reduceIte, if_true, if_false]
            try exact ⟨trivial, rfl, rfl⟩
          · by_cases h5 : c = 43
            · subst h5
              simp (decide := true) only [reduceIte, if_true, if_false]
              try exact ⟨trivial, rfl, rfl⟩
            · by_cases h6 : c = 45
              · subst h6
                simp (decide := true) only [reduceIte, if_true, if_false]
                try exact ⟨trivial, rfl, rfl⟩
              · by_cases h7 : c = 42
                · subst h7
                  simp (decide := true) only [reduceIte, if_true, if_false]
                  try exact ⟨trivial, rfl, rfl⟩
                · by_cases h8 : c = 47
                  · subst h8
                    simp (decide := true) only [reduceIte, if_true, if_false]
                    try exact ⟨trivial, rfl, rfl⟩
                  · simp only [h0, h1, h2, h3, h4, h5, h6, h7, h8, if_false]
                    have e : tg c = 0 := by
                      unfold tg
                      simp only [h0, h1, h2, h3, h4, h5, h6, h7, h8, if_false, or_self]
                    rw [e]
                    first | exact ⟨trivial, rfl, trivial⟩ | exact ⟨trivial, rfl, rfl⟩ | exact ⟨rfl, rfl⟩ | exact rfl
theorem sBinary {X : List Int32} {d : Nat} {M : Mm} (c : Int32) : zca X zML (d + 2) 54 [.int c] M (some (.int (if tg c = 0 then 0 else 1))) M := by
  refine iX1_isBinary ⟨rfl, Nat.le_of_ble_eq_true rfl⟩ (zgo_u 200 (show pX1_isBinary = uX1_isBinary_0 from rfl) ?_)
  dsimp only [zen, zrep, zw, zLo, zSe, zi1, zi2, zl2, zr1, zsw, zpop, zkd, zLn, zc1, Nat.reduceSub, uX1_isBinary_0, uX1_isBinary_5, uX1_isBinary_6, jX1_isBinary_5, jX1_isBinary_6]
  refine ⟨⟨Nat.le_of_ble_eq_true rfl, Nat.le_of_ble_eq_true rfl, Nat.le_of_ble_eq_true rfl⟩, _, _, sTight c, ?_⟩
  have h5 : tg c ≤ 5 := by unfold tg; repeat' first | decide | split
  by_cases q : tg c = 0
  · rw [q, if_pos (by decide), if_pos rfl]
    exact ⟨Or.inl rfl, rfl, rfl⟩
  · have q2 : ¬ nI (tg c) ≤ 0 := nI_nle (by omega) (by omega)
    rw [if_neg q2, if_neg q]
    exact ⟨Or.inr rfl, rfl, rfl⟩
/-- a pile as a row -/
def stk (f : Nat → Int32) : List Int32 → Prop
  | [] => True
  | a :: t => f t.length = a ∧ stk f t
theorem stk_upd {f : Nat → Int32} {k : Nat} {v : Int32} : ∀ {t : List Int32}, t.length ≤ k → stk f t → stk (upd f k v) t
  | [], _, _ => trivial
  | a :: t, hk, h => by
    have hk : t.length + 1 ≤ k := hk
    exact ⟨(updn (by omega)).trans h.1, stk_upd (by omega) h.2⟩
theorem stk_push {f : Nat → Int32} {v : Int32} {t : List Int32} (h : stk f t) : stk (upd f t.length v) (v :: t) := ⟨upds, stk_upd (Nat.le_refl _) h⟩
def evT (nv : Int32 → Int32) (w v : Int32) (st : List Int32) : List Int32 := if w = 2 then (if v = 33 then (match st with
  | a :: t => (if a = 0 then 1 else 0) :: t
  | [] => []) else (match st with
  | b :: a :: t => zjn v a b :: t
  | _ => [])) else (if w = 0 then v else nv v) :: st
def evS (nv : Int32 → Int32) (f : Nat → Int32) : Nat → List Int32
  | 0 => []
  | n + 1 => evT nv (f (2 * n)) (f (2 * n + 1)) (evS nv f n)
theorem zhgt_p {f : Nat → Int32} {n h : Nat} (q : zhgt f (n + 1) = some h) : ∃ g, zhgt f n = some g ∧ (if f (2 * n) = 2 then (if f (2 * n + 1) = 33 then 1 ≤ g ∧ h = g else 2 ≤ g ∧ h = g - 1) else h = g + 1) := by
  unfold zhgt at q
  cases e : zhgt f n with
  | none => rw [e] at q; cases q
  | some g =>
    rw [e] at q
    refine ⟨g, rfl, ?_⟩
    dsimp only at q
    by_cases c1 : f (2 * n) = 2
    · rw [if_pos c1] at q ⊢
      by_cases c2 : f (2 * n + 1) = 33
      · rw [if_pos c2] at q ⊢
        by_cases c3 : 1 ≤ g
        · rw [if_pos c3] at q; cases q; exact ⟨c3, rfl⟩
        · rw [if_neg c3] at q; cases q
      · rw [if_neg c2] at q ⊢
        by_cases c3 : 2 ≤ g
        · rw [if_pos c3] at q; cases q; exact ⟨c3, rfl⟩
        · rw [if_neg c3] at q; cases q
    · rw [if_neg c1] at q ⊢
      cases q
      rfl
theorem zhgt_le {f : Nat → Int32} : ∀ {n h : Nat}, zhgt f n = some h → h ≤ n
  | 0, h, q => by cases q; exact Nat.le_refl _
  | n + 1, h, q => by
    obtain ⟨g, hg, hh⟩ := zhgt_p q
    have := zhgt_le hg
    split at hh
    · split at hh <;> omega
    · omega
theorem zhgt_d {f : Nat → Int32} : ∀ {n k h : Nat}, zhgt f (k + n) = some h → ∃ g, zhgt f k = some g
  | 0, k, h, q => ⟨h, q⟩
  | n + 1, k, h, q => by
    obtain ⟨g, hg, -⟩ := zhgt_p (n := k + n) q
    exact zhgt_d hg
theorem evS_len {nv : Int32 → Int32} {f : Nat → Int32} : ∀ {n h : Nat}, zhgt f n = some h → (evS nv f n).length = h
  | 0, h, q => by cases q; rfl
  | n + 1, h, q => by
    obtain ⟨g, hg, hh⟩ := zhgt_p q
    have hl := evS_len (nv := nv) hg
    unfold evS evT
    generalize evS nv f n = st at hl ⊢
    split
    · rename_i c1
      rw [if_pos c1] at hh
      split
      · rename_i c2
        rw [if_pos c2] at hh
        cases st with
        | nil => simp at hl; omega
        | cons a t => simp at hl ⊢; omega
      · rename_i c2
        rw [if_neg c2] at hh
        match st, hl with
        | [], hl => simp at hl; omega
        | [a], hl => simp at hl; omega
        | b :: a :: t, hl => simp at hl ⊢; omega
    · rename_i c1
      rw [if_neg c1] at hh
      simp [hl]
      omega
/-- what is on the pile before a step -/
theorem ev_at {nv : Int32 → Int32} {f : Nat → Int32} {k N h : Nat} (q : zhgt f N = some h) (hk : k < N) : (evS nv f k).length ≤ k ∧ (f (2 * k) = 2 → f (2 * k + 1) = 33 → ∃ a t, evS nv f k = a :: t) ∧ (f (2 * k) = 2 → f (2 * k + 1) ≠ 33 → ∃ b a t, evS nv f k = b :: a :: t) := by
  obtain ⟨n, rfl⟩ : ∃ n, N = k + 1 + n := ⟨N - (k + 1), by omega⟩
  obtain ⟨g1, hg1⟩ := zhgt_d q
  obtain ⟨g, hg, hh⟩ := zhgt_p hg1
  have hl := evS_len (nv := nv) hg
  have hle := zhgt_le hg
  refine ⟨by omega, fun c1 c2 => ?_, fun c1 c2 => ?_⟩
  · rw [if_pos c1, if_pos c2] at hh
    match e : evS nv f k with
    | [] => rw [e] at hl; simp at hl; omega
    | a :: t => exact ⟨a, t, rfl⟩
  · rw [if_pos c1, if_neg c2] at hh
    match e : evS nv f k with
    | [] => rw [e] at hl; simp at hl; omega
    | [a] => rw [e] at hl; simp at hl; omega
    | b :: a :: t => exact ⟨b, a, t, rfl⟩
