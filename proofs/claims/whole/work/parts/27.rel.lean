/-! the relation -/
/-! what a shop's cells are, by a vector of numbers s (the reference's row) -/
def NNN : Int32 := -1000000005
def ShA (M : Mm) (B : Nat) (s : Nat → Int32) (nM nP nT nK nC : Nat) : Prop :=
  (nM ≤ 6 ∧ nP ≤ 16 ∧ nT ≤ 14 ∧ nK ≤ 8 ∧ nC ≤ 6) ∧ (s 0 = nI nM ∧ s 1 = nI nP ∧ s 2 = nI nT ∧ s 3 = nI nK ∧ s 4 = nI nC) ∧ (mI M B 1 = nI nM ∧ mI M B 4 = nI nP ∧ mI M (B + 6) 1 = nI nT ∧ mI M (B + 10) 2 = nI nK ∧ mI M B 6 = nI nC) ∧ (mI M (B + 2) 1 = s 5 ∧ mI M B 10 = s 6 ∧ mI M B 9 = s 7 ∧ mI M B 11 = s 8 ∧ mI M (B + 10) 3 = s 9) ∧ (∃ c, c < 256 ∧ s 5 = nI c) ∧ (∃ o, o < 256 ∧ s 9 = nI o) ∧ (∃ y, y < 2 ^ 32 ∧ s 7 = nI y)
def ShM (M : Mm) (B : Nat) (s : Nat → Int32) (nM : Nat) : Prop := ∀ i, i < nM → (mI M (B + 13 + i) 0 = s (40 + 3 * i) ∧ mI M (B + 13 + i) 1 = s (40 + 3 * i + 1) ∧ mI M (B + 13 + i) 2 = s (40 + 3 * i + 2)) ∧ (∃ a, (1 ≤ a ∧ a ≤ 999) ∧ s (40 + 3 * i) = nI a) ∧ (∃ a, a ≤ 9 ∧ s (40 + 3 * i + 1) = nI a) ∧ ∃ a, a < 256 ∧ s (40 + 3 * i + 2) = nI a
def ShS (M : Mm) (B : Nat) (s : Nat → Int32) : Prop := ∀ k, k < 48 → mI M (B + 3) k = s (60 + k) ∧ ∃ a, a ≤ 99 ∧ s (60 + k) = nI a
/-- a phone: the cell r, the row from o on -/
def ShF (M : Mm) (r : Nat) (s : Nat → Int32) (o nM : Nat) : Prop :=
  (mI M r 0 = s o ∧ mI M r 1 = s (o + 1) ∧ mI M r 2 = s (o + 2) ∧ mI M r 3 = s (o + 3) ∧ mI M r 4 = s (o + 4) ∧ mI M r 5 = s (o + 5) ∧ mI M r 6 = s (o + 6) ∧ mI M r 7 = s (o + 7) ∧ mI M r 8 = s (o + 8) ∧ mI M r 10 = s (o + 10)) ∧ ((s (o + 9) = -1 ∧ mI M r 9 = NNN) ∨ ∃ a, a < 4 ∧ s (o + 9) = nI a ∧ mI M r 9 = nI a) ∧
  (∃ a, a < 6 ∧ s o = nI a) ∧ (∃ a, a < nM ∧ s (o + 1) = nI a) ∧ (∃ a, a < 1000 ∧ s (o + 2) = nI a) ∧ (∃ a, a < 256 ∧ s (o + 3) = nI a) ∧ (∃ a, a < 256 ∧ s (o + 4) = nI a) ∧ (∃ a, a < 5 ∧ s (o + 5) = nI a) ∧ (∃ a, a < 2 ∧ s (o + 6) = nI a) ∧ (∃ a, a < 2 ∧ s (o + 7) = nI a) ∧ (∃ a, a < 1000 ∧ s (o + 8) = nI a) ∧ ∃ a, a < 2 ∧ s (o + 10) = nI a ∧ (a = 1 → s (o + 5) = 3)
def ShP (M : Mm) (B : Nat) (s : Nat → Int32) (nP nM : Nat) : Prop := ∀ p, p < nP → ShF M (B + 19 + p) s (110 + 14 * p) nM
def ShG (M : Mm) (B : Nat) (s : Nat → Int32) (nK : Nat) : Prop := (∀ k, k < 8 → mI M (B + 11) k = s (10 + k) ∧ ∃ a, a ≤ 99 ∧ s (10 + k) = nI a) ∧ ∀ k, k < nK → mI M (B + 12) k = s (18 + k) ∧ ∃ a, (1 ≤ a ∧ a < 255) ∧ s (18 + k) = nI a
def ShC (M : Mm) (B : Nat) (s : Nat → Int32) (nC nP : Nat) : Prop := (∀ k, k < nC → mI M (B + 5) k = s (26 + k) ∧ ∃ a, a < nP ∧ s (26 + k) = nI a) ∧ ∀ i, i < nC → ∀ j, j < nC → s (26 + i) = s (26 + j) → i = j
/-- a step of a text: as the class keeps it, of what the reference keeps -/
def zenc (w v : Int32) : Int32 := if w = 0 then v else -v
/-- the height of the pile behind n steps (0: it fell short) of a row of what and value -/
def zhgt (f : Nat → Int32) : Nat → Option Nat
  | 0 => some 0
  | n + 1 => match zhgt f n with
    | none => none
    | some h => if f (2 * n) = 2 then (if f (2 * n + 1) = 33 then (if 1 ≤ h then some h else none) else (if 2 ≤ h then some (h - 1) else none)) else some (h + 1)
/-- how tightly a sign with two sides binds -/
def tg (c : Int32) : Nat := if c = 124 then 1 else if c = 38 then 2 else if c = 60 ∨ c = 61 ∨ c = 62 then 3 else if c = 43 ∨ c = 45 then 4 else if c = 42 ∨ c = 47 then 5 else 0
/-- a name that a key knows -/
def znm (key v : Int32) : Prop := (key = 0 ∧ (v = 107 ∨ v = 102 ∨ v = 115 ∨ v = 100)) ∨ (key = 1 ∧ (v = 107 ∨ v = 103 ∨ v = 100)) ∨ (key = 2 ∧ (v = 98 ∨ v = 115 ∨ v = 102))
/-- a step that a text of a key may have -/
def zok (key w v : Int32) : Prop := (w = 0 ∧ ∃ a, a < 10000 ∧ v = nI a) ∨ (w = 1 ∧ znm key v) ∨ (w = 2 ∧ (v = 33 ∨ tg v ≠ 0))
/-- a text's cell q, the row from o on -/
def ShX (M : Mm) (q : Nat) (s : Nat → Int32) (o : Nat) : Prop :=
  (zO M q 9 ∧ 172 < q ∧ zO M (mR M q 2) 50 ∧ 172 < mR M q 2) ∧ (mI M q 0 = s o ∧ mI M q 1 = s (o + 1) ∧ s (o + 2) = nI (mL M (mR M q 2)) ∧ mL M (mR M q 2) ≤ 96 ∧ ∃ a, a < 3 ∧ s o = nI a) ∧ (∀ j, j < mL M (mR M q 2) → mI M (mR M q 2) j = zenc (s (o + 4 + 2 * j)) (s (o + 4 + 2 * j + 1)) ∧ zok (s o) (s (o + 4 + 2 * j)) (s (o + 4 + 2 * j + 1))) ∧ zhgt (fun j => s (o + 4 + j)) (mL M (mR M q 2)) = some 1
def zlast (s : Nat → Int32) (key : Int32) : Nat → Int32
  | 0 => -1
  | t + 1 => if s (340 + 200 * t) = key then nI t else zlast s key t
def zon1 (v : Int32) : Int32 := if 0 ≤ v then v else -1000000005
def ShT (M : Mm) (B : Nat) (s : Nat → Int32) (nT : Nat) : Prop := (∀ t, t < nT → ShX M (mR M (B + 7) t) s (340 + 200 * t)) ∧ ∀ k, k < 3 → mI M (B + 8) k = zon1 (zlast s (nI k) nT)
def Sh (M : Mm) (B : Nat) (s : Nat → Int32) (nM nP nT nK nC : Nat) : Prop := ShA M B s nM nP nT nK nC ∧ ShM M B s nM ∧ ShS M B s ∧ ShP M B s nP nM ∧ ShG M B s nK ∧ ShC M B s nC nP ∧ ShT M B s nT
/-! a part holds on where its cells and its places stay */ -/
theorem ShM_cg {M M' : Mm} {B nM : Nat} {s s' : Nat → Int32} (h6 : nM ≤ 6) (h : ShM M B s nM) (hM : ∀ i, i < 6 → ∀ k, mI M' (B + 13 + i) k = mI M (B + 13 + i) k) (hs : ∀ j, 40 ≤ j → j < 58 → s' j = s j) : ShM M' B s' nM := by
  intro i hi
  have h1 := h i hi
  rw [hM i (by omega), hM i (by omega), hM i (by omega), hs _ (by omega) (by omega), hs _ (by omega) (by omega), hs _ (by omega) (by omega)]
  exact h1
theorem ShS_cg {M M' : Mm} {B : Nat} {s s' : Nat → Int32} (h : ShS M B s) (hM : ∀ k, k < 48 → mI M' (B + 3) k = mI M (B + 3) k) (hs : ∀ j, 60 ≤ j → j < 108 → s' j = s j) : ShS M' B s' := by
  intro k hk
  rw [hM k hk, hs _ (by omega) (by omega)]
  exact h k hk
theorem ShF_cg {M M' : Mm} {r o nM : Nat} {s s' : Nat → Int32} (h : ShF M r s o nM) (hM : ∀ k, mI M' r k = mI M r k) (hs : ∀ j, o ≤ j → j < o + 14 → s' j = s j) : ShF M' r s' o nM := by
  unfold ShF
  simp only [hM]
  rw [hs o (by omega) (by omega), hs (o + 1) (by omega) (by omega), hs (o + 2) (by omega) (by omega), hs (o + 3) (by omega) (by omega), hs (o + 4) (by omega) (by omega), hs (o + 5) (by omega) (by omega), hs (o + 6) (by omega) (by omega), hs (o + 7) (by omega) (by omega), hs (o + 8) (by omega) (by omega), hs (o + 9) (by omega) (by omega), hs (o + 10) (by omega) (by omega)]
  exact h
theorem ShF_up {M : Mm} {r o nM nM' : Nat} {s : Nat → Int32} (h : ShF M r s o nM) (hn : nM ≤ nM') : ShF M r s o nM' := by
  obtain ⟨h1, h2, h3, ⟨a, ha, hb⟩, h5⟩ := h
  exact ⟨h1, h2, h3, ⟨a, by omega, hb⟩, h5⟩
theorem ShP_cg {M M' : Mm} {B nP nM : Nat} {s s' : Nat → Int32} (h16 : nP ≤ 16) (h : ShP M B s nP nM) (hM : ∀ p, p < 16 → ∀ k, mI M' (B + 19 + p) k = mI M (B + 19 + p) k) (hs : ∀ j, 110 ≤ j → j < 334 → s' j = s j) : ShP M' B s' nP nM := fun p hp => ShF_cg (h p hp) (hM p (by omega)) (fun j h1 h2 => hs j (by omega) (by omega))
theorem ShG_cg {M M' : Mm} {B nK : Nat} {s s' : Nat → Int32} (h8 : nK ≤ 8) (h : ShG M B s nK) (hM : ∀ k, mI M' (B + 11) k = mI M (B + 11) k) (hM2 : ∀ k, mI M' (B + 12) k = mI M (B + 12) k) (hs : ∀ j, 10 ≤ j → j < 26 → s' j = s j) : ShG M' B s' nK := by
  refine ⟨fun k hk => ?_, fun k hk => ?_⟩
  · rw [hM k, hs _ (by omega) (by omega)]; exact h.1 k hk
  · rw [hM2 k, hs _ (by omega) (by omega)]; exact h.2 k hk
theorem ShC_cg {M M' : Mm} {B nC nP : Nat} {s s' : Nat → Int32} (h6 : nC ≤ 6) (h : ShC M B s nC nP) (hM : ∀ k, mI M' (B + 5) k = mI M (B + 5) k) (hs : ∀ j, 26 ≤ j → j < 32 → s' j = s j) : ShC M' B s' nC nP := by
  refine ⟨fun k hk => ?_, fun i hi j hj => ?_⟩
  · rw [hM k, hs _ (by omega) (by omega)]; exact h.1 k hk
  · rw [hs _ (by omega) (by omega), hs _ (by omega) (by omega)]; exact h.2 i hi j hj
theorem zhgt_cg {f g : Nat → Int32} : ∀ n, (∀ j, j < 2 * n → f j = g j) → zhgt f n = zhgt g n
  | 0, _ => rfl
  | n + 1, h => by
    unfold zhgt
    rw [zhgt_cg n (fun j hj => h j (by omega)), h (2 * n) (by omega), h (2 * n + 1) (by omega)]
theorem ShX_cg {M M' : Mm} {q o : Nat} {s s' : Nat → Int32} (h : ShX M q s o) (hZ : mZ M ≤ mZ M') (hT : ∀ r, 172 < r → r ≤ mZ M → mT M' r = mT M r ∧ mL M' r = mL M r ∧ (∀ k, mI M' r k = mI M r k) ∧ ∀ k, mR M' r k = mR M r k) (hs : ∀ j, o ≤ j → j < o + 200 → s' j = s j) : ShX M' q s' o := by
  obtain ⟨⟨h1, h2, h3, h4⟩, ⟨g1, g2, g3, g4, g5⟩, h5, h6⟩ := h
  have q1 := hT q h2 h1.2.1
  have q2 := hT _ h4 h3.2.1
  refine ⟨⟨⟨h1.1, Nat.le_trans h1.2.1 hZ, by rw [q1.1]; exact h1.2.2⟩, h2, ?_, ?_⟩, ⟨?_, ?_, ?_, ?_, ?_⟩, fun j hj => ?_, ?_⟩
  · rw [q1.2.2.2]; exact ⟨h3.1, Nat.le_trans h3.2.1 hZ, by rw [q2.1]; exact h3.2.2⟩
  · rw [q1.2.2.2]; exact h4
  · rw [q1.2.2.1, hs _ (by omega) (by omega)]; exact g1
  · rw [q1.2.2.1, hs _ (by omega) (by omega)]; exact g2
  · rw [q1.2.2.2, q2.2.1, hs _ (by omega) (by omega)]; exact g3
  · rw [q1.2.2.2, q2.2.1]; exact g4
  · rw [hs _ (by omega) (by omega)]; exact g5
  · rw [q1.2.2.2] at hj ⊢
    rw [q2.2.1] at hj
    rw [q2.2.2.1, hs (o + 4 + 2 * j) (by omega) (by omega), hs (o + 4 + 2 * j + 1) (by omega) (by omega), hs o (by omega) (by omega)]
    exact h5 j hj
  · rw [q1.2.2.2, q2.2.1, ← h6]
    exact zhgt_cg _ (fun j hj => hs _ (by omega) (by omega))
theorem zlast_cg {s s' : Nat → Int32} {key : Int32} : ∀ n, (∀ t, t < n → s' (340 + 200 * t) = s (340 + 200 * t)) → zlast s' key n = zlast s key n
  | 0, _ => rfl
  | n + 1, h => by
    unfold zlast
    rw [h n (by omega), zlast_cg n (fun t ht => h t (by omega))]
theorem ShT_cg {M M' : Mm} {B nT : Nat} {s s' : Nat → Int32} (h : ShT M B s nT) (hZ : mZ M ≤ mZ M') (hT : ∀ r, 172 < r → r ≤ mZ M → mT M' r = mT M r ∧ mL M' r = mL M r ∧ (∀ k, mI M' r k = mI M r k) ∧ ∀ k, mR M' r k = mR M r k) (hR : ∀ k, mR M' (B + 7) k = mR M (B + 7) k) (hI : ∀ k, mI M' (B + 8) k = mI M (B + 8) k) (hs : ∀ j, 340 ≤ j → j < 340 + 200 * nT → s' j = s j) : ShT M' B s' nT := by
  refine ⟨fun t ht => ?_, fun k hk => ?_⟩
  · rw [hR]; exact ShX_cg (h.1 t ht) hZ hT (fun j h1 h2 => hs j (by omega) (by omega))
  · rw [hI, zlast_cg nT (fun t ht => hs _ (by omega) (by omega))]; exact h.2 k hk
