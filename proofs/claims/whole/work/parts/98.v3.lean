/-! the way down: its state -/
def rTk (M : Mm) (ke : Int32) (t : Nat × Int32) : Prop := (t.1 = 0 ∧ mI M 150 22 = 2 ∧ mI M 150 23 = t.2) ∨ (t.1 = 1 ∧ mI M 150 22 = 1 ∧ mI M 150 24 = t.2 ∧ t.2 ≠ 0 ∧ znm ke t.2) ∨ (t.1 = 2 ∧ mI M 150 22 = 3 ∧ mI M 150 24 = t.2) ∨ (t.1 = 3 ∧ (mI M 150 22 = 4 ∨ (mI M 150 22 = 1 ∧ (mI M 150 24 = 0 ∨ ¬ znm ke (mI M 150 24)))))
def rCu (M : Mm) (n : Nat) (g : Nat → Nat) (ke : Int32) : Ts → Prop
  | [] => mI M 150 22 = 0 ∧ mI M 150 20 = nI n
  | (t, b) :: r => rTk M ke t ∧ mI M 150 20 = nI b ∧ ∃ p, 0 < p ∧ p ≤ n ∧ mI M 150 21 = nI p ∧ (t.1 ≠ 3 → r = tks (nmB ke) g n 97 p (decide (t.1 ≠ 2)))
theorem rTk_cg {M N : Mm} {ke : Int32} {t : Nat × Int32} (h : rTk M ke t) (f : ∀ j, 20 ≤ j → j ≤ 24 → mI N 150 j = mI M 150 j) : rTk N ke t := by
  unfold rTk at h ⊢
  rw [f 22 (by decide) (by decide), f 23 (by decide) (by decide), f 24 (by decide) (by decide)]
  exact h
theorem rCu_cg {M N : Mm} {n : Nat} {g : Nat → Nat} {ke : Int32} {ts : Ts} (h : rCu M n g ke ts) (f : ∀ j, 20 ≤ j → j ≤ 24 → mI N 150 j = mI M 150 j) : rCu N n g ke ts := by
  cases ts with
  | nil => exact ⟨(f 22 (by decide) (by decide)).trans h.1, (f 20 (by decide) (by decide)).trans h.2⟩
  | cons t r =>
    obtain ⟨t, b⟩ := t
    obtain ⟨h1, h2, p, p0, pn, h3, h4⟩ := h
    exact ⟨rTk_cg h1 f, (f 20 (by decide) (by decide)).trans h2, p, p0, pn, (f 21 (by decide) (by decide)).trans h3, h4⟩
theorem rCu_pos {M : Mm} {n : Nat} {g : Nat → Nat} {ke : Int32} {ts : Ts} (h : rCu M n g ke ts) : mI M 150 20 = nI (pos n ts) := by
  cases ts with
  | nil => exact h.2
  | cons t r =>
    obtain ⟨t, b⟩ := t
    exact h.2.1
theorem rCu_of {M : Mm} {n p b : Nat} {g : Nat → Nat} {ke : Int32} {w : Bool} (hn : n ≤ 96) (hp : p ≤ n) (gb : ∀ i, i < n → g i < 256) (hb : b = fw (isSp g) n p) (h20 : mI M 150 20 = nI b) (hE : n ≤ b → mI M 150 22 = 0) (hT : b < n → mI M 150 21 = nI (tkE g n b) ∧ (tkS g b = 1 → mI M 150 22 = (if (w && b == p) = true then 4 else 1) ∧ mI M 150 24 = (if tkE g n b = b + 1 then nI (g b) else 0)) ∧ (tkS g b = 2 → mI M 150 22 = (if (w && b == p) = false ∧ tkE g n b ≤ b + 4 then 2 else 4) ∧ (tkE g n b ≤ b + 4 → mI M 150 23 = nI (dgv g b (tkE g n b - b)))) ∧ (tkS g b = 3 → mI M 150 22 = 3 ∧ mI M 150 24 = nI (g b))) : rCu M n g ke (tks (nmB ke) g n 97 p w) := by
  have hbl := fw_le (P := isSp g) (n := n) _ p rfl hp
  rw [TS_u hn, ← hb]
  rw [← hb] at hbl
  obtain ⟨t, ht⟩ : ∃ t, t = (w && b == p) := ⟨_, rfl⟩
  rw [← ht] at hT ⊢
  by_cases hbn : b < n
  · rw [if_pos hbn]
    have he := tkE_lt (g := g) hbn
    obtain ⟨e21, h1, h2, h3⟩ := hT hbn
    have s3 : tkS g b = 1 ∨ tkS g b = 2 ∨ tkS g b = 3 := by rw [shp_e]; exact shp_c _
    refine ⟨?_, h20, tkE g n b, by omega, he.2, e21, fun q => ?_⟩
    · rcases s3 with s3 | s3 | s3
      · obtain ⟨a1, a2⟩ := h1 s3
        rw [tkK_1 s3]
        by_cases c : t = false ∧ tkE g n b = b + 1 ∧ nmB ke (nI (g b)) = true
        · rw [if_pos c]
          rw [if_neg (by rw [c.1]; decide)] at a1
          rw [if_pos c.2.1] at a2
          have gl := tkE_lt2 hbn s3 b (Nat.le_refl _) he.1
          exact Or.inr (Or.inl ⟨rfl, a1, a2, fun q => by
            have q : nI (g b) = nI 0 := q
            have := (nI_eq (by omega) (by decide)).mp q
            omega, nmB_t.mp c.2.2⟩)
        · rw [if_neg c]
          refine Or.inr (Or.inr (Or.inr ⟨rfl, ?_⟩))
          cases t with
          | true => exact Or.inl a1
          | false =>
            refine Or.inr ⟨a1, ?_⟩
            by_cases c2 : tkE g n b = b + 1
            · rw [if_pos c2] at a2
              refine Or.inr ?_
              rw [a2]
              exact fun q => c ⟨rfl, c2, nmB_t.mpr q⟩
            · rw [if_neg c2] at a2
              exact Or.inl a2
      · obtain ⟨a1, a2⟩ := h2 s3
        rw [tkK_2 s3]
        by_cases c : t = false ∧ tkE g n b ≤ b + 4
        · rw [if_pos c]
          rw [if_pos c] at a1
          exact Or.inl ⟨rfl, a1, a2 c.2⟩
        · rw [if_neg c]
          rw [if_neg c] at a1
          exact Or.inr (Or.inr (Or.inr ⟨rfl, Or.inl a1⟩))
      · rw [tkK_3 s3]
        exact Or.inr (Or.inr (Or.inl ⟨rfl, (h3 s3).1, (h3 s3).2⟩))
    · rcases s3 with s3 | s3 | s3
      · rw [s3]
        rw [tkK_1 s3] at q ⊢
        split at q <;> rename_i c
        · rw [if_pos c]; rfl
        · exact absurd rfl q
      · rw [s3]
        rw [tkK_2 s3] at q ⊢
        split at q <;> rename_i c
        · rw [if_pos c]; rfl
        · exact absurd rfl q
      · rw [s3, tkK_3 s3]
        rfl
  · rw [if_neg hbn]
    exact ⟨hE (by omega), by rw [h20, show b = n by omega]⟩
def tEnv (M : Mm) (n : Nat) (g : Nat → Nat) : Prop := Sk M ∧ tpB M 166 n g ∧ mI M 150 19 = nI n
theorem mNx {X : List Int32} {d : Nat} {M : Mm} {n b : Nat} {g : Nat → Nat} {ke : Int32} {t : Nat × Int32} {r : Ts} (hn : n ≤ 96) (h : tEnv M n g) (hc : rCu M n g ke ((t, b) :: r)) (h3 : t.1 ≠ 3) : ∃ M', (frN M M' ∧ rCu M' n g ke r) ∧ zca X zML (d + 3) 175 [.ref 150] M none M' := by
  obtain ⟨ht, h20, p, p0, pn, e21, hr⟩ := hc
  obtain ⟨h, htp, e19⟩ := h
  have k0 : ∃ k0, mI M 150 22 = nI k0 ∧ k0 ≤ 4 ∧ (decide (0 < p ∧ (k0 = 1 ∨ k0 = 2))) = decide (t.1 ≠ 2) := by
    rcases ht with ⟨a, b, -⟩ | ⟨a, b, -⟩ | ⟨a, b, -⟩ | ⟨a, -⟩
    · exact ⟨2, b, by decide, by rw [a]; simp [p0]⟩
    · exact ⟨1, b, by decide, by rw [a]; simp [p0]⟩
    · exact ⟨3, b, by decide, by rw [a]; simp⟩
    · exact absurd a h3
  obtain ⟨k0, e22, hk4, hw⟩ := k0
  obtain ⟨M', ⟨f, q20, qE, qT⟩, hz⟩ := mNextR (X := X) (d := d) h hn htp e19 pn e21 e22 hk4 rfl rfl
  rw [hw] at qT
  refine ⟨M', ⟨f, ?_⟩, hz⟩
  rw [hr h3]
  exact rCu_of hn pn (fun i hi => (htp i hi).2) rfl q20 (fun q => (qE q).1) qT
def rSt (M : Mm) (la : Nat) (S : Ss) : Prop := (mI M 150 27 = nI S.length ∧ mI M 150 28 = nI la ∧ mI M 150 29 = nI (lfs S)) ∧ ∀ j w v, S[j]? = some (w, v) → mI M 151 (la + 2 * j) = w ∧ mI M 151 (la + 2 * j + 1) = v
def rS (M : Mm) (n : Nat) (g : Nat → Nat) (ke : Int32) (la D T : Nat) (ts : Ts) (S : Ss) : Prop := rCu M n g ke ts ∧ (mI M 150 25 = nI D ∧ mI M 150 26 = nI T) ∧ rSt M la S
def frR (la : Nat) (M M' : Mm) : Prop := M'.2 = M.2 ∧ (∀ a, a ≠ 150 → a ≠ 151 → ∀ j, mI M' a j = mI M a j) ∧ (∀ j, (j < 20 ∨ 29 < j) → mI M' 150 j = mI M 150 j) ∧ ∀ j, (j < la ∨ la + 192 ≤ j) → mI M' 151 j = mI M 151 j
theorem frR_rf (la : Nat) (M : Mm) : frR la M M := ⟨rfl, fun _ _ _ _ => rfl, fun _ _ => rfl, fun _ _ => rfl⟩
theorem frR_tr {la : Nat} {M N K : Mm} (h1 : frR la M N) (h2 : frR la N K) : frR la M K := ⟨h2.1.trans h1.1, fun a q1 q2 j => (h2.2.1 a q1 q2 j).trans (h1.2.1 a q1 q2 j), fun j hj => (h2.2.2.1 j hj).trans (h1.2.2.1 j hj), fun j hj => (h2.2.2.2 j hj).trans (h1.2.2.2 j hj)⟩
theorem frR_n {la : Nat} {M N K : Mm} (h1 : frR la M N) (h2 : frN N K) : frR la M K := ⟨h2.1.trans h1.1, fun a q1 q2 j => (h2.2.1 a q1 j).trans (h1.2.1 a q1 q2 j), fun j hj => (h2.2.2 j (by omega)).trans (h1.2.2.1 j hj), fun j hj => (h2.2.1 151 (by decide) j).trans (h1.2.2.2 j hj)⟩
theorem frR_w {la : Nat} {M N : Mm} {k : Nat} {v : Int32} (hk : 20 ≤ k ∧ k ≤ 29) (h : frR la M N) : frR la M (wI N 150 k v) := ⟨h.1, fun a q1 q2 j => by rw [mI_wIr q1]; exact h.2.1 a q1 q2 j, fun j hj => by rw [mI_wIj (by omega)]; exact h.2.2.1 j hj, fun j hj => by rw [mI_wIr (by decide)]; exact h.2.2.2 j hj⟩
theorem frR_1 {la : Nat} {M N : Mm} {k : Nat} {v : Int32} (hk : la ≤ k ∧ k < la + 192) (h : frR la M N) : frR la M (wI N 151 k v) := ⟨h.1, fun a q1 q2 j => by rw [mI_wIr q2]; exact h.2.1 a q1 q2 j, fun j hj => by rw [mI_wIr (by decide)]; exact h.2.2.1 j hj, fun j hj => by rw [mI_wIj (by omega)]; exact h.2.2.2 j hj⟩
theorem tEnv_f {la n : Nat} {g : Nat → Nat} {M N : Mm} (h : tEnv M n g) (f : frR la M N) : tEnv N n g := ⟨Sk_of f.1 h.1, tpB_cg h.2.1 (fun j => f.2.1 166 (by decide) (by decide) j), (f.2.2.1 19 (by decide)).trans h.2.2⟩
theorem rSt_cg {M N : Mm} {la : Nat} {S : Ss} (h : rSt M la S) (f1 : ∀ j, 27 ≤ j → j ≤ 29 → mI N 150 j = mI M 150 j) (f2 : ∀ j, mI N 151 j = mI M 151 j) : rSt N la S := by
  obtain ⟨⟨a1, a2, a3⟩, h2⟩ := h
  refine ⟨⟨(f1 27 (by decide) (by decide)).trans a1, (f1 28 (by decide) (by decide)).trans a2, (f1 29 (by decide) (by decide)).trans a3⟩, fun j w v e => ?_⟩
  rw [f2, f2]
  exact h2 j w v e
def stM (M : Mm) (la k : Nat) (w v : Int32) : Mm := wI (wI (wI M 151 (la + 2 * k) w) 151 (la + 2 * k + 1) v) 150 27 (nI (k + 1))
theorem stM_e (M : Mm) (la k : Nat) (w v : Int32) : stM M la k w v = wI (wI (wI M 151 (la + 2 * k) w) 151 (la + 2 * k + 1) v) 150 27 (nI (k + 1)) := rfl
theorem stM_f {M N : Mm} {la k : Nat} {w v : Int32} (hk : k < 96) (h : frR la M N) : frR la M (stM N la k w v) := frR_w (by decide) (frR_1 (by omega) (frR_1 (by omega) h))
theorem stM_5 {M : Mm} {la k : Nat} {w v : Int32} {j : Nat} (hj : j ≠ 27) : mI (stM M la k w v) 150 j = mI M 150 j := by
  unfold stM
  rw [mI_wIj hj, mI_wIr (by decide), mI_wIr (by decide)]
theorem stM_s {M : Mm} {la : Nat} {S : Ss} (h2 : ∀ j w v, S[j]? = some (w, v) → mI M 151 (la + 2 * j) = w ∧ mI M 151 (la + 2 * j + 1) = v) (w v : Int32) : ∀ j w' v', (S ++ [(w, v)])[j]? = some (w', v') → mI (stM M la S.length w v) 151 (la + 2 * j) = w' ∧ mI (stM M la S.length w v) 151 (la + 2 * j + 1) = v' := fun j w' v' e => by
  unfold stM
  rcases sn_c e with ⟨hj, e2⟩ | ⟨ej, e2⟩
  · obtain ⟨q1, q2⟩ := h2 j w' v' e2
    refine ⟨?_, ?_⟩
    · rw [mI_wIr (by decide), mI_wIj (by omega), mI_wIj (by omega)]
      exact q1
    · rw [mI_wIr (by decide), mI_wIj (by omega), mI_wIj (by omega)]
      exact q2
  · cases e2
    rw [ej]
    refine ⟨?_, ?_⟩
    · rw [mI_wIr (by decide), mI_wIj (by omega), mI_wIs]
    · rw [mI_wIr (by decide), mI_wIs]
theorem rSt_2 {M : Mm} {la : Nat} {S : Ss} (h : rSt M la S) (v : Int32) : rSt (stM M la S.length 2 v) la (S ++ [(2, v)]) := by
  obtain ⟨⟨a1, a2, a3⟩, h2⟩ := h
  refine ⟨⟨?_, by rw [stM_5 (by decide)]; exact a2, ?_⟩, stM_s h2 2 v⟩
  · unfold stM
    rw [mI_wIs, List.length_append]
    rfl
  · rw [stM_5 (by decide), a3, lfs_app]
    rfl
theorem rSt_l {M : Mm} {la : Nat} {S : Ss} (h : rSt M la S) {w : Int32} (hw : w ≠ 2) (v : Int32) : rSt (wI (stM M la S.length w v) 150 29 (nI (lfs S + 1))) la (S ++ [(w, v)]) := by
  obtain ⟨⟨a1, a2, a3⟩, h2⟩ := h
  refine ⟨⟨?_, by rw [mI_wIj (by decide), stM_5 (by decide)]; exact a2, ?_⟩, fun j w' v' e => ?_⟩
  · rw [mI_wIj (by decide)]
    unfold stM
    rw [mI_wIs, List.length_append]
    rfl
  · rw [mI_wIs, lfs_app]
    simp only [lfs, if_neg hw, Nat.add_zero]
  · rw [mI_wIr (by decide), mI_wIr (by decide)]
    exact stM_s h2 w v j w' v' e
theorem rS_2 {M : Mm} {n : Nat} {g : Nat → Nat} {ke : Int32} {la D T : Nat} {ts : Ts} {S : Ss} (h : rS M n g ke la D T ts S) (v : Int32) : rS (stM M la S.length 2 v) n g ke la D T ts (S ++ [(2, v)]) := ⟨rCu_cg h.1 (fun j h1 h2 => stM_5 (by omega)), ⟨by rw [stM_5 (by decide)]; exact h.2.1.1, by rw [stM_5 (by decide)]; exact h.2.1.2⟩, rSt_2 h.2.2 v⟩
theorem rS_n {M N : Mm} {n : Nat} {g : Nat → Nat} {ke : Int32} {la D T : Nat} {ts r : Ts} {S : Ss} (h : rS M n g ke la D T ts S) (f : frN M N) (hc : rCu N n g ke r) : rS N n g ke la D T r S := ⟨hc, ⟨(f.2.2 25 (by decide)).trans h.2.1.1, (f.2.2 26 (by decide)).trans h.2.1.2⟩, rSt_cg h.2.2 (fun j h1 h2 => f.2.2 j (by omega)) (fun j => f.2.1 151 (by decide) j)⟩
theorem rS_D {M : Mm} {n : Nat} {g : Nat → Nat} {ke : Int32} {la D T : Nat} {ts : Ts} {S : Ss} (h : rS M n g ke la D T ts S) (v : Nat) : rS (wI M 150 25 (nI v)) n g ke la v T ts S := ⟨rCu_cg h.1 (fun j h1 h2 => mI_wIj (by omega)), ⟨mI_wIs .., by rw [mI_wIj (by decide)]; exact h.2.1.2⟩, rSt_cg h.2.2 (fun j h1 h2 => mI_wIj (by omega)) (fun j => mI_wIr (by decide))⟩
theorem rS_T {M : Mm} {n : Nat} {g : Nat → Nat} {ke : Int32} {la D T : Nat} {ts : Ts} {S : Ss} (h : rS M n g ke la D T ts S) (v : Nat) : rS (wI M 150 26 (nI v)) n g ke la D v ts S := ⟨rCu_cg h.1 (fun j h1 h2 => mI_wIj (by omega)), ⟨by rw [mI_wIj (by decide)]; exact h.2.1.1, mI_wIs ..⟩, rSt_cg h.2.2 (fun j h1 h2 => mI_wIj (by omega)) (fun j => mI_wIr (by decide))⟩
theorem rS_l {M : Mm} {n : Nat} {g : Nat → Nat} {ke : Int32} {la D T : Nat} {ts : Ts} {S : Ss} (h : rS M n g ke la D T ts S) {w : Int32} (hw : w ≠ 2) (v : Int32) : rS (wI (stM M la S.length w v) 150 29 (nI (lfs S + 1))) n g ke la D T ts (S ++ [(w, v)]) := ⟨rCu_cg h.1 (fun j h1 h2 => by rw [mI_wIj (by omega), stM_5 (by omega)]), ⟨by rw [mI_wIj (by decide), stM_5 (by decide)]; exact h.2.1.1, by rw [mI_wIj (by decide), stM_5 (by decide)]; exact h.2.1.2⟩, rSt_l h.2.2 hw v⟩
def rRs (M : Mm) (n : Nat) (g : Nat → Nat) (ke : Int32) (la D T : Nat) (x : Int32) : Re → Prop
  | (true, ts, S) => x = 1 ∧ rS M n g ke la D T ts S
  | (false, e, _) => x = 0 ∧ mI M 150 20 = nI (pos n e)
def dpt (D T l : Nat) : Nat := 6 * (8 - D) + (8 - T) + (7 - l)
def RHl (X : List Int32) (n : Nat) (g : Nat → Nat) (ke : Int32) (la F l y : Nat) : Prop := ∀ D T ts S res M d, D ≤ 8 → T ≤ 8 → rd F false D T l ts S = some res → S.length + ts.length ≤ 96 → tEnv M n g → rS M n g ke la D T ts S → 4 + dpt D T l ≤ d → ∃ x M', (frR la M M' ∧ rRs M' n g ke la D T x res) ∧ zca X zML d y [.ref 150, .int ke] M (some (.int x)) M'
def RLl (X : List Int32) (n : Nat) (g : Nat → Nat) (ke : Int32) (la F l : Nat) (pc tc : List zEn) (lo : Value → List Value) : Prop := ∀ D T ts S res M d Q, D ≤ 8 → T ≤ 8 → rd F true D T l ts S = some res → S.length + ts.length ≤ 96 → tEnv M n g → rS M n g ke la D T ts S → 3 + dpt D T l ≤ d → (∀ x M', frR la M M' → rRs M' n g ke la D T x res → Q (some (.int x)) M') → ∀ c, zgo X (zca X zML d) pc 0 0 tc (lo c) [] 0 0 M Q
theorem sg_t {X : List Int32} {d : Nat} {M : Mm} {n b : Nat} {g : Nat → Nat} {ke c : Int32} {r : Ts} (h : Sk M) (hc : rCu M n g ke (((2, c), b) :: r)) : zca X zML (d + 1) 181 [.ref 150, .int c] M (some (.int 1)) M ∧ mI M 150 24 = c := by
  have hz := mSig (X := X) (d := d) h c
  rcases hc.1 with ⟨q, -⟩ | ⟨q, -⟩ | ⟨-, q1, q2⟩ | ⟨q, -⟩
  · cases q
  · cases q
  · rw [if_pos ⟨q1, q2⟩] at hz
    exact ⟨hz, q2⟩
  · cases q
theorem sg_f {X : List Int32} {d : Nat} {M : Mm} {n : Nat} {g : Nat → Nat} {ke c : Int32} {ts : Ts} (h : Sk M) (hc : rCu M n g ke ts) (hn : ∀ b r, ts ≠ ((2, c), b) :: r) : zca X zML (d + 1) 181 [.ref 150, .int c] M (some (.int 0)) M := by
  have hz := mSig (X := X) (d := d) h c
  rw [if_neg] at hz
  · exact hz
  · intro q
    cases ts with
    | nil =>
      have := hc.1
      rw [this] at q
      exact absurd q.1 (by decide)
    | cons t r =>
      obtain ⟨⟨k, v⟩, b⟩ := t
      rcases hc.1 with ⟨-, a, -⟩ | ⟨-, a, -⟩ | ⟨a, -, a2⟩ | ⟨-, a⟩
      · rw [a] at q; exact absurd q.1 (by decide)
      · rw [a] at q; exact absurd q.1 (by decide)
      · dsimp only at a a2
        subst a
        rw [q.2] at a2
        subst a2
        exact hn b r rfl
      · rcases a with a | ⟨a, -⟩
        · rw [a] at q; exact absurd q.1 (by decide)
        · rw [a] at q; exact absurd q.1 (by decide)
theorem tgi_1 {v : Int32} (h : tg v = 1) : v = 124 := by
  unfold tg at h
  by_cases c : v = 124
  · exact c
  · rw [if_neg c] at h
    repeat' split at h
    all_goals exact absurd h (by decide)
theorem tgi_2 {v : Int32} (h : tg v = 2) : v = 38 := by
  unfold tg at h
  by_cases c : v = 38
  · exact c
  · rw [if_neg c] at h
    repeat' split at h
    all_goals exact absurd h (by decide)
theorem tgi_3 {v : Int32} (h : tg v = 3) : v = 60 ∨ v = 61 ∨ v = 62 := by
  unfold tg at h
  by_cases c : v = 60 ∨ v = 61 ∨ v = 62
  · exact c
  · rw [if_neg c] at h
    repeat' split at h
    all_goals exact absurd h (by decide)
theorem tgi_4 {v : Int32} (h : tg v = 4) : v = 43 ∨ v = 45 := by
  unfold tg at h
  by_cases c : v = 43 ∨ v = 45
  · exact c
  · rw [if_neg c] at h
    repeat' split at h
    all_goals exact absurd h (by decide)
theorem tgi_5 {v : Int32} (h : tg v = 5) : v = 42 ∨ v = 47 := by
  unfold tg at h
  by_cases c : v = 42 ∨ v = 47
  · exact c
  · rw [if_neg c] at h
    repeat' split at h
    all_goals exact absurd h (by decide)
theorem rd_len {F : Nat} {lp : Bool} {D T l : Nat} {ts ts' : Ts} {S S' : Ss} (h1 : 1 ≤ l) (h6 : l ≤ 6) (h : rd F lp D T l ts S = some (true, ts', S')) : S'.length + ts'.length ≤ S.length + ts.length := (rd_inv (nm := fun _ => True) _ _ _ _ _ _ _ _ _ h1 h6 h).1.1
