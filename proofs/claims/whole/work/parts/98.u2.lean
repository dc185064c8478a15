/-! the tokens of a tape -/
/-- on while P holds, ahead of n -/
def fwF (P : Nat → Bool) (n : Nat) : Nat → Nat → Nat
  | 0, p => p
  | k + 1, p => if p < n ∧ P p = true then fwF P n k (p + 1) else p
def fw (P : Nat → Bool) (n p : Nat) : Nat := fwF P n (n - p) p
theorem fw_go {P : Nat → Bool} {n p : Nat} (h : p < n) (h2 : P p = true) : fw P n p = fw P n (p + 1) := by
  unfold fw
  rw [show n - p = (n - (p + 1)) + 1 by omega, fwF, if_pos ⟨h, h2⟩]
theorem fw_st {P : Nat → Bool} {n p : Nat} (h : ¬ (p < n ∧ P p = true)) : fw P n p = p := by
  unfold fw
  cases n - p with
  | zero => rfl
  | succ k => rw [fwF, if_neg h]
theorem fw_le {P : Nat → Bool} {n : Nat} : ∀ k p, n - p = k → p ≤ n → p ≤ fw P n p ∧ fw P n p ≤ n
  | 0, p, h, hp => by
    rw [fw_st (by omega)]
    omega
  | k + 1, p, h, hp => by
    by_cases q : p < n ∧ P p = true
    · rw [fw_go q.1 q.2]
      have := fw_le (P := P) (n := n) k (p + 1) (by omega) (by omega)
      omega
    · rw [fw_st q]
      omega
theorem fw_end {P : Nat → Bool} {n : Nat} : ∀ k p, n - p = k → ¬ (fw P n p < n ∧ P (fw P n p) = true)
  | 0, p, h => by
    rw [fw_st (by omega)]
    omega
  | k + 1, p, h => by
    by_cases q : p < n ∧ P p = true
    · rw [fw_go q.1 q.2]
      exact fw_end k (p + 1) (by omega)
    · rw [fw_st q]
      exact q
theorem fw_in {P : Nat → Bool} {n : Nat} : ∀ k p, n - p = k → ∀ i, p ≤ i → i < fw P n p → P i = true
  | 0, p, h, i, h1, h2 => by
    rw [fw_st (by omega)] at h2
    omega
  | k + 1, p, h, i, h1, h2 => by
    by_cases q : p < n ∧ P p = true
    · rw [fw_go q.1 q.2] at h2
      by_cases e : i = p
      · rw [e]; exact q.2
      · exact fw_in k (p + 1) (by omega) i (by omega) h2
    · rw [fw_st q] at h2
      omega
def isSp (g : Nat → Nat) (i : Nat) : Bool := g i == 32
def isLt (g : Nat → Nat) (i : Nat) : Bool := 97 ≤ g i && g i ≤ 122
def isDg (g : Nat → Nat) (i : Nat) : Bool := 48 ≤ g i && g i ≤ 57
/-- the number that the digits from b on, k of them, make -/
def dgv (g : Nat → Nat) (b : Nat) : Nat → Nat
  | 0 => 0
  | k + 1 => 10 * dgv g b k + (g (b + k) - 48)
theorem dgv_lt {g : Nat → Nat} {b : Nat} : ∀ k, (∀ i, i < k → g (b + i) ≤ 57) → dgv g b k < 10 ^ k
  | 0, _ => by simp [dgv]
  | k + 1, h => by
    have h1 := dgv_lt k (fun i hi => h i (by omega))
    have h2 := h k (by omega)
    rw [dgv, Nat.pow_succ]
    omega
/-- sort of a token: 1 letters, 2 digits, 3 a sign; its end -/
def tkS (g : Nat → Nat) (b : Nat) : Nat := if isLt g b then 1 else if isDg g b then 2 else 3
def tkE (g : Nat → Nat) (n b : Nat) : Nat := if isLt g b then fw (isLt g) n b else if isDg g b then fw (isDg g) n b else b + 1
/-- what a token is for a key, t: it touches a word -/
def tkK (nm : Int32 → Bool) (g : Nat → Nat) (n b : Nat) (t : Bool) : Nat × Int32 :=
  if isLt g b then (if t = false ∧ tkE g n b = b + 1 ∧ nm (nI (g b)) = true then (1, nI (g b)) else (3, 0))
  else if isDg g b then (if t = false ∧ tkE g n b ≤ b + 4 then (0, nI (dgv g b (tkE g n b - b))) else (3, 0))
  else (2, nI (g b))
/-- the tokens from p on, w: a word ends at p -/
def tks (nm : Int32 → Bool) (g : Nat → Nat) (n : Nat) : Nat → Nat → Bool → Ts
  | 0, _, _ => []
  | k + 1, p, w => if fw (isSp g) n p < n then (tkK nm g n (fw (isSp g) n p) (w && fw (isSp g) n p == p), fw (isSp g) n p) :: tks nm g n k (tkE g n (fw (isSp g) n p)) (tkS g (fw (isSp g) n p) != 3) else []
theorem tkE_lt {g : Nat → Nat} {n b : Nat} (h : b < n) : b < tkE g n b ∧ tkE g n b ≤ n := by
  unfold tkE
  split
  · rename_i h1
    rw [fw_go h h1]
    have := fw_le (P := isLt g) (n := n) _ (b + 1) rfl (by omega)
    omega
  · split
    · rename_i h1
      rw [fw_go h h1]
      have := fw_le (P := isDg g) (n := n) _ (b + 1) rfl (by omega)
      omega
    · omega
theorem tks_len {nm : Int32 → Bool} {g : Nat → Nat} {n : Nat} : ∀ k p w, p ≤ n → (tks nm g n k p w).length + p ≤ n
  | 0, p, w, h => by simp [tks]; omega
  | k + 1, p, w, h => by
    rw [tks]
    split
    · rename_i hb
      have h1 := fw_le (P := isSp g) (n := n) _ p rfl h
      have h2 := tkE_lt (g := g) hb
      have := tks_len (nm := nm) (g := g) k (tkE g n (fw (isSp g) n p)) (tkS g (fw (isSp g) n p) != 3) h2.2
      simp only [List.length_cons]
      omega
    · simp; omega
/-- more turns don't matter -/
theorem tks_k {nm : Int32 → Bool} {g : Nat → Nat} {n : Nat} : ∀ k p w, p ≤ n → n - p ≤ k → tks nm g n (k + 1) p w = tks nm g n k p w
  | 0, p, w, h, hk => by
    rw [tks, tks, if_neg]
    have := fw_le (P := isSp g) (n := n) _ p rfl h
    omega
  | k + 1, p, w, h, hk => by
    rw [tks]
    conv => rhs; rw [tks]
    split
    · rename_i hb
      have h1 := fw_le (P := isSp g) (n := n) _ p rfl h
      have h2 := tkE_lt (g := g) hb
      rw [tks_k k _ _ h2.2 (by omega)]
    · rfl
/-- the tape of both: bytes -/
def tpB (M : Mm) (a n : Nat) (g : Nat → Nat) : Prop := ∀ i, i < n → mI M a i = nI (g i) ∧ g i < 256
theorem lt_b {g : Nat → Nat} {b : Nat} (h : isLt g b = true) : 97 ≤ g b ∧ g b ≤ 122 := by
  unfold isLt at h
  simp only [Bool.and_eq_true, decide_eq_true_eq] at h
  exact h
theorem dg_b {g : Nat → Nat} {b : Nat} (h : isDg g b = true) : 48 ≤ g b ∧ g b ≤ 57 := by
  unfold isDg at h
  simp only [Bool.and_eq_true, decide_eq_true_eq] at h
  exact h
theorem lt_t {g : Nat → Nat} {b : Nat} (h : 97 ≤ g b ∧ g b ≤ 122) : isLt g b = true := by
  unfold isLt
  simp only [Bool.and_eq_true, decide_eq_true_eq]
  exact h
theorem dg_t {g : Nat → Nat} {b : Nat} (h : 48 ≤ g b ∧ g b ≤ 57) : isDg g b = true := by
  unfold isDg
  simp only [Bool.and_eq_true, decide_eq_true_eq]
  exact h
def shp (a : Nat) : Nat := if 97 ≤ a ∧ a ≤ 122 then 1 else if 48 ≤ a ∧ a ≤ 57 then 2 else 3
theorem shp_c (a : Nat) : shp a = 1 ∨ shp a = 2 ∨ shp a = 3 := by
  unfold shp
  split
  · exact Or.inl rfl
  · split
    · exact Or.inr (Or.inl rfl)
    · exact Or.inr (Or.inr rfl)
theorem shp_e {g : Nat → Nat} {b : Nat} : tkS g b = shp (g b) := by
  unfold tkS shp
  by_cases c : 97 ≤ g b ∧ g b ≤ 122
  · rw [if_pos c, if_pos (lt_t c)]
  · rw [if_neg c, if_neg (fun q => c (lt_b q))]
    by_cases c2 : 48 ≤ g b ∧ g b ≤ 57
    · rw [if_pos c2, if_pos (dg_t c2)]
    · rw [if_neg c2, if_neg (fun q => c2 (dg_b q))]
theorem tkE_in {g : Nat → Nat} {n b : Nat} (hb : b < n) : ∀ q, b + 1 ≤ q → q < tkE g n b → q < n ∧ tkS g q = tkS g b ∧ tkS g b ≠ 3 := by
  intro q h1 h2
  unfold tkE at h2
  by_cases c : isLt g b = true
  · rw [if_pos c] at h2
    have hq := fw_in (P := isLt g) (n := n) _ b rfl q (by omega) h2
    have hl := fw_le (P := isLt g) (n := n) _ b rfl (by omega)
    unfold tkS
    rw [if_pos hq, if_pos c]
    exact ⟨by omega, rfl, by decide⟩
  · rw [if_neg c] at h2
    by_cases c2 : isDg g b = true
    · rw [if_pos c2] at h2
      have hq := fw_in (P := isDg g) (n := n) _ b rfl q (by omega) h2
      have hl := fw_le (P := isDg g) (n := n) _ b rfl (by omega)
      have hq2 : ¬ isLt g q = true := fun e => by have := lt_b e; have := dg_b hq; omega
      unfold tkS
      rw [if_neg hq2, if_pos hq, if_neg c, if_pos c2]
      exact ⟨by omega, rfl, by decide⟩
    · rw [if_neg c2] at h2
      omega
theorem tkE_st {g : Nat → Nat} {n b : Nat} : tkS g b = 3 ∨ n ≤ tkE g n b ∨ tkS g (tkE g n b) ≠ tkS g b := by
  unfold tkE tkS
  by_cases c : isLt g b = true
  · rw [if_pos c, if_pos c]
    have := fw_end (P := isLt g) (n := n) _ b rfl
    by_cases q : fw (isLt g) n b < n
    · right; right
      rw [if_neg (fun e => this ⟨q, e⟩)]
      split <;> decide
    · exact Or.inr (Or.inl (by omega))
  · rw [if_neg c, if_neg c]
    by_cases c2 : isDg g b = true
    · rw [if_pos c2, if_pos c2]
      have := fw_end (P := isDg g) (n := n) _ b rfl
      by_cases q : fw (isDg g) n b < n
      · right; right
        rw [if_neg (c := isDg g (fw (isDg g) n b) = true) (fun e => this ⟨q, e⟩)]
        split <;> decide
      · exact Or.inr (Or.inl (by omega))
    · rw [if_neg c2, if_neg c2]
      exact Or.inl rfl
theorem tkE_3 {g : Nat → Nat} {n b : Nat} (h : tkS g b = 3) : tkE g n b = b + 1 := by
  unfold tkS at h
  unfold tkE
  by_cases c : isLt g b = true
  · rw [if_pos c] at h; cases h
  · rw [if_neg c] at h ⊢
    by_cases c2 : isDg g b = true
    · rw [if_pos c2] at h; cases h
    · rw [if_neg c2]
theorem tkE_dg {g : Nat → Nat} {n b : Nat} (hb : b < n) (h : tkS g b = 2) : ∀ q, b ≤ q → q < tkE g n b → 48 ≤ g q ∧ g q ≤ 57 := by
  intro q h1 h2
  have e : tkS g q = 2 := by
    by_cases e : q = b
    · rw [e]; exact h
    · rw [(tkE_in hb q (by omega) h2).2.1]; exact h
  unfold tkS at e
  split at e
  · cases e
  · split at e
    · rename_i h3; exact dg_b h3
    · cases e
theorem tkE_lt2 {g : Nat → Nat} {n b : Nat} (hb : b < n) (h : tkS g b = 1) : ∀ q, b ≤ q → q < tkE g n b → 97 ≤ g q ∧ g q ≤ 122 := by
  intro q h1 h2
  have e : tkS g q = 1 := by
    by_cases e : q = b
    · rw [e]; exact h
    · rw [(tkE_in hb q (by omega) h2).2.1]; exact h
  unfold tkS at e
  split at e
  · rename_i h3; exact lt_b h3
  · split at e <;> cases e
def nmB (ke v : Int32) : Bool := @decide (znm ke v) (by unfold znm; exact inferInstance)
theorem nmB_t {ke v : Int32} : nmB ke v = true ↔ znm ke v := ⟨fun h => @of_decide_eq_true _ (_) h, fun h => @decide_eq_true _ (_) h⟩
theorem tkK_1 {nm : Int32 → Bool} {g : Nat → Nat} {n b : Nat} {t : Bool} (h : tkS g b = 1) : tkK nm g n b t = if t = false ∧ tkE g n b = b + 1 ∧ nm (nI (g b)) = true then (1, nI (g b)) else (3, 0) := by
  unfold tkS at h
  unfold tkK
  by_cases c : isLt g b = true
  · rw [if_pos c]
  · rw [if_neg c] at h
    split at h <;> cases h
theorem tkK_2 {nm : Int32 → Bool} {g : Nat → Nat} {n b : Nat} {t : Bool} (h : tkS g b = 2) : tkK nm g n b t = if t = false ∧ tkE g n b ≤ b + 4 then (0, nI (dgv g b (tkE g n b - b))) else (3, 0) := by
  unfold tkS at h
  unfold tkK
  by_cases c : isLt g b = true
  · rw [if_pos c] at h; cases h
  · rw [if_neg c] at h ⊢
    by_cases c2 : isDg g b = true
    · rw [if_pos c2]
    · rw [if_neg c2] at h; cases h
theorem tkK_3 {nm : Int32 → Bool} {g : Nat → Nat} {n b : Nat} {t : Bool} (h : tkS g b = 3) : tkK nm g n b t = (2, nI (g b)) := by
  unfold tkS at h
  unfold tkK
  by_cases c : isLt g b = true
  · rw [if_pos c] at h; cases h
  · rw [if_neg c] at h ⊢
    by_cases c2 : isDg g b = true
    · rw [if_pos c2] at h; cases h
    · rw [if_neg c2]
theorem dgv_4 {g : Nat → Nat} {n b : Nat} (hb : b < n) (h : tkS g b = 2) {k : Nat} (hk : b + k ≤ tkE g n b) (h4 : k ≤ 4) : dgv g b k < 10000 := by
  have h1 := dgv_lt (g := g) (b := b) k (fun i hi => (tkE_dg hb h (b + i) (by omega) (by omega)).2)
  have h2 : 10 ^ k ≤ 10 ^ 4 := Nat.pow_le_pow_right (by decide) h4
  have h3 : (10 : Nat) ^ 4 = 10000 := by decide
  omega
theorem tks_tok {nm : Int32 → Bool} {g : Nat → Nat} {n : Nat} : ∀ k p w, p ≤ n → ∀ t, t ∈ tks nm g n k p w → Tok (fun v => nm v = true) t
  | 0, p, w, _, t, h => by simp [tks] at h
  | k + 1, p, w, hp, t, h => by
    rw [tks] at h
    have hl := fw_le (P := isSp g) (n := n) _ p rfl hp
    split at h
    · rename_i hb
      have he := tkE_lt (g := g) hb
      rcases List.mem_cons.mp h with rfl | h
      · unfold Tok
        dsimp only
        rcases shp_c (g (fw (isSp g) n p)) with q | q | q
        · rw [tkK_1 (by rw [shp_e]; exact q)]
          split
          · rename_i c
            exact ⟨fun e => (by cases e), fun _ => c.2.2⟩
          · exact ⟨fun e => (by cases e), fun e => (by cases e)⟩
        · have q : tkS g (fw (isSp g) n p) = 2 := by rw [shp_e]; exact q
          rw [tkK_2 q]
          split
          · rename_i c
            exact ⟨fun _ => ⟨_, dgv_4 hb q (by omega) (by omega), rfl⟩, fun e => (by cases e)⟩
          · exact ⟨fun e => (by cases e), fun e => (by cases e)⟩
        · rw [tkK_3 (by rw [shp_e]; exact q)]
          exact ⟨fun e => (by cases e), fun e => (by cases e)⟩
      · exact tks_tok k _ _ he.2 t h
    · cases h
/-- where a rest of tokens begins -/
def pos (n : Nat) : Ts → Nat
  | [] => n
  | (_, b) :: _ => b
/-- a word at a place -/
def wdE (g : Nat → Nat) (b p : Nat) (W : List Int32) : Prop := p = b + W.length ∧ ∀ k, k < W.length → nI (g (b + k)) = W.getD k 0
def kyR (g : Nat → Nat) (b p : Nat) (ke : Int32) : Prop := (ke = 0 ∧ wdE g b p [115, 97, 108, 101]) ∨ (ke = 1 ∧ wdE g b p [115, 99, 114, 97, 112]) ∨ (ke = 2 ∧ wdE g b p [98, 97, 99, 107]) ∨ (ke = -1 ∧ ¬ wdE g b p [115, 97, 108, 101] ∧ ¬ wdE g b p [115, 99, 114, 97, 112] ∧ ¬ wdE g b p [98, 97, 99, 107])
theorem kyR_u {g : Nat → Nat} {b p : Nat} {x y : Int32} (hx : kyR g b p x) (hy : kyR g b p y) : x = y := by
  have n1 : ¬ (wdE g b p [115, 97, 108, 101] ∧ wdE g b p [115, 99, 114, 97, 112]) := fun q => by
    have a := q.1.1
    have b := q.2.1
    simp only [List.length_cons, List.length_nil] at a b
    omega
  have n2 : ¬ (wdE g b p [98, 97, 99, 107] ∧ wdE g b p [115, 99, 114, 97, 112]) := fun q => by
    have a := q.1.1
    have b := q.2.1
    simp only [List.length_cons, List.length_nil] at a b
    omega
  have n3 : ¬ (wdE g b p [115, 97, 108, 101] ∧ wdE g b p [98, 97, 99, 107]) := fun q => by
    have a := q.1.2 0 (by decide)
    have b := q.2.2 0 (by decide)
    rw [a] at b
    exact absurd b (by decide)
  rcases hx with ⟨rfl, hx⟩ | ⟨rfl, hx⟩ | ⟨rfl, hx⟩ | ⟨rfl, hx1, hx2, hx3⟩ <;> rcases hy with ⟨rfl, hy⟩ | ⟨rfl, hy⟩ | ⟨rfl, hy⟩ | ⟨rfl, hy1, hy2, hy3⟩ <;> first | rfl | contradiction | exact (n1 ⟨hx, hy⟩).elim | exact (n1 ⟨hy, hx⟩).elim | exact (n2 ⟨hx, hy⟩).elim | exact (n2 ⟨hy, hx⟩).elim | exact (n3 ⟨hx, hy⟩).elim | exact (n3 ⟨hy, hx⟩).elim
theorem sr_48 {a : Nat} (h : 48 ≤ a) : nI a - (48 : Int32) = nI (a - 48) := pk_sub h
theorem dgv_s {g : Nat → Nat} {b k : Nat} (h : 48 ≤ g (b + k)) : dgv g b (k + 1) = 10 * dgv g b k + g (b + k) - 48 := by
  rw [dgv]
  omega
