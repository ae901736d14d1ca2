/-! ===== the spec, more of it ===== -/
def bstA (v : Nat → Nat) : Nat → Nat
  | 0 => 0
  | k + 1 => if v (bstA v k) < v (k + 1) then k + 1 else bstA v k
theorem bstA_le (v : Nat → Nat) : ∀ k, bstA v k ≤ k
  | 0 => Nat.le_refl _
  | k + 1 => by
    have := bstA_le v k
    unfold bstA
    split <;> omega
def bst (N : Nat → Nat → Nat) (j : Nat) : Nat := bstA (fun k => hld N j k 1) (N 0 0 - 1)
def bth (N : Nat → Nat → Nat) (a b m : Nat) : Nat := min (hld N a m 2) (hld N b m 2)
theorem bth_le (N : Nat → Nat → Nat) (a b m : Nat) : bth N a b m ≤ 40 := Nat.le_trans (Nat.min_le_left _ _) (hld_le _ _ _ _)
def frd (v : Nat → Nat) (a : Nat) : Nat → Option Nat
  | 0 => none
  | b + 1 => if b = a then frd v a b else match frd v a b with
    | none => some b
    | some q => if v q < v b then some b else some q
theorem frd_lt {v : Nat → Nat} {a q : Nat} : ∀ {b : Nat}, frd v a b = some q → q < b
  | 0, h => by simp [frd] at h
  | b + 1, h => by
    unfold frd at h
    split at h
    · exact Nat.lt_succ_of_lt (frd_lt h)
    · split at h
      · cases h; exact Nat.lt_succ_self _
      · split at h
        · cases h; exact Nat.lt_succ_self _
        · cases h; exact Nat.lt_succ_of_lt (frd_lt (by assumption))
def fno (o : Option Nat) : Int32 := match o with
  | none => -9
  | some q => nI q
def bset (P : Nat → Bool) : Nat → Nat
  | 0 => 0
  | k + 1 => bset P k + (if P k then 2 ^ k else 0)
theorem bset_lt (P : Nat → Bool) : ∀ k, bset P k < 2 ^ k
  | 0 => by simp [bset]
  | k + 1 => by
    have := bset_lt P k
    unfold bset
    rw [Nat.pow_succ]
    split <;> omega
theorem or_add {s k : Nat} (h : s < 2 ^ k) : s ||| 2 ^ k = s + 2 ^ k := by
  rw [Nat.or_comm]
  have := Nat.two_pow_add_eq_or_of_lt h 1
  rw [Nat.mul_one] at this
  rw [← this, Nat.add_comm]
theorem bset_t {P : Nat → Bool} {k : Nat} (h : P k = true) : bset P k ||| (1 * 2 ^ k) = bset P (k + 1) := by
  rw [Nat.one_mul, or_add (bset_lt P k), bset, if_pos h]
theorem bset_f {P : Nat → Bool} {k : Nat} (h : ¬ P k = true) : bset P k = bset P (k + 1) := by
  rw [bset, if_neg h, Nat.add_zero]
def gts (N : Nat → Nat → Nat) (j m : Nat) : Nat := bset (fun g => decide (2 * N 5 g ≤ hld N j m 1)) (N 0 2)
def soA (N : Nat → Nat → Nat) : Nat → Bool
  | 0 => true
  | k + 1 => soA N k && decide (hld N (N 6 k) (N 7 k) 1 = N 8 k)
theorem soA_f {N : Nat → Nat → Nat} {q : Nat} (h : ¬ hld N (N 6 q) (N 7 q) 1 = N 8 q) : ∀ {k : Nat}, q < k → soA N k = false
  | 0, h1 => absurd h1 (Nat.not_lt_zero _)
  | k + 1, h1 => by
    unfold soA
    rcases Nat.lt_or_ge q k with h2 | h2
    · rw [soA_f h h2]; rfl
    · have : q = k := by omega
      subst this
      simp [h]
theorem up_up (N : Nat → Nat → Nat) (i k v w : Nat) : up (up N i k v) i k w = up N i k w := by
  funext a b
  unfold up
  by_cases h : a = i
  · simp only [h, if_true]
    unfold upN
    by_cases h2 : b = k <;> simp [h2]
  · simp [h]
theorem up_self (N : Nat → Nat → Nat) (i k : Nat) : up N i k (N i k) = N := by
  funext a b
  unfold up
  by_cases h : a = i
  · subst h
    rw [if_pos rfl]
    unfold upN
    by_cases h2 : b = k
    · rw [if_pos h2, h2]
    · rw [if_neg h2]
  · rw [if_neg h]
theorem up_back (N : Nat → Nat → Nat) (i k v : Nat) : up (up N i k v) i k (N i k) = N := by rw [up_up, up_self]
theorem up_at (N : Nat → Nat → Nat) (i k v : Nat) : up N i k v i k = v := by simp [up, upN]
theorem up_row {N : Nat → Nat → Nat} {i k v a : Nat} (h : a ≠ i) : up N i k v a = N a := by simp [up, h]
theorem WF.up1 {N : Nat → Nat → Nat} (h : WF N) {k v : Nat} (hv : v ≤ 9) : WF (up N 1 k v) := by
  obtain ⟨h0, h1, h2⟩ := h
  refine ⟨h0, fun j => ?_, h2⟩
  show upN (N 1) k v j ≤ 9
  unfold upN; split
  · exact hv
  · exact h1 j
theorem WF.up2 {N : Nat → Nat → Nat} (h : WF N) {k v : Nat} (hv : v ≤ 2) : WF (up N 2 k v) := by
  obtain ⟨h0, h1, h2, h3⟩ := h
  refine ⟨h0, h1, fun j => ?_, h3⟩
  show upN (N 2) k v j ≤ 2
  unfold upN; split
  · exact hv
  · exact h2 j
theorem WF.up3 {N : Nat → Nat → Nat} (h : WF N) {k v : Nat} (hv : v ≤ 99) : WF (up N 3 k v) := by
  obtain ⟨h0, h1, h2, h3, h4⟩ := h
  refine ⟨h0, h1, h2, fun j => ?_, h4⟩
  show upN (N 3) k v j ≤ 99
  unfold upN; split
  · exact hv
  · exact h3 j
theorem WF.up4 {N : Nat → Nat → Nat} (h : WF N) {k v : Nat} (hv : v ≤ 9) : WF (up N 4 k v) := by
  obtain ⟨h0, h1, h2, h3, h4, h5⟩ := h
  refine ⟨h0, h1, h2, h3, fun j => ?_, h5⟩
  show upN (N 4) k v j ≤ 9
  unfold upN; split
  · exact hv
  · exact h4 j
theorem WF.up04 {N : Nat → Nat → Nat} (h : WF N) {v : Nat} (hv : v ≤ 4) : WF (up N 0 4 v) := by
  obtain ⟨⟨a1, a2, a3, a4, a5, a6, a7⟩, h1⟩ := h
  exact ⟨⟨a1, a2, a3, a4, hv, a6, a7⟩, h1⟩
theorem WF.up05 {N : Nat → Nat → Nat} (h : WF N) {v : Nat} (hv : v < 64) : WF (up N 0 5 v) := by
  obtain ⟨⟨a1, a2, a3, a4, a5, a6, a7⟩, h1⟩ := h
  exact ⟨⟨a1, a2, a3, a4, a5, a6, hv⟩, h1⟩
