/-! ===== sets of places, sums ===== -/
def di (N : NN) (s j : Nat) : Nat → Nat
  | 0 => 0
  | t + 1 => di N s j t + dr0 (N 2 j) (if s / 2 ^ (t % N 0 0) % 2 = 1 then N 1 (t % N 0 0) else 0) (N 4 j)
theorem di_le {N : NN} (h : WF N) (s j : Nat) : ∀ t, di N s j t ≤ t * 18
  | 0 => by simp [di]
  | t + 1 => by
    have h1 := di_le h s j t
    have h2 : dr0 (N 2 j) (if s / 2 ^ (t % N 0 0) % 2 = 1 then N 1 (t % N 0 0) else 0) (N 4 j) ≤ 18 := by
      refine dr0_le ?_ (h.2.2.2.2.1 j)
      split
      · exact h.2.1 _
      · omega
    unfold di
    rw [Nat.succ_mul]
    omega
theorem mod_s {t p : Nat} (h : 0 < p) : (t + 1) % p = (if t % p + 1 < p then t % p + 1 else 0) := by
  have h1 := Nat.mod_lt t h
  rw [Nat.add_mod]
  by_cases c : t % p + 1 < p
  · rw [if_pos c, Nat.mod_eq_of_lt (a := 1) (by omega), Nat.mod_eq_of_lt c]
  · rw [if_neg c]
    rcases Nat.eq_or_lt_of_le (show 1 ≤ p from h) with e | e
    · subst e; simp [Nat.mod_one]
    · rw [Nat.mod_eq_of_lt (a := 1) e, show t % p + 1 = p by omega, Nat.mod_self]
def mno (v : Nat → Nat) (o : Option Nat) : Int := match o with
  | none => -1
  | some q => (v q : Int)
