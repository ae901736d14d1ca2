/-! ===== longs, copies, odds ===== -/
theorem lcmp_T {a b : Nat} (ha : a < 2147483648) (hb : b < 2147483648) : (lg_cmp (lN a) (lN b)).toInt = (if a < b then (-1 : Int) else if a = b then 0 else 1) := by
  have h1 := pk_lLT (a := a) (b := b) (by omega) (by omega)
  have h2 := pk_lLT (a := b) (b := a) (by omega) (by omega)
  have h3 := pk_lEQ (a := a) (b := b) (by omega) (by omega)
  unfold lg_cmp
  by_cases c1 : a < b
  · simp [h1, h2, h3, c1, show ¬ b < a by omega, show ¬ a = b by omega]
  · by_cases c2 : a = b
    · simp [c2]
    · simp [h1, h2, h3, c1, c2, show b < a by omega]
theorem lg_cmp0 {x y : Int64} : (lg_cmp x y).toInt = 0 ↔ x = y := by
  unfold lg_cmp
  by_cases c1 : x = y
  · subst c1
    have c2 : ¬ x > x := fun q => by
      have := Int64.lt_iff_toInt_lt.mp q
      omega
    rw [if_neg c2, if_pos rfl]
    exact ⟨fun _ => rfl, fun _ => rfl⟩
  · rw [if_neg c1]
    refine ⟨fun h => ?_, fun h => absurd h c1⟩
    exfalso
    revert h
    by_cases c2 : x > y
    · rw [if_pos c2]; decide
    · rw [if_neg c2]; decide
section LR
variable {p : Program} {l : Launch} {e : Env} {R : Room} {s : State} {m : MethodId} {args : Array Value} {below : List Frame} {meth : Method} {c : Code} {H : Heap} {locs : List Loc} {cells slots : Nat} {Q : State → Prop}
variable {cc : ByteArray} {pc : Nat} {ls : Array Slot} {rest : List Value}
theorem n_lrem (hx : p.tables.exec = Jvm.exec) (hb : c.code = cc) {a b : Nat} (ha : a < 2147483648) (h0 : 0 < b) (hb2 : b < 2147483648) (hdg : decode cc pc = .ok (.lrem, 1)) (k : W p l e R s m args below meth c H locs cells slots Q (F0 m (pc + 1) ls (.long (lN (a % b)) :: rest))) : W p l e R s m args below meth c H locs cells slots Q (F0 m pc ls (.long (lN b) :: .long (lN a) :: rest)) :=
  lv_lrem hx hb hdg (fun h => by have := (pk_lEQ (a := b) (b := 0) (by omega) (by omega)).mp h; omega) (by rw [pk_lRem (by omega) h0 (by omega)]; exact k)
theorem n_ldiv (hx : p.tables.exec = Jvm.exec) (hb : c.code = cc) {a b : Nat} (ha : a < 2147483648) (h0 : 0 < b) (hb2 : b < 2147483648) (hdg : decode cc pc = .ok (.ldiv, 1)) (k : W p l e R s m args below meth c H locs cells slots Q (F0 m (pc + 1) ls (.long (lN (a / b)) :: rest))) : W p l e R s m args below meth c H locs cells slots Q (F0 m pc ls (.long (lN b) :: .long (lN a) :: rest)) :=
  lv_ldiv hx hb hdg (fun h => by have := (pk_lEQ (a := b) (b := 0) (by omega) (by omega)).mp h; omega) (by rw [pk_lDiv (by omega) h0 (by omega)]; exact k)
end LR
def cpP (C : CC) (k i o j lo hi : Nat) : CC := fun x y => if x = o ∧ j + lo ≤ y ∧ y < j + hi then C k (i + (y - j)) else C x y
theorem cpP_0 (C : CC) (k i o j n : Nat) : cpP C k i o j n n = C := by
  funext x y
  unfold cpP
  rw [if_neg (by omega)]
theorem cpP_rd {C : CC} {k i o j lo hi c : Nat} (h : i + c < j + lo ∨ j + hi ≤ i + c) : cpP C k i o j lo hi k (i + c) = C k (i + c) := by
  unfold cpP
  rw [if_neg (by omega)]
theorem cpP_b (C : CC) (k i o j c n : Nat) (h : c < n) : upC (cpP C k i o j (c + 1) n) o (j + c) (C k (i + c)) = cpP C k i o j c n := by
  funext x y
  unfold upC upd cpP
  by_cases hx : x = o
  · subst hx
    rw [if_pos rfl]
    by_cases hy : y = j + c
    · subst hy
      rw [if_pos rfl, if_pos (by omega), show j + c - j = c by omega]
    · rw [if_neg hy]
      by_cases h1 : j + (c + 1) ≤ y ∧ y < j + n
      · rw [if_pos ⟨rfl, h1⟩, if_pos (by omega)]
      · rw [if_neg (by omega), if_neg (by omega)]
  · rw [if_neg hx, if_neg (by omega), if_neg (by omega)]
theorem cpP_f (C : CC) (k i o j c : Nat) : upC (cpP C k i o j 0 c) o (j + c) (C k (i + c)) = cpP C k i o j 0 (c + 1) := by
  funext x y
  unfold upC upd cpP
  by_cases hx : x = o
  · subst hx
    rw [if_pos rfl]
    by_cases hy : y = j + c
    · subst hy
      rw [if_pos rfl, if_pos (by omega), show j + c - j = c by omega]
    · rw [if_neg hy]
      by_cases h1 : j + 0 ≤ y ∧ y < j + c
      · rw [if_pos ⟨rfl, h1⟩, if_pos (by omega)]
      · rw [if_neg (by omega), if_neg (by omega)]
  · rw [if_neg hx, if_neg (by omega), if_neg (by omega)]
theorem cpP_C (C : CC) (k i o j n : Nat) : cpP C k i o j 0 n = cpC C k i o j n := by
  funext x y
  unfold cpP cpC
  simp
def cntA (P : Nat → Bool) : Nat → Nat
  | 0 => 0
  | k + 1 => cntA P k + (if P k then 1 else 0)
theorem cntA_le (P : Nat → Bool) : ∀ k, cntA P k ≤ k
  | 0 => Nat.le_refl _
  | k + 1 => by
    have := cntA_le P k
    unfold cntA
    split <;> omega
def lt_ (u d : Nat) (w : Int) : Int64 := if w = 0 then lN (u / Nat.gcd u d) else lN (d / Nat.gcd u d)
def ocnt (N : NN) (j n : Nat) : Nat := cntA (fun s => decide (n ≤ hld (up N 0 5 s) j 0 1)) (2 ^ N 0 0)
def sp_odds (N : NN) (C : CC) (K n w : Int) : Int64 × NN × CC := if (0 ≤ K ∧ K < (N 0 1 : Int)) ∧ (0 ≤ n ∧ n ≤ 40) ∧ (0 ≤ w ∧ w ≤ 1) then (lt_ (ocnt N K.toNat n.toNat) (2 ^ N 0 0) w, N, C) else (LOSTV, N, C)
theorem pow_le64 {p : Nat} (h : p ≤ 6) : 2 ^ p ≤ 64 := by
  have := Nat.pow_le_pow_right (n := 2) (by decide) h
  omega
theorem up05_0 {N : NN} (h : N 0 5 = 0) (x : Nat) : up (up N 0 5 x) 0 5 0 = N := by
  have e := up_self N 0 5
  rw [h] at e
  rw [up_up, e]
