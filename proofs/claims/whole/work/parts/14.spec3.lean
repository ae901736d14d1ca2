/-! ===== the calls: answer, numbers and cells behind it ===== -/
abbrev NN : Type := Nat → Nat → Nat
abbrev CC : Type := Nat → Nat → Int32
def inT (N : NN) (K : Int) : Prop := 0 ≤ K ∧ K < (N 0 1 : Int)
def inP (N : NN) (K : Int) : Prop := 0 ≤ K ∧ K < (N 0 0 : Int)
def sp_hush (N : NN) (C : CC) (K V : Int) : Int32 × NN × CC := if 0 ≤ K ∧ K < (N 0 0 : Int) then (if 0 ≤ V ∧ V ≤ 9 then (nI (N 1 K.toNat), up N 1 K.toNat V.toNat, C) else (-2, N, C)) else (-1, N, C)
def sp_think (N : NN) (C : CC) (K V : Int) : Int32 × NN × CC := if 0 ≤ K ∧ K < (N 0 1 : Int) then (if 0 ≤ V ∧ V ≤ 9 then (nI (N 4 K.toNat), up N 4 K.toNat V.toNat, C) else (-2, N, C)) else (-1, N, C)
def sp_brace (N : NN) (C : CC) (K V : Int) : Int32 × NN × CC := if 0 ≤ K ∧ K < (N 0 1 : Int) then (if 0 ≤ V ∧ V ≤ 99 then (nI (N 3 K.toNat), up N 3 K.toNat V.toNat, C) else (-2, N, C)) else (-1, N, C)
def sp_reading (N : NN) (C : CC) (K M Q : Int) : Int32 × NN × CC := if 0 ≤ K ∧ K < (N 0 1 : Int) then (if (0 ≤ M ∧ M ≤ 59) ∧ 0 ≤ Q ∧ Q ≤ 40 then (if N 0 3 = 8 then (-4, N, C) else (nI (N 0 3), up (up (up (up N 6 (N 0 3) K.toNat) 7 (N 0 3) M.toNat) 8 (N 0 3) Q.toNat) 0 3 (N 0 3 + 1), C)) else (-2, N, C)) else (-1, N, C)
def sp_back (N : NN) (C : CC) (K : Int) : Int32 × NN × CC := if 0 ≤ K ∧ K ≤ (N 0 3 : Int) then (nI (N 0 3 - K.toNat), up N 0 3 (N 0 3 - K.toNat), C) else (-2, N, C)
def sp_minds (N : NN) (C : CC) (K : Int) : Int32 × NN × CC := if 0 ≤ K ∧ K < (N 0 1 : Int) then (nI (bset (fun v => soA (up N 4 K.toNat v) (N 0 3)) 10), N, C) else (-1, N, C)
def sp_kinds (N : NN) (C : CC) (K : Int) : Int32 × NN × CC := if 0 ≤ K ∧ K < (N 0 1 : Int) then (nI (bset (fun v => soA (up N 2 K.toNat v) (N 0 3)) 3), N, C) else (-1, N, C)
def sp_glooms (N : NN) (C : CC) (K : Int) : Int32 × NN × CC := if 0 ≤ K ∧ K < (N 0 0 : Int) then (nI (bset (fun v => soA (up N 1 K.toNat v) (N 0 3)) 10), N, C) else (-1, N, C)
def bg (x : Int32) (k : Nat) : Int32 := nI 31 * x + nI k
def tC (C : CC) (k : Nat) : CC := upC C 4 60 (bg (C 4 60) k)
theorem tC_at (C : CC) (k : Nat) : tC C k 4 60 = bg (C 4 60) k := by simp [tC, upC, upd]
theorem tr_upd (C : CC) (x : Int32) : (fun j => C (j / 60) (j % 60)) = fun j => upC C 4 60 x (j / 60) (j % 60) := by
  funext j
  unfold upC upd
  by_cases h : j / 60 = 4
  · rw [if_pos h, if_neg (by omega), h]
  · rw [if_neg h]
def sp_tell (N : NN) (C : CC) (K : Int) : Int32 × NN × CC := if 0 ≤ K ∧ K < (N 0 1 : Int) then (if N 2 K.toNat = 1 then (nI (N 3 K.toNat + 100), N, tC (tC C 2) 1) else if N 2 K.toNat = 2 then (nI (2 * N 3 K.toNat + 100), N, tC (tC (tC (tC C 3) 2) 1) 1) else (nI (N 3 K.toNat), N, tC C 1)) else (-1, N, C)
def sp_ring (N : NN) (C : CC) (K : Int) : Int32 × NN × CC := if 0 ≤ K ∧ K < (N 0 1 : Int) then (if N 2 K.toNat = 2 then (nI 40, N, tC C 5) else (nI K.toNat, N, tC C 4)) else (-1, N, C)
abbrev f0 (N : NN) : NN := up N 0 4 0
abbrev ff (N : NN) (k : Nat) : NN := up (up N 0 4 0) 0 4 k
def sp_as (N : NN) (C : CC) (K Q : Int) : Int32 × NN × CC := if 0 ≤ K ∧ K < (N 0 1 : Int) then (if 0 ≤ Q ∧ Q ≤ 2 then (if Q ≤ (N 2 K.toNat : Int) then (nI 1, f0 N, C) else (-10 - nI 2, ff N 2, C)) else (-2, f0 N, C)) else (-1, f0 N, C)
def zC (C : CC) (k n : Nat) : CC := fun i j => if i = k ∧ j < n then 0 else C i j
def sp_sheet (N : NN) (C : CC) (K Q n : Int) : Int32 × NN × CC := if 0 ≤ K ∧ K ≤ 3 then (if (0 ≤ Q ∧ Q ≤ 2) ∧ n ≤ 60 then (if n < 0 then (-10 - nI 4, ff N 4, C) else (nI 1, up (up (f0 N) 9 K.toNat Q.toNat) 10 K.toNat n.toNat, zC C K.toNat 60)) else (-2, f0 N, C)) else (-1, f0 N, C)
def sp_lose (N : NN) (C : CC) (K : Int) : Int32 × NN × CC := if 0 ≤ K ∧ K ≤ 3 then ((if N 9 K.toNat = 3 then nI 0 else nI 1), up N 9 K.toNat 3, C) else (-1, N, C)
def cutv (q : Nat) (v : Int32) : Int32 := if q = 0 then v.toInt8.toInt32 else if q = 1 then v.toInt16.toInt32 else v
def sp_put (N : NN) (C : CC) (K i : Int) (v : Int32) : Int32 × NN × CC := if 0 ≤ K ∧ K ≤ 3 then (if N 9 K.toNat = 3 then (-10 - nI 1, ff N 1, C) else if 0 ≤ i ∧ i < (N 10 K.toNat : Int) then (nI 1, f0 N, upC C K.toNat i.toNat (cutv (N 9 K.toNat) v)) else (-10 - nI 3, ff N 3, C)) else (-1, f0 N, C)
abbrev LOSTV : Int64 := -9223372036854775808
def sp_cell (N : NN) (C : CC) (K i Q : Int) : Int64 × NN × CC := if (0 ≤ K ∧ K ≤ 3) ∧ (0 ≤ Q ∧ Q ≤ 2) then (if N 9 K.toNat ≠ 3 ∧ (N 9 K.toNat : Int) ≠ Q then (LOSTV, ff N 2, C) else if N 9 K.toNat = 3 then (LOSTV, ff N 1, C) else if 0 ≤ i ∧ i < (N 10 K.toNat : Int) then ((C K.toNat i.toNat).toInt64, f0 N, C) else (LOSTV, ff N 3, C)) else (LOSTV, f0 N, C)
def cpC (C : CC) (k i o j n : Nat) : CC := fun x y => if x = o ∧ j ≤ y ∧ y < j + n then C k (i + (y - j)) else C x y
def sp_copy (N : NN) (C : CC) (K i O j n : Int) : Int32 × NN × CC := if (0 ≤ K ∧ K ≤ 3) ∧ (0 ≤ O ∧ O ≤ 3) then (if N 9 K.toNat = 3 ∨ N 9 O.toNat = 3 then (-10 - nI 1, ff N 1, C) else if N 9 K.toNat ≠ N 9 O.toNat then (-10 - nI 2, ff N 2, C) else if (0 ≤ i ∧ 0 ≤ j ∧ 0 ≤ n ∧ i ≤ (N 10 K.toNat : Int) ∧ j ≤ (N 10 O.toNat : Int)) ∧ n ≤ (N 10 K.toNat : Int) - i ∧ n ≤ (N 10 O.toNat : Int) - j then (nI n.toNat, f0 N, cpC C K.toNat i.toNat O.toNat j.toNat n.toNat) else (-10 - nI 3, ff N 3, C)) else (-1, f0 N, C)
theorem zC_0 (C : CC) (k : Nat) : zC C k 0 = C := by
  funext i j
  unfold zC
  rw [if_neg (by omega)]
theorem zC_s (C : CC) (k n : Nat) : upC (zC C k n) k n (nI 0) = zC C k (n + 1) := by
  funext i j
  unfold upC upd zC
  by_cases h : i = k
  · rw [if_pos h]
    by_cases h2 : j = n
    · rw [if_pos h2, if_pos (by omega)]; rfl
    · rw [if_neg h2]
      by_cases h3 : j < n
      · rw [if_pos ⟨rfl, h3⟩, if_pos ⟨h, by omega⟩]
      · rw [if_neg (by omega), if_neg (by omega), h]
  · rw [if_neg h, if_neg (by omega), if_neg (by omega)]
theorem mw_cells {ka : Nat → ClassId} {h : Nat} {a : Nat → Nat} {N : NN} {C : CC} {f : Nat → Int32} {g : Nat → Nat → Int32} {R : va_W} {k i : Nat} {x : Int32} (hk : k < 4) : (mw ka h a N C f g ++ R).set 3 (a 4, .inl (ka 0, 240, .inl (fun j => upC C k i x (j / 60) (j % 60)))) = mw ka h a N (upC C k i x) f g ++ R := by
  have e : upC C k i x 4 60 = C 4 60 := by
    unfold upC
    rw [if_neg (by omega)]
  unfold mw
  rw [e]
  rfl
