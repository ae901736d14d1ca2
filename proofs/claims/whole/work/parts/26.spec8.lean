/-! ===== a night: its call ===== -/
theorem sp_night_in {N : NN} {C : CC} {k q i n : Nat} {w : Int} (hk : k < 4) (hq : q < 3) (hn : n ≤ 20) (hw : (0 ≤ w ∧ w ≤ 3) ∨ (10 ≤ w ∧ w ≤ 14)) (h : agst N k q (i : Int) (2 * (n : Int)) = 0) : sp_night N C (k : Int) (q : Int) (i : Int) (n : Int) w = (if N 0 1 = 0 then (-3, f0 N, C) else if pck (N 0 1) (fun j => cz C (60 * k + i + j)) n = 1 then (-1, f0 N, C) else if pck (N 0 1) (fun j => cz C (60 * k + i + j)) n = 2 then (-2, f0 N, C) else (nightA N (fun p => (cz C (60 * k + i + 2 * p)).toNat) (fun p => (cz C (60 * k + i + (2 * p + 1))).toNat) n w, f0 N, C)) := by
  unfold sp_night
  rw [if_pos (by omega), if_pos (by omega)]
  show (if agst N k q (i : Int) (2 * (n : Int)) = 0 then _ else _) = _
  rw [if_pos h]
  rfl
theorem nI_toNat {x : Int32} (h : 0 ≤ x.toInt) : x = nI x.toInt.toNat := by
  have hlt := x.toInt_lt
  rw [ii_eq, nI_toInt (n := x.toInt.toNat) (by omega)]
  omega
theorem pck_1 {nt : Nat} {c : Nat → Int} {k : Nat} (h : pck nt c k = 0) (h1 : ¬ (0 ≤ c (2 * k) ∧ c (2 * k) < (nt : Int))) : pck nt c (k + 1) = 1 := by
  rw [pck, if_neg (by omega), if_pos h1]
theorem pck_2 {nt : Nat} {c : Nat → Int} {k : Nat} (h : pck nt c k = 0) (h1 : 0 ≤ c (2 * k) ∧ c (2 * k) < (nt : Int)) (h2 : ¬ (0 ≤ c (2 * k + 1) ∧ c (2 * k + 1) ≤ 59)) : pck nt c (k + 1) = 2 := by
  rw [pck, if_neg (by omega), if_neg (fun q => q h1), if_pos h2]
theorem pck_0 {nt : Nat} {c : Nat → Int} {k : Nat} (h : pck nt c k = 0) (h1 : 0 ≤ c (2 * k) ∧ c (2 * k) < (nt : Int)) (h2 : 0 ≤ c (2 * k + 1) ∧ c (2 * k + 1) ≤ 59) : pck nt c (k + 1) = 0 := by
  rw [pck, if_neg (by omega), if_neg (fun q => q h1), if_neg (fun q => q h2)]
