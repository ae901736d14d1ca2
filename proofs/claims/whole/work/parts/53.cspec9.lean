/-! ===== odds: the sets that keep their weight, the sets that lose it ===== -/
theorem cntA_congr {P Q : Nat → Bool} : ∀ {n : Nat}, (∀ s, s < n → P s = Q s) → cntA P n = cntA Q n
  | 0, _ => rfl
  | n + 1, h => by
    rw [cntA, cntA, cntA_congr (n := n) (fun s hs => h s (Nat.lt_succ_of_lt hs)), h n (Nat.lt_succ_self n)]
theorem cntA_shift (P : Nat → Bool) : ∀ n, cntA P (n + 1) = (if P 0 then 1 else 0) + cntA (fun s => P (s + 1)) n
  | 0 => by simp [cntA]
  | n + 1 => by
    rw [cntA, cntA_shift P n, cntA]
    omega
theorem cntA_rev : ∀ (n : Nat) (P : Nat → Bool), cntA P n = cntA (fun s => P (n - 1 - s)) n
  | 0, P => rfl
  | n + 1, P => by
    rw [cntA_shift, cntA_rev n (fun s => P (s + 1)), cntA]
    have e : cntA (fun s => P (n - 1 - s + 1)) n = cntA (fun s => P (n + 1 - 1 - s)) n := cntA_congr (fun s hs => by rw [show n - 1 - s + 1 = n + 1 - 1 - s by omega])
    show (if P 0 then 1 else 0) + cntA (fun s => P (n - 1 - s + 1)) n = cntA (fun s => P (n + 1 - 1 - s)) n + (if P (n + 1 - 1 - n) then 1 else 0)
    rw [e, show n + 1 - 1 - n = 0 by omega]
    omega
theorem cmp_bit : ∀ p, p < 7 → ∀ s, s < 2 ^ p → ∀ i, i < p → ((2 ^ p - 1 - s) / 2 ^ i % 2 = 1 ↔ ¬ s / 2 ^ i % 2 = 1) := by decide +kernel
theorem di_sum {N : NN} {s j : Nat} : ∀ t, di N s j t = dsum (fun m => dr0 (N 2 j) (if s / 2 ^ (m % N 0 0) % 2 = 1 then N 1 (m % N 0 0) else 0) (N 4 j)) 0 t
  | 0 => rfl
  | t + 1 => by
    rw [di, dsum, di_sum t, Nat.zero_add]
theorem dsum_congr {f g : Nat → Nat} {m : Nat} : ∀ {t : Nat}, (∀ i, f i = g i) → dsum f m t = dsum g m t
  | 0, _ => rfl
  | t + 1, h => by rw [dsum, dsum, dsum_congr h, h]
theorem sets_ocnt {N : NN} {j n : Nat} (hp : N 0 0 ≤ 6) (hp0 : 0 < N 0 0) (hn : n ≤ 40) : cntA (fun s => decide (di N s j n ≤ N 3 j)) (2 ^ N 0 0) = ocnt N j n := by
  unfold ocnt
  rw [cntA_rev (2 ^ N 0 0) (fun s => decide (n ≤ hld (up N 0 5 s) j 0 1))]
  apply cntA_congr
  intro s hs
  show decide (di N s j n ≤ N 3 j) = decide (n ≤ hld (up N 0 5 (2 ^ N 0 0 - 1 - s)) j 0 1)
  apply decide_eq_decide.mpr
  have h1 := hol_ge (dr := fun t => drn (up N 0 5 (2 ^ N 0 0 - 1 - s)) j t / 1) (k := 40) (n := n) (m := 0) (left := N 3 j) hn
  have h2 : hld (up N 0 5 (2 ^ N 0 0 - 1 - s)) j 0 1 = hol (fun t => drn (up N 0 5 (2 ^ N 0 0 - 1 - s)) j t / 1) 40 0 (N 3 j) := rfl
  rw [h2, h1, di_sum]
  have e : dsum (fun m => dr0 (N 2 j) (if s / 2 ^ (m % N 0 0) % 2 = 1 then N 1 (m % N 0 0) else 0) (N 4 j)) 0 n = dsum (fun t => drn (up N 0 5 (2 ^ N 0 0 - 1 - s)) j t / 1) 0 n := by
    apply dsum_congr
    intro i
    rw [Nat.div_one]
    show _ = dr0 (N 2 j) (if (2 ^ N 0 0 - 1 - s) / 2 ^ (i % N 0 0) % 2 = 1 then 0 else N 1 (i % N 0 0)) (N 4 j)
    have hb := cmp_bit (N 0 0) (by omega) s hs (i % N 0 0) (Nat.mod_lt _ hp0)
    by_cases c : s / 2 ^ (i % N 0 0) % 2 = 1
    · rw [if_pos c, if_neg (fun q => hb.mp q c)]
    · rw [if_neg c, if_pos (hb.mpr c)]
  rw [e]
