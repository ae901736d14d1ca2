/-! ===== what is taken of a text ===== -/
def fl3 (N P : NN) (b : Nat) : NN := fun i => if i = 2 then (fun j => if j < b then P 2 j else N 2 j) else if i = 3 then (fun j => if j < b then P 3 j else N 3 j) else if i = 4 then (fun j => if j < b then P 4 j else N 4 j) else N i
theorem fl3_0 (N P : NN) : fl3 N P 0 = N := by
  funext i j
  unfold fl3
  by_cases h2 : i = 2
  · subst h2; simp
  · by_cases h3 : i = 3
    · subst h3; simp
    · by_cases h4 : i = 4
      · subst h4; simp
      · simp [h2, h3, h4]
theorem lt_b {b j : Nat} {x : Nat} {u : Nat → Nat} : (if j = b then u b else if j < b then u j else x) = (if j < b + 1 then u j else x) := by
  by_cases h : j = b
  · subst h
    rw [if_pos rfl, if_pos (by omega)]
  · rw [if_neg h]
    by_cases h2 : j < b
    · rw [if_pos h2, if_pos (by omega)]
    · rw [if_neg h2, if_neg (by omega)]
theorem fl3_s (N P : NN) (b : Nat) : up (up (up (fl3 N P b) 2 b (P 2 b)) 3 b (P 3 b)) 4 b (P 4 b) = fl3 N P (b + 1) := by
  funext i j
  by_cases h2 : i = 2
  · subst h2
    show (if j = b then P 2 b else if j < b then P 2 j else N 2 j) = (if j < b + 1 then P 2 j else N 2 j)
    exact lt_b
  · by_cases h3 : i = 3
    · subst h3
      show (if j = b then P 3 b else if j < b then P 3 j else N 3 j) = (if j < b + 1 then P 3 j else N 3 j)
      exact lt_b
    · by_cases h4 : i = 4
      · subst h4
        show (if j = b then P 4 b else if j < b then P 4 j else N 4 j) = (if j < b + 1 then P 4 j else N 4 j)
        exact lt_b
      · simp [up, fl3, h2, h3, h4]
theorem nvt_eq (N P : NN) : up (fl (up (fl3 (up (fl (up N 0 0 (P 0 0)) P 1 (P 0 0)) 0 1 (P 0 1)) P (P 0 1)) 0 2 (P 0 2)) P 5 (P 0 2)) 0 3 0 = nvt N P := by
  funext i j
  rcases i with _ | _ | _ | _ | _ | _ | i
  · show (if j = 3 then 0 else if j = 2 then P 0 2 else if j = 1 then P 0 1 else if j = 0 then P 0 0 else N 0 j) = (if j = 0 then P 0 0 else if j = 1 then P 0 1 else if j = 2 then P 0 2 else if j = 3 then 0 else N 0 j)
    by_cases h0 : j = 0
    · subst h0; rfl
    · by_cases h1 : j = 1
      · subst h1; rfl
      · by_cases h2 : j = 2
        · subst h2; rfl
        · by_cases h3 : j = 3
          · subst h3; rfl
          · simp [h0, h1, h2, h3]
  · rfl
  · rfl
  · rfl
  · rfl
  · rfl
  · simp [up, fl, fl3, nvt]
theorem WF_nvt {N P : NN} (h : WF N) (h0 : 1 ≤ P 0 0 ∧ P 0 0 ≤ 6) (h1 : P 0 1 ≤ 5) (h2 : P 0 2 ≤ 5) (hg : ∀ j, j < P 0 0 → P 1 j ≤ 9) (ht : ∀ j, j < P 0 1 → P 2 j ≤ 2 ∧ P 3 j ≤ 99 ∧ P 4 j ≤ 9) (hd : ∀ j, j < P 0 2 → P 5 j ≤ 9) : WF (nvt N P) := by
  obtain ⟨⟨a1, a2, a3, a4, a5, a6, a7⟩, b1, b2, b3, b4, b5, b6, b7, b8, b9, b10⟩ := h
  refine ⟨⟨h0.2, h1, h2, Nat.zero_le _, a5, fun _ => h0.1, a7⟩, fun j => ?_, fun j => ?_, fun j => ?_, fun j => ?_, fun j => ?_, fun j hj => absurd hj (Nat.not_lt_zero _), b7, b8, b9, b10⟩
  · show (if j < P 0 0 then P 1 j else N 1 j) ≤ 9
    split
    · exact hg j (by assumption)
    · exact b1 j
  · show (if j < P 0 1 then P 2 j else N 2 j) ≤ 2
    split
    · exact (ht j (by assumption)).1
    · exact b2 j
  · show (if j < P 0 1 then P 3 j else N 3 j) ≤ 99
    split
    · exact (ht j (by assumption)).2.1
    · exact b3 j
  · show (if j < P 0 1 then P 4 j else N 4 j) ≤ 9
    split
    · exact (ht j (by assumption)).2.2
    · exact b4 j
  · show (if j < P 0 2 then P 5 j else N 5 j) ≤ 9
    split
    · exact hd j (by assumption)
    · exact b5 j
theorem upd_in {f : Nat → Int32} {u : Nat → Nat} {q v j : Nat} {x : Int32} (hx : x = nI v) (hj : j < q + 1) (h : j < q → f j = nI (u j)) : upd f q x j = nI (upN u q v j) := by
  unfold upd upN
  by_cases e : j = q
  · rw [if_pos e, if_pos e, hx]
  · rw [if_neg e, if_neg e]; exact h (by omega)
theorem upN_in {u : Nat → Nat} {q v j b : Nat} (hv : v ≤ b) (hj : j < q + 1) (h : j < q → u j ≤ b) : upN u q v j ≤ b := by
  unfold upN
  by_cases e : j = q
  · rw [if_pos e]; exact hv
  · rw [if_neg e]; exact h (by omega)
theorem agst_lt (N : NN) (k q : Nat) (I n : Int) : agst N k q I n < 5 := by
  unfold agst
  (repeat' split) <;> decide
theorem agst_0 {N : NN} {k q : Nat} {I n : Int} (h : agst N k q I n = 0) : 0 ≤ I ∧ I ≤ (N 10 k : Int) ∧ 0 ≤ n ∧ n ≤ (N 10 k : Int) - I := by
  unfold agst at h
  split at h
  · cases h
  · split at h
    · cases h
    · split at h
      · cases h
      · split at h
        · cases h
        · omega
theorem sp_vault_ok {N : NN} {C : CC} {k q i n t : Nat} {P : NN} (hk : k < 4) (hq : q < 3) (h : agst N k q (i : Int) (n : Int) = 0) (hpr : prun C n (60 * k + i) P0 = (t, P)) : sp_vault N C (k : Int) (q : Int) (i : Int) (n : Int) = (if t = 60 * k + i + n ∧ P 0 6 = 8 then (nI (P 0 1), nvt (f0 N) P, C) else (-100 - nI (t - (60 * k + i)), f0 N, C)) := by
  unfold sp_vault
  rw [if_pos (by omega), if_pos (by omega)]
  show (if agst N k q (i : Int) (n : Int) = 0 then (if (prun C n (60 * k + i) P0).1 = 60 * k + i + n ∧ (prun C n (60 * k + i) P0).2 0 6 = 8 then (nI ((prun C n (60 * k + i) P0).2 0 1), nvt (f0 N) (prun C n (60 * k + i) P0).2, C) else (-100 - nI ((prun C n (60 * k + i) P0).1 - (60 * k + i)), f0 N, C)) else (-10 - nI (agst N k q (i : Int) (n : Int)), ff N (agst N k q (i : Int) (n : Int)), C)) = _
  rw [if_pos h, hpr]
