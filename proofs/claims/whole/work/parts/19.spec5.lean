/-! ===== the text of a vault, code by code ===== -/
def cz (C : CC) (t : Nat) : Int := (C (t / 60) (t % 60)).toInt
def pgl (P : NN) (c : Int) : Option NN := if (48 ≤ c ∧ c ≤ 57) ∧ P 0 0 < 6 then some (up (up (up P 1 (P 0 0) (c - 48).toNat) 0 0 (P 0 0 + 1)) 0 6 2) else none
def ptk (P : NN) (d : Nat) : NN := up (up (up (up (up P 2 (P 0 1) (P 0 7)) 3 (P 0 1) (P 0 8)) 4 (P 0 1) d) 0 1 (P 0 1 + 1)) 0 6 7
def pst (P : NN) (c : Int) : Option NN :=
  if P 0 6 = 0 then (if c = 118 then some (up P 0 6 1) else none)
  else if P 0 6 = 1 then pgl P c
  else if P 0 6 = 2 then (if c = 59 then some (up P 0 6 3) else pgl P c)
  else if P 0 6 = 3 then (if c = 116 then some (up (up P 0 7 0) 0 6 4) else if c = 115 then some (up (up P 0 7 1) 0 6 4) else if c = 119 then some (up (up P 0 7 2) 0 6 4) else none)
  else if P 0 6 = 4 then (if 48 ≤ c ∧ c ≤ 57 then some (up (up P 0 8 (10 * (c - 48).toNat)) 0 6 5) else none)
  else if P 0 6 = 5 then (if 48 ≤ c ∧ c ≤ 57 then some (up (up P 0 8 (P 0 8 + (c - 48).toNat)) 0 6 6) else none)
  else if P 0 6 = 6 then (if (48 ≤ c ∧ c ≤ 57) ∧ P 0 1 < 5 then some (ptk P (c - 48).toNat) else none)
  else if P 0 6 = 7 then (if c = 47 then some (up P 0 6 8) else if c = 59 ∧ P 0 1 < 5 then some (up P 0 6 3) else none)
  else (if (49 ≤ c ∧ c ≤ 57) ∧ P 0 2 < 5 then some (up (up P 5 (P 0 2) (c - 48).toNat) 0 2 (P 0 2 + 1)) else none)
def prun (C : CC) : Nat → Nat → NN → Nat × NN
  | 0, t, P => (t, P)
  | k + 1, t, P => match pst P (cz C t) with
    | none => (t, P)
    | some P2 => prun C k (t + 1) P2
def P0 : NN := fun _ _ => 0
def nvt (N P : NN) : NN := fun i j =>
  if i = 0 then (if j = 0 then P 0 0 else if j = 1 then P 0 1 else if j = 2 then P 0 2 else if j = 3 then 0 else N 0 j)
  else if i = 1 then (if j < P 0 0 then P 1 j else N 1 j)
  else if i = 2 then (if j < P 0 1 then P 2 j else N 2 j)
  else if i = 3 then (if j < P 0 1 then P 3 j else N 3 j)
  else if i = 4 then (if j < P 0 1 then P 4 j else N 4 j)
  else if i = 5 then (if j < P 0 2 then P 5 j else N 5 j)
  else N i j
def sp_vault (N : NN) (C : CC) (K Q I n : Int) : Int32 × NN × CC :=
  if 0 ≤ K ∧ K ≤ 3 then (if 0 ≤ Q ∧ Q ≤ 2 then
    (if agst N K.toNat Q.toNat I n = 0 then
      (if (prun C n.toNat (60 * K.toNat + I.toNat) P0).1 = 60 * K.toNat + I.toNat + n.toNat ∧ (prun C n.toNat (60 * K.toNat + I.toNat) P0).2 0 6 = 8
        then (nI ((prun C n.toNat (60 * K.toNat + I.toNat) P0).2 0 1), nvt (f0 N) (prun C n.toNat (60 * K.toNat + I.toNat) P0).2, C)
        else (-100 - nI ((prun C n.toNat (60 * K.toNat + I.toNat) P0).1 - (60 * K.toNat + I.toNat)), f0 N, C))
      else (-10 - nI (agst N K.toNat Q.toNat I n), ff N (agst N K.toNat Q.toNat I n), C))
    else (-2, f0 N, C)) else (-1, f0 N, C)
theorem prun_go {C : CC} {e t : Nat} {P P2 : NN} (ht : t < e) (h : pst P (cz C t) = some P2) : prun C (e - t) t P = prun C (e - (t + 1)) (t + 1) P2 := by
  rw [show e - t = (e - (t + 1)) + 1 by omega, prun, h]
def stuck (C : CC) (e t : Nat) (P : NN) : Prop := (t < e → pst P (cz C t) = none) ∧ (t = e → P 0 6 ≠ 8)
theorem prun_end {C : CC} {e t : Nat} {P : NN} (ht : t ≤ e) (h : t < e → pst P (cz C t) = none) : prun C (e - t) t P = (t, P) := by
  rcases Nat.lt_or_ge t e with q | q
  · rw [show e - t = (e - (t + 1)) + 1 by omega, prun, h q]
  · rw [show e - t = 0 by omega, prun]
def PG (g : Nat → Nat → Int32) (P : NN) : Prop := ∀ j, j < P 0 0 → g 17 j = nI (P 1 j) ∧ P 1 j ≤ 9
def PT (g : Nat → Nat → Int32) (P : NN) : Prop := ∀ j, j < P 0 1 → g 18 j = nI (P 2 j) ∧ g 19 j = nI (P 3 j) ∧ g 20 j = nI (P 4 j) ∧ P 2 j ≤ 2 ∧ P 3 j ≤ 99 ∧ P 4 j ≤ 9
def PD (g : Nat → Nat → Int32) (P : NN) : Prop := ∀ j, j < P 0 2 → g 21 j = nI (P 5 j) ∧ P 5 j ≤ 9
theorem pst1 {P : NN} {c : Int} (h : P 0 6 = 1) : pst P c = pgl P c := by simp [pst, h]
theorem pst2 {P : NN} {c : Int} (h : P 0 6 = 2) (hc : c ≠ 59) : pst P c = pgl P c := by simp [pst, h, hc]
theorem pst2s {P : NN} (h : P 0 6 = 2) : pst P 59 = some (up P 0 6 3) := by simp [pst, h]
theorem pst0 {P : NN} (h : P 0 6 = 0) : pst P 118 = some (up P 0 6 1) := by simp [pst, h]
theorem pst0n {P : NN} {c : Int} (h : P 0 6 = 0) (hc : c ≠ 118) : pst P c = none := by simp [pst, h, hc]
theorem pst3t {P : NN} (h : P 0 6 = 3) : pst P 116 = some (up (up P 0 7 0) 0 6 4) := by simp [pst, h]
theorem pst3s {P : NN} (h : P 0 6 = 3) : pst P 115 = some (up (up P 0 7 1) 0 6 4) := by simp [pst, h]
theorem pst3w {P : NN} (h : P 0 6 = 3) : pst P 119 = some (up (up P 0 7 2) 0 6 4) := by simp [pst, h]
theorem pst3n {P : NN} {c : Int} (h : P 0 6 = 3) (h1 : c ≠ 116) (h2 : c ≠ 115) (h3 : c ≠ 119) : pst P c = none := by simp [pst, h, h1, h2, h3]
theorem pst4 {P : NN} {c : Int} (h : P 0 6 = 4) (hc : 48 ≤ c ∧ c ≤ 57) : pst P c = some (up (up P 0 8 (10 * (c - 48).toNat)) 0 6 5) := by simp [pst, h, hc]
theorem pst4n {P : NN} {c : Int} (h : P 0 6 = 4) (hc : ¬ (48 ≤ c ∧ c ≤ 57)) : pst P c = none := by simp [pst, h]; omega
theorem pst5 {P : NN} {c : Int} (h : P 0 6 = 5) (hc : 48 ≤ c ∧ c ≤ 57) : pst P c = some (up (up P 0 8 (P 0 8 + (c - 48).toNat)) 0 6 6) := by simp [pst, h, hc]
theorem pst5n {P : NN} {c : Int} (h : P 0 6 = 5) (hc : ¬ (48 ≤ c ∧ c ≤ 57)) : pst P c = none := by simp [pst, h]; omega
theorem pst6 {P : NN} {c : Int} (h : P 0 6 = 6) (hc : (48 ≤ c ∧ c ≤ 57) ∧ P 0 1 < 5) : pst P c = some (ptk P (c - 48).toNat) := by simp [pst, h, hc]
theorem pst6n {P : NN} {c : Int} (h : P 0 6 = 6) (hc : ¬ (48 ≤ c ∧ c ≤ 57)) : pst P c = none := by simp [pst, h]; omega
theorem pst7g {P : NN} (h : P 0 6 = 7) : pst P 47 = some (up P 0 6 8) := by simp [pst, h]
theorem pst7s {P : NN} (h : P 0 6 = 7) (hc : P 0 1 < 5) : pst P 59 = some (up P 0 6 3) := by simp [pst, h, hc]
theorem pst7n {P : NN} {c : Int} (h : P 0 6 = 7) (h1 : c ≠ 47) (h2 : ¬ (c = 59 ∧ P 0 1 < 5)) : pst P c = none := by simp [pst, h, h1]; omega
theorem pst8 {P : NN} {c : Int} (h : P 0 6 = 8) (hc : (49 ≤ c ∧ c ≤ 57) ∧ P 0 2 < 5) : pst P c = some (up (up P 5 (P 0 2) (c - 48).toNat) 0 2 (P 0 2 + 1)) := by simp [pst, h, hc]
theorem pst8n {P : NN} {c : Int} (h : P 0 6 = 8) (hc : ¬ ((49 ≤ c ∧ c ≤ 57) ∧ P 0 2 < 5)) : pst P c = none := by simp [pst, h]; omega
theorem pgl_s {P : NN} {c : Int} (hc : (48 ≤ c ∧ c ≤ 57) ∧ P 0 0 < 6) : pgl P c = some (up (up (up P 1 (P 0 0) (c - 48).toNat) 0 0 (P 0 0 + 1)) 0 6 2) := if_pos hc
theorem pgl_n {P : NN} {c : Int} (hc : ¬ ((48 ≤ c ∧ c ≤ 57) ∧ P 0 0 < 6)) : pgl P c = none := if_neg hc
def fl (N P : NN) (r b : Nat) : NN := fun i => if i = r then (fun j => if j < b then P r j else N r j) else N i
theorem fl_0 (N P : NN) (r : Nat) : fl N P r 0 = N := by
  funext i j
  unfold fl
  by_cases h : i = r
  · rw [if_pos h, if_neg (by omega), h]
  · rw [if_neg h]
theorem fl_s (N P : NN) (r b : Nat) : up (fl N P r b) r b (P r b) = fl N P r (b + 1) := by
  funext i j
  unfold up upN fl
  by_cases h : i = r
  · subst h
    rw [if_pos rfl, if_pos rfl, if_pos rfl]
    by_cases h2 : j = b
    · rw [if_pos h2, if_pos (by omega), h2]
    · rw [if_neg h2]
      by_cases h3 : j < b
      · rw [if_pos h3, if_pos (by omega)]
      · rw [if_neg h3, if_neg (by omega)]
  · rw [if_neg h, if_neg h]; rw [if_neg h]
