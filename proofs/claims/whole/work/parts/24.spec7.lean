/-! ===== a night that is told ===== -/
def fw (w : Nat → Bool) : Nat → Option Nat
  | 0 => none
  | n + 1 => match fw w n with
    | some p => some p
    | none => if w n then some n else none
theorem fw_t {w : Nat → Bool} {n : Nat} (h : fw w n = none) (hw : w n = true) : ∀ m, n < m → fw w m = some n
  | 0, q => absurd q (Nat.not_lt_zero _)
  | m + 1, q => by
    rcases Nat.lt_or_ge n m with q1 | q1
    · rw [fw, fw_t h hw m q1]
    · have : m = n := by omega
      subst this
      rw [fw, h]
      simp [hw]
theorem fw_f {w : Nat → Bool} {n : Nat} (h : fw w n = none) (hw : w n = false) : fw w (n + 1) = none := by
  rw [fw, h]
  simp [hw]
theorem fw_no {w : Nat → Bool} : ∀ {n : Nat}, fw w n = none → ∀ p, p < n → w p = false
  | 0, _, p, q => absurd q (Nat.not_lt_zero _)
  | n + 1, h, p, q => by
    rw [fw] at h
    cases hf : fw w n with
    | some x => rw [hf] at h; cases h
    | none =>
      rw [hf] at h
      have hn : w n = false := by
        cases hwn : w n with
        | false => rfl
        | true => simp [hwn] at h
      rcases Nat.lt_or_ge p n with q1 | q1
      · exact fw_no hf p q1
      · have : p = n := by omega
        subst this
        exact hn
theorem fw_lt {w : Nat → Bool} {p : Nat} : ∀ {n : Nat}, fw w n = some p → p < n
  | 0, h => by cases h
  | n + 1, h => by
    rw [fw] at h
    cases hf : fw w n with
    | some x =>
      rw [hf] at h
      cases h
      exact Nat.lt_succ_of_lt (fw_lt hf)
    | none =>
      rw [hf] at h
      simp only [] at h
      split at h
      · cases h; exact Nat.lt_succ_self _
      · cases h
/-- does q, of those ahead of p, hold p out: the same taker, still in -/
def stl (A M H : Nat → Nat) (p : Nat) : Nat → Bool
  | 0 => false
  | q + 1 => stl A M H p q || (decide (A q = A p) && decide (M p < M q + H q))
theorem stl_t {A M H : Nat → Nat} {p q : Nat} (h : A q = A p) (h2 : M p < M q + H q) : ∀ {k : Nat}, q < k → stl A M H p k = true
  | 0, h1 => absurd h1 (Nat.not_lt_zero _)
  | k + 1, h1 => by
    unfold stl
    rcases Nat.lt_or_ge q k with h3 | h3
    · rw [stl_t h h2 h3]; rfl
    · have : q = k := by omega
      subst this
      simp [h, h2]
theorem stl_f {A M H : Nat → Nat} {p : Nat} : ∀ {k : Nat}, (∀ q, q < k → A q = A p → M q + H q ≤ M p) → stl A M H p k = false
  | 0, _ => rfl
  | k + 1, h => by
    unfold stl
    rw [stl_f (fun q h1 => h q (Nat.lt_succ_of_lt h1))]
    have := h k (Nat.lt_succ_self k)
    by_cases e : A k = A p
    · have := this e
      simp [e]; omega
    · simp [e]
theorem stl_no {A M H : Nat → Nat} {p q : Nat} : ∀ {k : Nat}, stl A M H p k = false → q < k → A q = A p → M q + H q ≤ M p := by
  intro k h h1 h2
  rcases Nat.lt_or_ge (M p) (M q + H q) with h3 | h3
  · rw [stl_t h2 h3 h1] at h; cases h
  · exact h3
def wrg (A M H : Nat → Nat) (p : Nat) : Bool := (decide (0 < p) && decide (M p < M (p - 1))) || stl A M H p p
/-- when the taker's last one came out -/
def co (A M H : Nat → Nat) : Nat → Nat → Nat
  | 0, _ => 0
  | k + 1, a => if A k = a then M k + H k else co A M H k a
theorem co_ge {A M H : Nat → Nat} : ∀ {k : Nat}, fw (wrg A M H) k = none → ∀ q, q < k → M q + H q ≤ co A M H k (A q)
  | 0, _, q, h => absurd h (Nat.not_lt_zero _)
  | k + 1, hf, q, h => by
    have hk : fw (wrg A M H) k = none := by
      cases hh : fw (wrg A M H) k with
      | none => rfl
      | some x => rw [fw, hh] at hf; cases hf
    have hwk := fw_no hf k (Nat.lt_succ_self k)
    have hst : stl A M H k k = false := by
      unfold wrg at hwk
      exact (Bool.or_eq_false_iff.mp hwk).2
    unfold co
    rcases Nat.lt_or_ge q k with h1 | h1
    · by_cases e : A k = A q
      · rw [if_pos e]
        have := stl_no hst h1 e.symm
        omega
      · rw [if_neg e]
        exact co_ge hk q h1
    · have : q = k := by omega
      subst this
      rw [if_pos rfl]
      exact Nat.le_refl _
theorem co_or {A M H : Nat → Nat} (a : Nat) : ∀ (k : Nat), co A M H k a = 0 ∨ ∃ q, q < k ∧ A q = a ∧ co A M H k a = M q + H q
  | 0 => Or.inl rfl
  | k + 1 => by
    unfold co
    by_cases e : A k = a
    · exact Or.inr ⟨k, Nat.lt_succ_self k, e, if_pos e⟩
    · rw [if_neg e]
      rcases co_or a k with h | ⟨q, h1, h2, h3⟩
      · exact Or.inl h
      · exact Or.inr ⟨q, Nat.lt_succ_of_lt h1, h2, h3⟩
theorem co_lt {A M H : Nat → Nat} {k : Nat} (hf : fw (wrg A M H) k = none) : M k < co A M H k (A k) ↔ stl A M H k k = true := by
  constructor
  · intro h
    rcases co_or (A := A) (M := M) (H := H) (A k) k with h1 | ⟨q, h1, h2, h3⟩
    · omega
    · exact stl_t h2 (by omega) h1
  · intro h
    rcases Nat.lt_or_ge (M k) (co A M H k (A k)) with h1 | h1
    · exact h1
    · rw [stl_f (fun q h2 h3 => by have := co_ge hf q h2; rw [h3] at this; omega)] at h
      cases h
theorem co_le {A M H : Nat → Nat} {a b : Nat} : ∀ {k : Nat}, (∀ q, q < k → M q + H q ≤ b) → co A M H k a ≤ b
  | 0, _ => Nat.zero_le _
  | k + 1, h => by
    unfold co
    split
    · exact h k (Nat.lt_succ_self k)
    · exact co_le (fun q hq => h q (Nat.lt_succ_of_lt hq))
def smA (H : Nat → Nat) : Nat → Nat
  | 0 => 0
  | k + 1 => smA H k + H k
def smI (A H : Nat → Nat) (a : Nat) : Nat → Nat
  | 0 => 0
  | k + 1 => smI A H a k + (if A k = a then H k else 0)
def mxE (f : Nat → Nat) : Nat → Nat
  | 0 => 0
  | k + 1 => max (mxE f k) (f k)
theorem mxE_le {f : Nat → Nat} {b : Nat} : ∀ {k : Nat}, (∀ q, q < k → f q ≤ b) → mxE f k ≤ b
  | 0, _ => Nat.zero_le _
  | k + 1, h => by
    unfold mxE
    exact Nat.max_le.mpr ⟨mxE_le (fun q hq => h q (Nat.lt_succ_of_lt hq)), h k (Nat.lt_succ_self k)⟩
theorem mxE_ge {f : Nat → Nat} {q : Nat} : ∀ {k : Nat}, q < k → f q ≤ mxE f k
  | 0, h => absurd h (Nat.not_lt_zero _)
  | k + 1, h => by
    unfold mxE
    rcases Nat.lt_or_ge q k with h1 | h1
    · exact Nat.le_trans (mxE_ge h1) (Nat.le_max_left _ _)
    · have : q = k := by omega
      subst this
      exact Nat.le_max_right _ _
def lat (M H : Nat → Nat) (k : Nat) : Int32 := if k = 0 then -9 else nI (mxE (fun p => M p + H p) k)
def ins (M H : Nat → Nat) (t : Nat) : Nat → Nat
  | 0 => 0
  | k + 1 => ins M H t k + (if M k ≤ t ∧ t < M k + H k then 1 else 0)
theorem ins_le (M H : Nat → Nat) (t : Nat) : ∀ k, ins M H t k ≤ k
  | 0 => Nat.le_refl _
  | k + 1 => by
    have := ins_le M H t k
    unfold ins
    split <;> omega
theorem smA_le {H : Nat → Nat} {b : Nat} (h : ∀ p, H p ≤ b) : ∀ k, smA H k ≤ k * b
  | 0 => by simp [smA]
  | k + 1 => by
    have := smA_le h k
    have := h k
    unfold smA
    rw [Nat.succ_mul]
    omega
theorem smI_le {A H : Nat → Nat} {b : Nat} (h : ∀ p, H p ≤ b) (a : Nat) : ∀ k, smI A H a k ≤ k * b
  | 0 => by simp [smI]
  | k + 1 => by
    have := smI_le (A := A) h a k
    have := h k
    unfold smI
    rw [Nat.succ_mul]
    split <;> omega
def mst (M H : Nat → Nat) (n : Nat) : Nat := mxE (fun t => ins M H t n) 100
/-- of pairs: 0 all are, 1 no taker, 2 no minute: the first's that is none -/
def pck (nt : Nat) (c : Nat → Int) : Nat → Nat
  | 0 => 0
  | k + 1 => if pck nt c k ≠ 0 then pck nt c k else if ¬ (0 ≤ c (2 * k) ∧ c (2 * k) < (nt : Int)) then 1 else if ¬ (0 ≤ c (2 * k + 1) ∧ c (2 * k + 1) ≤ 59) then 2 else 0
theorem pck_bad {nt : Nat} {c : Nat → Int} {k v : Nat} (h : pck nt c k = v) (hv : v ≠ 0) : ∀ m, k ≤ m → pck nt c m = v
  | 0, q => by
    have : k = 0 := by omega
    subst this; exact h
  | m + 1, q => by
    rcases Nat.lt_or_ge k (m + 1) with q1 | q1
    · unfold pck
      rw [pck_bad h hv m (by omega), if_pos hv]
    · have : k = m + 1 := by omega
      subst this; exact h
theorem pck_ok {nt : Nat} {c : Nat → Int} : ∀ {k : Nat}, pck nt c k = 0 → ∀ p, p < k → (0 ≤ c (2 * p) ∧ c (2 * p) < (nt : Int)) ∧ (0 ≤ c (2 * p + 1) ∧ c (2 * p + 1) ≤ 59)
  | 0, _, p, q => absurd q (Nat.not_lt_zero _)
  | k + 1, h, p, q => by
    unfold pck at h
    split at h
    · next h1 => exact absurd h h1
    · next h1 =>
      split at h
      · cases h
      · next h2 =>
        split at h
        · cases h
        · next h3 =>
          rcases Nat.lt_or_ge p k with q1 | q1
          · exact pck_ok (Decidable.not_not.mp h1) p q1
          · have : p = k := by omega
            subst this
            exact ⟨Decidable.not_not.mp h2, Decidable.not_not.mp h3⟩
def nAns (nt : Nat) (A M H : Nat → Nat) (n : Nat) (w : Int) : Int32 := if w = 0 then nI (smA H n) else if w = 2 then lat M H n else if w = 3 then nI (mst M H n) else if (w - 10).toNat < nt then nI (smI A H (w - 10).toNat n) else -9
def nightA (N : NN) (A M : Nat → Nat) (n : Nat) (w : Int) : Int32 := if w = 1 then fno (fw (wrg A M (fun p => hld N (A p) (M p) 1)) n) else match fw (wrg A M (fun p => hld N (A p) (M p) 1)) n with
  | some p => -100 - nI p
  | none => nAns (N 0 1) A M (fun p => hld N (A p) (M p) 1) n w
def okW (w : Int) : Prop := (0 ≤ w ∧ w ≤ 3) ∨ (10 ≤ w ∧ w ≤ 14)
def sp_night (N : NN) (C : CC) (K Q I n w : Int) : Int32 × NN × CC :=
  if 0 ≤ K ∧ K ≤ 3 then (if (0 ≤ Q ∧ Q ≤ 2) ∧ (0 ≤ n ∧ n ≤ 20) ∧ ((0 ≤ w ∧ w ≤ 3) ∨ (10 ≤ w ∧ w ≤ 14)) then
    (if agst N K.toNat Q.toNat I (2 * n) = 0 then
      (if N 0 1 = 0 then (-3, f0 N, C)
       else if pck (N 0 1) (fun j => cz C (60 * K.toNat + I.toNat + j)) n.toNat = 1 then (-1, f0 N, C)
       else if pck (N 0 1) (fun j => cz C (60 * K.toNat + I.toNat + j)) n.toNat = 2 then (-2, f0 N, C)
       else (nightA N (fun p => (cz C (60 * K.toNat + I.toNat + 2 * p)).toNat) (fun p => (cz C (60 * K.toNat + I.toNat + (2 * p + 1))).toNat) n.toNat w, f0 N, C))
      else (-10 - nI (agst N K.toNat Q.toNat I (2 * n)), ff N (agst N K.toNat Q.toNat I (2 * n)), C))
    else (-2, f0 N, C)) else (-1, f0 N, C)
theorem hld_f0 (N : NN) (a m p v : Nat) : hld (up N 0 4 v) a m p = hld N a m p := rfl
theorem upd_c {f : Nat → Int32} {q a : Nat} {x : Int32} (ha : a < q + 1) (h : a < q → f a = x) : upd f q x a = x := by
  unfold upd
  by_cases e : a = q
  · rw [if_pos e]
  · rw [if_neg e]; exact h (by omega)
theorem lat_T {M H : Nat → Nat} {k : Nat} (h : mxE (fun p => M p + H p) k < 2147483648) : (lat M H k).toInt = (if k = 0 then (-9 : Int) else ((mxE (fun p => M p + H p) k : Nat) : Int)) := by
  unfold lat
  split
  · exact ng9
  · exact nT h
theorem lat_up {M H : Nat → Nat} {k : Nat} (h : (if k = 0 then (-9 : Int) else ((mxE (fun p => M p + H p) k : Nat) : Int)) < ((M k + H k : Nat) : Int)) : lat M H (k + 1) = nI (M k + H k) := by
  unfold lat
  rw [if_neg (by omega), mxE]
  by_cases e : k = 0
  · subst e; rw [mxE, Nat.max_eq_right (by omega)]
  · rw [if_neg e] at h
    rw [Nat.max_eq_right (by omega)]
theorem lat_keep {M H : Nat → Nat} {k : Nat} (h : ((M k + H k : Nat) : Int) ≤ (if k = 0 then (-9 : Int) else ((mxE (fun p => M p + H p) k : Nat) : Int))) : lat M H (k + 1) = lat M H k := by
  unfold lat
  by_cases e : k = 0
  · rw [if_pos e] at h; omega
  · rw [if_neg e] at h
    rw [if_neg (by omega), if_neg e, mxE, Nat.max_eq_left (by omega)]
theorem co_upd {A M H : Nat → Nat} {f : Nat → Int32} {k a : Nat} (ha : a < 5) (h : ∀ a, a < 5 → f a = nI (co A M H k a)) : upd f (A k) (nI (M k + H k)) a = nI (co A M H (k + 1) a) := by
  unfold upd co
  by_cases e : a = A k
  · rw [if_pos e, if_pos e.symm]
  · rw [if_neg e, if_neg (fun q => e q.symm)]; exact h a ha
theorem smI_upd {A H : Nat → Nat} {f : Nat → Int32} {k a : Nat} (ha : a < 5) (h : ∀ a, a < 5 → f a = nI (smI A H a k)) : upd f (A k) (nI (smI A H (A k) k + H k)) a = nI (smI A H a (k + 1)) := by
  rw [smI]
  unfold upd
  by_cases e : a = A k
  · subst e; rw [if_pos rfl, if_pos rfl]
  · rw [if_neg e, if_neg (fun q => e q.symm), Nat.add_zero]; exact h a ha
theorem ins_upd {M H : Nat → Nat} {f : Nat → Int32} {k t s : Nat} (ht : M k ≤ t) (hs : s < 100) (h : ∀ s, s < 100 → f s = nI (ins M H s k + (if M k ≤ s ∧ s < t then 1 else 0))) : upd f t (nI (ins M H t k + 0 + 1)) s = nI (ins M H s k + (if M k ≤ s ∧ s < t + 1 then 1 else 0)) := by
  unfold upd
  by_cases e : s = t
  · subst e
    rw [if_pos rfl, if_pos (by omega), Nat.add_zero]
  · rw [if_neg e, h s hs]
    by_cases c : M k ≤ s ∧ s < t
    · rw [if_pos c, if_pos (by omega)]
    · rw [if_neg c, if_neg (by omega)]
