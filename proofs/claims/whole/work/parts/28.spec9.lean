/-! ===== whom to send ===== -/
def mxg (o : Nat → Option Nat) : Nat → Nat → Nat
  | 0, b => b
  | g + 1, b => match o g with
    | none => mxg o g b
    | some v => max (mxg o g b) v
def fdx (p : Nat → Bool) : Nat → Nat
  | 0 => 0
  | n + 1 => if fdx p n < n then fdx p n else if p n then n else n + 1
theorem fdx_le (p : Nat → Bool) : ∀ n, fdx p n ≤ n
  | 0 => Nat.le_refl _
  | n + 1 => by
    have := fdx_le p n
    unfold fdx
    (repeat' split) <;> omega
theorem fdx_yes {p : Nat → Bool} : ∀ {n : Nat}, fdx p n < n → p (fdx p n) = true
  | 0, h => absurd h (Nat.not_lt_zero _)
  | n + 1, h => by
    unfold fdx at h ⊢
    by_cases c : fdx p n < n
    · rw [if_pos c]; exact fdx_yes c
    · rw [if_neg c] at h ⊢
      by_cases c2 : p n = true
      · rw [if_pos c2]; exact c2
      · rw [if_neg c2] at h; omega
theorem fdx_no {p : Nat → Bool} {k : Nat} : ∀ {n : Nat}, k < fdx p n → p k = false
  | 0, h => absurd h (Nat.not_lt_zero _)
  | n + 1, h => by
    unfold fdx at h
    by_cases c : fdx p n < n
    · rw [if_pos c] at h; exact fdx_no h
    · rw [if_neg c] at h
      have e : fdx p n = n := Nat.le_antisymm (fdx_le p n) (Nat.le_of_not_lt c)
      by_cases c2 : p n = true
      · rw [if_pos c2] at h
        exact fdx_no (n := n) (by omega)
      · rw [if_neg c2] at h
        rcases Nat.lt_or_ge k n with h1 | h1
        · exact fdx_no (n := n) (by omega)
        · have : k = n := by omega
          subst this
          exact Bool.eq_false_iff.mpr c2
theorem fdx_first {p : Nat → Bool} {k n : Nat} (h1 : k < n) (h2 : p k = true) (h3 : ∀ j, j < k → p j = false) : fdx p n = k := by
  have hle := fdx_le p n
  rcases Nat.lt_trichotomy (fdx p n) k with h | h | h
  · have := fdx_yes (p := p) (n := n) (by omega)
    rw [h3 _ h] at this
    cases this
  · exact h
  · rw [fdx_no h] at h2
    cases h2
theorem fdx_none {p : Nat → Bool} {n : Nat} (h3 : ∀ j, j < n → p j = false) : fdx p n = n := by
  have hle := fdx_le p n
  rcases Nat.lt_or_ge (fdx p n) n with h | h
  · have := fdx_yes h
    rw [h3 _ h] at this
    cases this
  · omega
def opt (can dp : Nat → Nat) (a tk : Nat) (b : Nat → Nat) (g : Nat) : Option Nat := if can a / 2 ^ g % 2 = 1 ∧ tk / 2 ^ g % 2 = 0 then some (dp g + b (tk ||| 2 ^ g)) else none
def bsv (can dp : Nat → Nat) (ng : Nat) : Nat → Nat → Nat → Nat
  | 0, _, _ => 0
  | r + 1, a, tk => mxg (opt can dp a tk (bsv can dp ng r (a + 1))) ng (bsv can dp ng r (a + 1) tk)
def gsl (can dp : Nat → Nat) (ng r a tk : Nat) : Nat := fdx (fun g => decide (opt can dp a tk (bsv can dp ng r (a + 1)) g = some (bsv can dp ng (r + 1) a tk))) ng
def ntk (ng tk g : Nat) : Nat := if g < ng then tk ||| 2 ^ g else tk
def grd (can dp : Nat → Nat) (ng : Nat) : Nat → Nat → Nat → Nat
  | 0, _, _ => 0
  | r + 1, a, tk => gsl can dp ng r a tk * (ng + 1) ^ r + grd can dp ng r (a + 1) (ntk ng tk (gsl can dp ng r a tk))
/-- the worth of the row that a number spells, from a state on -/
def vlx (can dp : Nat → Nat) (ng : Nat) : Nat → Nat → Nat → Nat → Option Nat
  | 0, _, _, _ => some 0
  | r + 1, a, tk, x => if x / (ng + 1) ^ r < ng then (if can a / 2 ^ (x / (ng + 1) ^ r) % 2 = 1 ∧ tk / 2 ^ (x / (ng + 1) ^ r) % 2 = 0 then (vlx can dp ng r (a + 1) (tk ||| 2 ^ (x / (ng + 1) ^ r)) (x % (ng + 1) ^ r)).map (fun v => dp (x / (ng + 1) ^ r) + v) else none) else vlx can dp ng r (a + 1) tk (x % (ng + 1) ^ r)
theorem mxg_base (o : Nat → Option Nat) : ∀ n b, b ≤ mxg o n b
  | 0, b => Nat.le_refl _
  | g + 1, b => by
    have := mxg_base o g b
    unfold mxg
    split <;> omega
theorem mxg_ge {o : Nat → Option Nat} {g v b : Nat} (h : o g = some v) : ∀ {n : Nat}, g < n → v ≤ mxg o n b
  | 0, q => absurd q (Nat.not_lt_zero _)
  | n + 1, q => by
    unfold mxg
    rcases Nat.lt_or_ge g n with q1 | q1
    · have := mxg_ge (b := b) h q1
      split <;> omega
    · have : g = n := by omega
      subst this
      rw [h]
      simp only []
      omega
theorem mxg_or (o : Nat → Option Nat) : ∀ n b, mxg o n b = b ∨ ∃ g, g < n ∧ o g = some (mxg o n b)
  | 0, b => Or.inl rfl
  | n + 1, b => by
    unfold mxg
    cases ho : o n with
    | none =>
      simp only []
      rcases mxg_or o n b with h | ⟨g, h1, h2⟩
      · exact Or.inl h
      · exact Or.inr ⟨g, Nat.lt_succ_of_lt h1, h2⟩
    | some v =>
      simp only []
      rcases Nat.lt_or_ge (mxg o n b) v with q | q
      · rw [Nat.max_eq_right (by omega)]
        exact Or.inr ⟨n, Nat.lt_succ_self n, ho⟩
      · rw [Nat.max_eq_left q]
        rcases mxg_or o n b with h | ⟨g, h1, h2⟩
        · exact Or.inl h
        · exact Or.inr ⟨g, Nat.lt_succ_of_lt h1, h2⟩
theorem grd_all (can dp : Nat → Nat) (ng : Nat) : ∀ r a tk, grd can dp ng r a tk < (ng + 1) ^ r ∧ vlx can dp ng r a tk (grd can dp ng r a tk) = some (bsv can dp ng r a tk) ∧ (∀ x v, x < (ng + 1) ^ r → vlx can dp ng r a tk x = some v → v ≤ bsv can dp ng r a tk) ∧ ∀ x, x < grd can dp ng r a tk → vlx can dp ng r a tk x ≠ some (bsv can dp ng r a tk)
  | 0, a, tk => ⟨by simp [grd], rfl, fun x v _ h => by simp [vlx] at h; omega, fun x h => absurd h (Nat.not_lt_zero _)⟩
  | r + 1, a, tk => by
    have hB : 0 < (ng + 1) ^ r := Nat.pow_pos (by omega)
    have hgl : gsl can dp ng r a tk ≤ ng := fdx_le _ _
    obtain ⟨i1, i2, i3, i4⟩ := grd_all can dp ng r (a + 1) (ntk ng tk (gsl can dp ng r a tk))
    have hdiv : (gsl can dp ng r a tk * (ng + 1) ^ r + grd can dp ng r (a + 1) (ntk ng tk (gsl can dp ng r a tk))) / (ng + 1) ^ r = gsl can dp ng r a tk := by
      rw [Nat.mul_comm, Nat.mul_add_div hB, Nat.div_eq_of_lt i1, Nat.add_zero]
    have hmod : (gsl can dp ng r a tk * (ng + 1) ^ r + grd can dp ng r (a + 1) (ntk ng tk (gsl can dp ng r a tk))) % (ng + 1) ^ r = grd can dp ng r (a + 1) (ntk ng tk (gsl can dp ng r a tk)) := by
      rw [Nat.mul_comm, Nat.mul_add_mod, Nat.mod_eq_of_lt i1]
    have up1 : ∀ x v, x < (ng + 1) ^ (r + 1) → vlx can dp ng (r + 1) a tk x = some v → v ≤ bsv can dp ng (r + 1) a tk := by
      intro x v hx hv
      have hm : x % (ng + 1) ^ r < (ng + 1) ^ r := Nat.mod_lt _ hB
      unfold vlx at hv
      by_cases c : x / (ng + 1) ^ r < ng
      · rw [if_pos c] at hv
        by_cases c2 : can a / 2 ^ (x / (ng + 1) ^ r) % 2 = 1 ∧ tk / 2 ^ (x / (ng + 1) ^ r) % 2 = 0
        · rw [if_pos c2] at hv
          cases hy : vlx can dp ng r (a + 1) (tk ||| 2 ^ (x / (ng + 1) ^ r)) (x % (ng + 1) ^ r) with
          | none => rw [hy] at hv; cases hv
          | some y =>
            rw [hy] at hv
            cases hv
            have h1 := (grd_all can dp ng r (a + 1) (tk ||| 2 ^ (x / (ng + 1) ^ r))).2.2.1 _ y hm hy
            have h2 : opt can dp a tk (bsv can dp ng r (a + 1)) (x / (ng + 1) ^ r) = some (dp (x / (ng + 1) ^ r) + bsv can dp ng r (a + 1) (tk ||| 2 ^ (x / (ng + 1) ^ r))) := if_pos c2
            have h3 := mxg_ge (b := bsv can dp ng r (a + 1) tk) h2 c
            show dp (x / (ng + 1) ^ r) + y ≤ mxg _ _ _
            omega
        · rw [if_neg c2] at hv; cases hv
      · rw [if_neg c] at hv
        have h1 := (grd_all can dp ng r (a + 1) tk).2.2.1 _ v hm hv
        have h2 := mxg_base (opt can dp a tk (bsv can dp ng r (a + 1))) ng (bsv can dp ng r (a + 1) tk)
        exact Nat.le_trans h1 h2
    refine ⟨?_, ?_, up1, ?_⟩
    · show gsl can dp ng r a tk * (ng + 1) ^ r + _ < (ng + 1) ^ (r + 1)
      rw [Nat.pow_succ, Nat.mul_comm ((ng + 1) ^ r)]
      have := Nat.mul_le_mul_right ((ng + 1) ^ r) hgl
      rw [Nat.succ_mul]
      omega
    · show vlx can dp ng (r + 1) a tk (gsl can dp ng r a tk * (ng + 1) ^ r + _) = _
      unfold vlx
      rw [hdiv, hmod]
      by_cases c : gsl can dp ng r a tk < ng
      · rw [if_pos c]
        have hy := fdx_yes (p := fun g => decide (opt can dp a tk (bsv can dp ng r (a + 1)) g = some (bsv can dp ng (r + 1) a tk))) (n := ng) c
        have hy := of_decide_eq_true hy
        have hy : opt can dp a tk (bsv can dp ng r (a + 1)) (gsl can dp ng r a tk) = some (bsv can dp ng (r + 1) a tk) := hy
        unfold opt at hy
        by_cases c2 : can a / 2 ^ (gsl can dp ng r a tk) % 2 = 1 ∧ tk / 2 ^ (gsl can dp ng r a tk) % 2 = 0
        · rw [if_pos c2] at hy ⊢
          have hn : ntk ng tk (gsl can dp ng r a tk) = tk ||| 2 ^ (gsl can dp ng r a tk) := if_pos c
          rw [hn] at i2 ⊢
          rw [i2]
          exact hy
        · rw [if_neg c2] at hy; cases hy
      · rw [if_neg c]
        have hn : ntk ng tk (gsl can dp ng r a tk) = tk := if_neg c
        rw [hn] at i2 ⊢
        rw [i2]
        have e : gsl can dp ng r a tk = ng := by omega
        rcases mxg_or (opt can dp a tk (bsv can dp ng r (a + 1))) ng (bsv can dp ng r (a + 1) tk) with h | ⟨g, h1, h2⟩
        · exact congrArg some h.symm
        · exfalso
          have := fdx_no (p := fun g => decide (opt can dp a tk (bsv can dp ng r (a + 1)) g = some (bsv can dp ng (r + 1) a tk))) (n := ng) (k := g) (by show g < gsl can dp ng r a tk; omega)
          exact absurd h2 (of_decide_eq_false this)
    · intro x hx hv
      have hx : x < gsl can dp ng r a tk * (ng + 1) ^ r + grd can dp ng r (a + 1) (ntk ng tk (gsl can dp ng r a tk)) := hx
      have hm : x % (ng + 1) ^ r < (ng + 1) ^ r := Nat.mod_lt _ hB
      have hxe := Nat.div_add_mod x ((ng + 1) ^ r)
      have hle : x / (ng + 1) ^ r ≤ gsl can dp ng r a tk := by
        have : x < (gsl can dp ng r a tk + 1) * (ng + 1) ^ r := by rw [Nat.succ_mul]; omega
        exact Nat.lt_succ_iff.mp ((Nat.div_lt_iff_lt_mul hB).mpr this)
      rcases Nat.lt_or_ge (x / (ng + 1) ^ r) (gsl can dp ng r a tk) with c | c
      · have cg : x / (ng + 1) ^ r < ng := by omega
        have hno := fdx_no (p := fun g => decide (opt can dp a tk (bsv can dp ng r (a + 1)) g = some (bsv can dp ng (r + 1) a tk))) (n := ng) c
        have hno := of_decide_eq_false hno
        unfold vlx at hv
        rw [if_pos cg] at hv
        by_cases c2 : can a / 2 ^ (x / (ng + 1) ^ r) % 2 = 1 ∧ tk / 2 ^ (x / (ng + 1) ^ r) % 2 = 0
        · rw [if_pos c2] at hv
          cases hy : vlx can dp ng r (a + 1) (tk ||| 2 ^ (x / (ng + 1) ^ r)) (x % (ng + 1) ^ r) with
          | none => rw [hy] at hv; cases hv
          | some y =>
            rw [hy] at hv
            have hv := Option.some.inj hv
            have h1 := (grd_all can dp ng r (a + 1) (tk ||| 2 ^ (x / (ng + 1) ^ r))).2.2.1 _ y hm hy
            have h2 : opt can dp a tk (bsv can dp ng r (a + 1)) (x / (ng + 1) ^ r) = some (dp (x / (ng + 1) ^ r) + bsv can dp ng r (a + 1) (tk ||| 2 ^ (x / (ng + 1) ^ r))) := if_pos c2
            have h3 := mxg_ge (b := bsv can dp ng r (a + 1) tk) h2 cg
            have h3 : dp (x / (ng + 1) ^ r) + bsv can dp ng r (a + 1) (tk ||| 2 ^ (x / (ng + 1) ^ r)) ≤ bsv can dp ng (r + 1) a tk := h3
            apply hno
            rw [h2]
            have hv : dp (x / (ng + 1) ^ r) + y = bsv can dp ng (r + 1) a tk := hv
            exact congrArg some (by omega)
        · rw [if_neg c2] at hv; cases hv
      · have ce : x / (ng + 1) ^ r = gsl can dp ng r a tk := by omega
        have hlt : x % (ng + 1) ^ r < grd can dp ng r (a + 1) (ntk ng tk (gsl can dp ng r a tk)) := by
          rw [ce, Nat.mul_comm] at hxe
          omega
        have h4 := i4 _ hlt
        unfold vlx at hv
        rw [ce] at hv
        by_cases cg : gsl can dp ng r a tk < ng
        · rw [if_pos cg] at hv
          have hn : ntk ng tk (gsl can dp ng r a tk) = tk ||| 2 ^ (gsl can dp ng r a tk) := if_pos cg
          rw [hn] at h4
          by_cases c2 : can a / 2 ^ (gsl can dp ng r a tk) % 2 = 1 ∧ tk / 2 ^ (gsl can dp ng r a tk) % 2 = 0
          · rw [if_pos c2] at hv
            have hy := fdx_yes (p := fun g => decide (opt can dp a tk (bsv can dp ng r (a + 1)) g = some (bsv can dp ng (r + 1) a tk))) (n := ng) cg
            have hy := of_decide_eq_true hy
            have hy : opt can dp a tk (bsv can dp ng r (a + 1)) (gsl can dp ng r a tk) = some (bsv can dp ng (r + 1) a tk) := hy
            unfold opt at hy
            rw [if_pos c2] at hy
            have hy := Option.some.inj hy
            cases hz : vlx can dp ng r (a + 1) (tk ||| 2 ^ (gsl can dp ng r a tk)) (x % (ng + 1) ^ r) with
            | none => rw [hz] at hv; cases hv
            | some y =>
              rw [hz] at hv
              have hv := Option.some.inj hv
              have hv : dp (gsl can dp ng r a tk) + y = bsv can dp ng (r + 1) a tk := hv
              apply h4
              rw [hz]
              exact congrArg some (by omega)
          · rw [if_neg c2] at hv; cases hv
        · rw [if_neg cg] at hv
          have hn : ntk ng tk (gsl can dp ng r a tk) = tk := if_neg cg
          rw [hn] at h4 i2
          have hb : bsv can dp ng (r + 1) a tk = bsv can dp ng r (a + 1) tk := by
            rcases mxg_or (opt can dp a tk (bsv can dp ng r (a + 1))) ng (bsv can dp ng r (a + 1) tk) with h | ⟨g, h1, h2⟩
            · exact h
            · exfalso
              have := fdx_no (p := fun g => decide (opt can dp a tk (bsv can dp ng r (a + 1)) g = some (bsv can dp ng (r + 1) a tk))) (n := ng) (k := g) (by show g < gsl can dp ng r a tk; omega)
              exact absurd h2 (of_decide_eq_false this)
          rw [hb] at hv
          exact h4 hv
/-- the first of the best, one number behind another -/
def scn (o : Nat → Option Nat) : Nat → Option (Nat × Nat)
  | 0 => none
  | x + 1 => match o x, scn o x with
    | none, s => s
    | some v, none => some (v, x)
    | some v, some (b, y) => if b < v then some (v, x) else some (b, y)
theorem scn_spec {o : Nat → Option Nat} : ∀ (n : Nat), (scn o n = none ∧ ∀ x, x < n → o x = none) ∨ ∃ b y, scn o n = some (b, y) ∧ y < n ∧ o y = some b ∧ (∀ x v, x < n → o x = some v → v ≤ b) ∧ ∀ x, x < y → o x ≠ some b
  | 0 => Or.inl ⟨rfl, fun x h => absurd h (Nat.not_lt_zero _)⟩
  | n + 1 => by
    unfold scn
    cases ho : o n with
    | none =>
      simp only []
      rcases scn_spec (o := o) n with ⟨h1, h2⟩ | ⟨b, y, h1, h2, h3, h4, h5⟩
      · refine Or.inl ⟨h1, fun x hx => ?_⟩
        rcases Nat.lt_or_ge x n with q | q
        · exact h2 x q
        · have : x = n := by omega
          subst this; exact ho
      · refine Or.inr ⟨b, y, h1, by omega, h3, fun x v hx hv => ?_, h5⟩
        rcases Nat.lt_or_ge x n with q | q
        · exact h4 x v q hv
        · have : x = n := by omega
          subst this; rw [ho] at hv; cases hv
    | some v =>
      rcases scn_spec (o := o) n with ⟨h1, h2⟩ | ⟨b, y, h1, h2, h3, h4, h5⟩
      · rw [h1]
        simp only []
        refine Or.inr ⟨v, n, rfl, Nat.lt_succ_self n, ho, fun x u hx hu => ?_, fun x hx hu => ?_⟩
        · rcases Nat.lt_or_ge x n with q | q
          · rw [h2 x q] at hu; cases hu
          · have : x = n := by omega
            subst this; rw [ho] at hu; cases hu; exact Nat.le_refl _
        · rw [h2 x hx] at hu; cases hu
      · rw [h1]
        simp only []
        by_cases c : b < v
        · rw [if_pos c]
          refine Or.inr ⟨v, n, rfl, Nat.lt_succ_self n, ho, fun x u hx hu => ?_, fun x hx hu => ?_⟩
          · rcases Nat.lt_or_ge x n with q | q
            · have := h4 x u q hu; omega
            · have : x = n := by omega
              subst this; rw [ho] at hu; cases hu; exact Nat.le_refl _
          · have := h4 x v hx hu; omega
        · rw [if_neg c]
          refine Or.inr ⟨b, y, rfl, by omega, h3, fun x u hx hu => ?_, h5⟩
          rcases Nat.lt_or_ge x n with q | q
          · exact h4 x u q hu
          · have : x = n := by omega
            subst this; rw [ho] at hu; cases hu; omega
theorem scn_grd (can dp : Nat → Nat) (ng r : Nat) : scn (vlx can dp ng r 0 0) ((ng + 1) ^ r) = some (bsv can dp ng r 0 0, grd can dp ng r 0 0) := by
  obtain ⟨g1, g2, g3, g4⟩ := grd_all can dp ng r 0 0
  rcases scn_spec (o := vlx can dp ng r 0 0) ((ng + 1) ^ r) with ⟨h1, h2⟩ | ⟨b, y, h1, h2, h3, h4, h5⟩
  · rw [h2 _ g1] at g2; cases g2
  · have e1 : b = bsv can dp ng r 0 0 := Nat.le_antisymm (g3 y b h2 h3) (h4 _ _ g1 g2)
    subst e1
    have e2 : y = grd can dp ng r 0 0 := by
      rcases Nat.lt_trichotomy y (grd can dp ng r 0 0) with q | q | q
      · exact absurd h3 (g4 y q)
      · exact q
      · exact absurd g2 (h5 _ q)
    rw [h1, e2]
def dgt (ng nt x a : Nat) : Nat := x / (ng + 1) ^ (nt - 1 - a) % (ng + 1)
