/-! ===== rows and their worth ===== -/
def wvr (can dp ro : Nat → Nat) (ng : Nat) : Nat → Nat → Nat → Option Nat
  | 0, _, _ => some 0
  | r + 1, a, tk => if ro a < ng then (if can a / 2 ^ (ro a) % 2 = 1 ∧ tk / 2 ^ (ro a) % 2 = 0 then (wvr can dp ro ng r (a + 1) (tk ||| 2 ^ (ro a))).map (fun v => dp (ro a) + v) else none) else wvr can dp ro ng r (a + 1) tk
theorem dgt_sub {B x r j : Nat} (hB : 0 < B) (h : j < r) : x % B ^ r / B ^ j % B = x / B ^ j % B := by
  have e : B ^ r = B ^ j * B ^ (r - j) := by rw [← Nat.pow_add, show j + (r - j) = r by omega]
  rw [e, Nat.mod_mul_right_div_self, Nat.mod_mod_of_dvd]
  rw [show r - j = (r - j - 1) + 1 by omega, Nat.pow_succ]
  exact Nat.dvd_mul_left _ _
theorem wvr_vlx (can dp ro : Nat → Nat) (ng : Nat) : ∀ r a tk x, x < (ng + 1) ^ r → (∀ i, i < r → ro (a + i) = x / (ng + 1) ^ (r - 1 - i) % (ng + 1)) → wvr can dp ro ng r a tk = vlx can dp ng r a tk x
  | 0, a, tk, x, _, _ => rfl
  | r + 1, a, tk, x, hx, h => by
    have hB : 0 < (ng + 1) ^ r := Nat.pow_pos (by omega)
    have h0 : ro a = x / (ng + 1) ^ r := by
      have := h 0 (by omega)
      rw [Nat.add_zero, show r + 1 - 1 - 0 = r by omega] at this
      rw [this]
      apply Nat.mod_eq_of_lt
      rw [Nat.div_lt_iff_lt_mul hB, Nat.mul_comm, ← Nat.pow_succ]
      exact hx
    have hr : ∀ tk2, wvr can dp ro ng r (a + 1) tk2 = vlx can dp ng r (a + 1) tk2 (x % (ng + 1) ^ r) := fun tk2 => by
      apply wvr_vlx can dp ro ng r (a + 1) tk2 _ (Nat.mod_lt _ hB)
      intro i hi
      have := h (i + 1) (by omega)
      rw [show a + 1 + i = a + (i + 1) by omega, this, show r + 1 - 1 - (i + 1) = r - 1 - i by omega]
      exact (dgt_sub (by omega) (by omega)).symm
    unfold wvr vlx
    rw [h0, hr, hr]
def wno (o : Option Nat) : Int32 := match o with
  | none => -9
  | some v => nI v
def bno (o : Option (Nat × Nat)) : Int32 := match o with
  | none => -9
  | some q => nI q.1
theorem wvr_le {can dp ro : Nat → Nat} {ng b : Nat} (hd : ∀ g, dp g ≤ b) : ∀ {r a tk v}, wvr can dp ro ng r a tk = some v → v ≤ r * b
  | 0, a, tk, v, h => by simp [wvr] at h; omega
  | r + 1, a, tk, v, h => by
    unfold wvr at h
    rw [Nat.succ_mul]
    split at h
    · split at h
      · cases hy : wvr can dp ro ng r (a + 1) (tk ||| 2 ^ (ro a)) with
        | none => rw [hy] at h; cases h
        | some y =>
          rw [hy] at h
          have h := Option.some.inj h
          have h1 := wvr_le hd hy
          have h2 := hd (ro a)
          have h : dp (ro a) + y = v := h
          omega
      · cases h
    · have := wvr_le hd h; omega
theorem or_lt32 {x g : Nat} (hx : x < 32) (hg : g < 5) : x ||| (1 * 2 ^ g) < 32 := by
  have h2 : 1 * 2 ^ g < 2 ^ 5 := by
    rw [Nat.one_mul]
    exact Nat.pow_lt_pow_right (by decide) hg
  exact Nat.or_lt_two_pow (n := 5) hx h2
theorem wvr_pos {can dp ro : Nat → Nat} {ng r a tk : Nat} (h1 : ro a < ng) (h2 : can a / 2 ^ (ro a) % 2 = 1 ∧ tk / 2 ^ (ro a) % 2 = 0) : wvr can dp ro ng (r + 1) a tk = (wvr can dp ro ng r (a + 1) (tk ||| (1 * 2 ^ (ro a)))).map (fun v => dp (ro a) + v) := by
  rw [wvr, if_pos h1, if_pos h2, Nat.one_mul]
theorem wvr_neg {can dp ro : Nat → Nat} {ng r a tk : Nat} (h1 : ro a < ng) (h2 : ¬ (can a / 2 ^ (ro a) % 2 = 1 ∧ tk / 2 ^ (ro a) % 2 = 0)) : wvr can dp ro ng (r + 1) a tk = none := by
  rw [wvr, if_pos h1, if_neg h2]
theorem wvr_out {can dp ro : Nat → Nat} {ng r a tk : Nat} (h1 : ¬ ro a < ng) : wvr can dp ro ng (r + 1) a tk = wvr can dp ro ng r (a + 1) tk := by
  rw [wvr, if_neg h1]
theorem map_add (o : Option Nat) (s d : Nat) : (o.map (fun v => d + v)).map (fun v => s + v) = o.map (fun v => s + d + v) := by
  cases o with
  | none => rfl
  | some v => show some (s + (d + v)) = some (s + d + v); rw [Nat.add_assoc]
theorem map_zero (o : Option Nat) : o = o.map (fun v => 0 + v) := by
  cases o with
  | none => rfl
  | some v => show some v = some (0 + v); rw [Nat.zero_add]
theorem gts_lt (N : NN) (j m : Nat) (h : N 0 2 ≤ 5) : gts N j m < 32 := Nat.lt_of_lt_of_le (bset_lt _ _) (Nat.pow_le_pow_right (by decide) h)
theorem pow_b {B a : Nat} (h : B ≤ 6) (ha : a ≤ 5) : B ^ a ≤ 7776 := by
  rcases Nat.eq_zero_or_pos B with h0 | h0
  · subst h0
    rcases Nat.eq_zero_or_pos a with h1 | h1
    · subst h1; decide
    · rw [Nat.zero_pow h1]; decide
  · have h1 : B ^ a ≤ B ^ 5 := Nat.pow_le_pow_right h0 ha
    have h2 : B ^ 5 ≤ 6 ^ 5 := Nat.pow_le_pow_left h 5
    have h3 : (6 : Nat) ^ 5 = 7776 := by decide
    omega
theorem sub1_eq (x : Int32) : x + Int32.ofInt (-1) = x - nI 1 := by
  rw [Int32.sub_eq_add_neg]
  rfl
def vxs (N : NN) (m : Nat) : Nat → Option Nat := vlx (fun a => gts N a m) (N 5) (N 0 2) (N 0 1) 0 0
def sndA (N : NN) (m : Nat) (K : Int) : Int32 := if K = -1 then nI (bsv (fun a => gts N a m) (N 5) (N 0 2) (N 0 1) 0 0) else if K < (N 0 1 : Int) ∧ dgt (N 0 2) (N 0 1) (grd (fun a => gts N a m) (N 5) (N 0 2) (N 0 1) 0 0) K.toNat < N 0 2 then nI (dgt (N 0 2) (N 0 1) (grd (fun a => gts N a m) (N 5) (N 0 2) (N 0 1) 0 0) K.toNat) else -9
def sp_send (N : NN) (C : CC) (M K : Int) : Int32 × NN × CC := if (0 ≤ M ∧ M ≤ 59) ∧ -1 ≤ K ∧ K ≤ 4 then (if N 0 1 = 0 then (-3, N, C) else (sndA N M.toNat K, N, C)) else (-2, N, C)
theorem dgt_le (ng nt x a : Nat) : dgt ng nt x a ≤ ng := Nat.lt_succ_iff.mp (Nat.mod_lt _ (by omega))
theorem vxs_le {N : NN} (h : WF N) {m x v : Nat} (hx : x < (N 0 2 + 1) ^ N 0 1) (hv : vxs N m x = some v) : v ≤ 45 := by
  have e : wvr (fun a => gts N a m) (N 5) (fun a => dgt (N 0 2) (N 0 1) x a) (N 0 2) (N 0 1) 0 0 = vxs N m x := wvr_vlx _ _ _ _ _ _ _ _ hx (fun i hi => by rw [Nat.zero_add]; rfl)
  rw [hv] at e
  have := wvr_le (b := 9) (fun g => h.2.2.2.2.2.1 g) e
  have := h.1
  omega
theorem scn_le {N : NN} (h : WF N) {m x b y : Nat} (hx : x ≤ (N 0 2 + 1) ^ N 0 1) (hv : scn (vxs N m) x = some (b, y)) : b ≤ 45 := by
  rcases scn_spec (o := vxs N m) x with ⟨h1, h2⟩ | ⟨b2, y2, h1, h2, h3, h4, h5⟩
  · rw [h1] at hv; cases hv
  · rw [h1] at hv
    cases hv
    exact vxs_le h (by omega) h3
