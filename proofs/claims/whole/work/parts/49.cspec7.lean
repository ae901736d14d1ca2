/-! ===== pairs, weighing: worlds and numbers ===== -/
theorem sdw_set {ka : Nat → ClassId} {b mr : Nat → Nat} {Mf : Nat → Nat → Nat} {Gf : Nat → Nat} {Y : va_W} {a t v : Nat} (h : a < 6) : (sdw ka b mr Mf Gf ++ Y).set (3 + a) (mr a, .inl (ka 0, 32, .inl (fun j => nI (upN (Mf a) t v j)))) = sdw ka b mr (up Mf a t v) Gf ++ Y := by
  rcases (show a = 0 ∨ a = 1 ∨ a = 2 ∨ a = 3 ∨ a = 4 ∨ a = 5 by omega) with rfl | rfl | rfl | rfl | rfl | rfl <;> rfl
theorem sdw_atR {ka : Nat → ClassId} {b mr : Nat → Nat} {Mf : Nat → Nat → Nat} {Gf : Nat → Nat} {Y : va_W} {a : Nat} (h : a < 6) : (sdw ka b mr Mf Gf ++ Y)[3 + a]? = some (mr a, .inl (ka 0, 32, .inl (fun j => nI (Mf a j)))) := by
  rw [List.getElem?_append_left (by show 3 + a < 9; omega)]
  exact sdw_at h
theorem mxg_congr {o o' : Nat → Option Nat} {b : Nat} : ∀ {n : Nat}, (∀ g, g < n → o g = o' g) → mxg o n b = mxg o' n b
  | 0, _ => rfl
  | n + 1, h => by
    rw [mxg, mxg, mxg_congr (n := n) (fun g hg => h g (Nat.lt_succ_of_lt hg)), h n (Nat.lt_succ_self n)]
theorem bsv_le {can dp : Nat → Nat} {ng c : Nat} (hd : ∀ g, dp g ≤ c) : ∀ r a tk, bsv can dp ng r a tk ≤ r * c
  | 0, a, tk => Nat.zero_le _
  | r + 1, a, tk => by
    show mxg (opt can dp a tk (bsv can dp ng r (a + 1))) ng (bsv can dp ng r (a + 1) tk) ≤ (r + 1) * c
    rw [Nat.succ_mul]
    refine mxg_le (fun g v hv => ?_) (Nat.le_trans (bsv_le hd r (a + 1) tk) (Nat.le_add_right _ _))
    unfold opt at hv
    split at hv
    · cases hv
      have h1 := hd g
      have h2 := bsv_le (can := can) (ng := ng) hd r (a + 1) (tk ||| 2 ^ g)
      omega
    · cases hv
/-- the rows from x on are weighed -/
def wgd (can dp : Nat → Nat) (ng nt : Nat) (Mf : Nat → Nat → Nat) (Gf : Nat → Nat) (x : Nat) : Prop := (∀ i, x ≤ i → i ≤ nt → ∀ t, t < 32 → Mf i t = bsv can dp ng (nt - i) i t) ∧ ∀ i, x ≤ i → i < nt → Gf i = can i
theorem wgd_row {can dp Gf : Nat → Nat} {Mf : Nat → Nat → Nat} {ng nt a t : Nat} (hng : ng ≤ 5) (h : wgd can dp ng nt Mf Gf (a + 1)) (ha : a < nt) (hG : Gf a = can a) (ht : t < 32) : mxg (opt Gf dp a t (Mf (a + 1))) ng (Mf (a + 1) t) = bsv can dp ng (nt - a) a t := by
  have e : nt - a = (nt - (a + 1)) + 1 := by omega
  rw [e]
  show _ = mxg (opt can dp a t (bsv can dp ng (nt - (a + 1)) (a + 1))) ng (bsv can dp ng (nt - (a + 1)) (a + 1) t)
  rw [h.1 (a + 1) (Nat.le_refl _) ha t ht]
  apply mxg_congr
  intro g hg
  unfold opt
  rw [hG, h.1 (a + 1) (Nat.le_refl _) ha (t ||| 2 ^ g) (or_lt ht (by omega))]
theorem up_bd {Mf : Nat → Nat → Nat} {a t v c : Nat} (h : ∀ i j, Mf i j ≤ c) (hv : v ≤ c) (i j : Nat) : up Mf a t v i j ≤ c := by
  unfold up
  split
  · exact upN_le hv (h a) j
  · exact h i j
theorem upN_lt {u : Nat → Nat} {q v b : Nat} (hv : v < b) (h : ∀ j, u j < b) (j : Nat) : upN u q v j < b := by
  unfold upN
  split
  · exact hv
  · exact h j
