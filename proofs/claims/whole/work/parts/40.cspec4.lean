/-! ===== a night's answer; sending ===== -/
def nightZ (nt : Nat) (A M Z : Nat → Nat) (n : Nat) (w : Int) : Int32 := if w = 1 then fno (fw (wrg A M Z) n) else match fw (wrg A M Z) n with
  | some p => -100 - nI p
  | none => nAns nt A M Z n w
theorem nightZ_eq (N : NN) (A M : Nat → Nat) (n : Nat) (w : Int) : nightZ (N 0 1) A M (fun p => hld N (A p) (M p) 1) n w = nightA N A M n w := rfl
def mrw (ka : Nat → ClassId) (mr : Nat → Nat) (Mf : Nat → Nat → Nat) : va_W := (List.range 6).map (fun i => (mr i, .inl (ka 0, 32, .inl (fun j => nI (Mf i j)))))
def sdw (ka : Nat → ClassId) (b mr : Nat → Nat) (Mf : Nat → Nat → Nat) (Gf : Nat → Nat) : va_W := [(b 0, .inr (4, [.ref (b 1), .ref (b 2)])), (b 1, .inl (ka 3, 6, .inr (.inr (.inr (.inr (fun i => if i < 6 then some (mr i) else none)))))), (b 2, .inl (ka 0, 5, .inl (fun j => nI (Gf j))))] ++ mrw ka mr Mf
theorem mrw_at {ka : Nat → ClassId} {mr : Nat → Nat} {Mf : Nat → Nat → Nat} {a : Nat} (h : a < 6) : (mrw ka mr Mf)[a]? = some (mr a, .inl (ka 0, 32, .inl (fun j => nI (Mf a j)))) := by
  unfold mrw
  rw [List.getElem?_map, List.getElem?_range h]
  rfl
theorem sdw_at {ka : Nat → ClassId} {b mr : Nat → Nat} {Mf : Nat → Nat → Nat} {Gf : Nat → Nat} {a : Nat} (h : a < 6) : (sdw ka b mr Mf Gf)[3 + a]? = some (mr a, .inl (ka 0, 32, .inl (fun j => nI (Mf a j)))) := by
  unfold sdw
  rw [List.getElem?_append_right (by show 3 ≤ 3 + a; omega)]
  show (mrw ka mr Mf)[3 + a - 3]? = _
  rw [Nat.add_sub_cancel_left]
  exact mrw_at h
theorem free_bits : ∀ x, x < 32 → ∀ t, t < 32 → ∀ g, g < 5 → (((nI x &&& (nI t ^^^ (-1))) &&& nI (1 * 2 ^ g)) = 0 ↔ ¬ (x / 2 ^ g % 2 = 1 ∧ t / 2 ^ g % 2 = 0)) := by decide +kernel
def gno (ng g : Nat) : Int32 := if g < ng then nI g else -9
def fgp (Gf dp : Nat → Nat) (Mf : Nat → Nat → Nat) (a tk : Nat) (g : Nat) : Bool := decide (opt Gf dp a tk (Mf (a + 1)) g = some (Mf a tk))
def fgd (Gf dp : Nat → Nat) (Mf : Nat → Nat → Nat) (ng a tk : Nat) : Nat := fdx (fgp Gf dp Mf a tk) ng
def tkn (Gf dp : Nat → Nat) (Mf : Nat → Nat → Nat) (ng nt : Nat) : Nat → Nat
  | 0 => 0
  | a + 1 => if a < nt then ntk ng (tkn Gf dp Mf ng nt a) (fgd Gf dp Mf ng a (tkn Gf dp Mf ng nt a)) else tkn Gf dp Mf ng nt a
theorem or_lt {x g : Nat} (hx : x < 32) (hg : g < 5) : x ||| 2 ^ g < 32 := by
  have := or_lt32 hx hg
  rwa [Nat.one_mul] at this
theorem tkn_lt {Gf dp : Nat → Nat} {Mf : Nat → Nat → Nat} {ng nt : Nat} (h : ng ≤ 5) : ∀ a, tkn Gf dp Mf ng nt a < 32
  | 0 => (show (0 : Nat) < 32 by decide)
  | a + 1 => by
    have := tkn_lt (Gf := Gf) (dp := dp) (Mf := Mf) (nt := nt) h a
    unfold tkn
    split
    · unfold ntk
      split
      · exact or_lt this (by omega)
      · exact this
    · exact this
def gdo (Gf dp : Nat → Nat) (Mf : Nat → Nat → Nat) (ng nt a : Nat) : Int32 := if a < nt then gno ng (fgd Gf dp Mf ng a (tkn Gf dp Mf ng nt a)) else -9
theorem mxg_s {o : Nat → Option Nat} {g v b : Nat} (h : o g = some v) : max (mxg o g b) v = mxg o (g + 1) b := by
  rw [mxg, h]
theorem mxg_n {o : Nat → Option Nat} {g b : Nat} (h : o g = none) : mxg o g b = mxg o (g + 1) b := by
  rw [mxg, h]
theorem mxg_le {o : Nat → Option Nat} {c : Nat} (h : ∀ g v, o g = some v → v ≤ c) : ∀ {n b : Nat}, b ≤ c → mxg o n b ≤ c
  | 0, b, hb => hb
  | n + 1, b, hb => by
    unfold mxg
    have := mxg_le h (n := n) hb
    split
    · exact this
    · next v hv => exact Nat.max_le.mpr ⟨this, h n v hv⟩
