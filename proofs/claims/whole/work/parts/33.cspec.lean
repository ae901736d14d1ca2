/-! ===== the component's world: a vault, its takers ===== -/
def kcl (kd : Nat) : Nat := if kd = 0 then 6 else if kd = 1 then 5 else 9
def tkc (ta : Nat → Nat) (N : NN) (a : Nat) : Nat × va_E := (ta a, .inr (kcl (N 2 a), [.int (nI a), .int (nI (N 3 a)), .int (nI (N 4 a))]))
def tkw (ta : Nat → Nat) (N : NN) (n : Nat) : va_W := (List.range n).map (tkc ta N)
def vlw (ka : Nat → ClassId) (v : Nat → Nat) (np nt ng : Nat) (wf df : Nat → Int32) (tf : Nat → Option Nat) : va_W := [(v 0, .inr (8, [.ref (v 1), .ref (v 2), .ref (v 3), .int (nI np), .int (nI nt), .int (nI ng)])), (v 1, .inl (ka 0, 6, .inl wf)), (v 2, .inl (ka 2, 5, .inr (.inr (.inr (.inr tf))))), (v 3, .inl (ka 0, 5, .inl df))]
def kw (ka : Nat → ClassId) (v ta : Nat → Nat) (N : NN) (wf df : Nat → Int32) (tf : Nat → Option Nat) : va_W := vlw ka v (N 0 0) (N 0 1) (N 0 2) wf df tf ++ tkw ta N (N 0 1)
def VR (N : NN) (ta : Nat → Nat) (wf df : Nat → Int32) (tf : Nat → Option Nat) : Prop := (∀ j, j < N 0 0 → wf j = nI (N 1 j)) ∧ (∀ j, j < N 0 2 → df j = nI (N 5 j)) ∧ ∀ j, j < N 0 1 → tf j = some (ta j)
theorem tkw_at {ta : Nat → Nat} {N : NN} {n a : Nat} (h : a < n) : (tkw ta N n)[a]? = some (tkc ta N a) := by
  unfold tkw
  rw [List.getElem?_map, List.getElem?_range h]
  rfl
theorem kw_tk {ka : Nat → ClassId} {v ta : Nat → Nat} {N : NN} {wf df : Nat → Int32} {tf : Nat → Option Nat} {a : Nat} (h : a < N 0 1) : (kw ka v ta N wf df tf)[4 + a]? = some (tkc ta N a) := by
  unfold kw
  rw [List.getElem?_append_right (by show 4 ≤ 4 + a; omega)]
  show (tkw ta N (N 0 1))[4 + a - 4]? = _
  rw [Nat.add_sub_cancel_left]
  exact tkw_at h
theorem drn_0 {N : NN} (h : N 0 5 = 0) (a m : Nat) : drn N a m = dr0 (N 2 a) (N 1 (m % N 0 0)) (N 4 a) := by
  unfold drn
  rw [h, Nat.zero_div, if_neg (by decide)]
section TK
variable {p : Program} {l : Launch} {e : Env} {R : Room} {s : State} {m : MethodId} {args : Array Value} {below : List Frame} {meth : Method} {c : Code} {H : Heap} {locs : List Loc} {cells slots : Nat} {Q : State → Prop}
variable {D : va_G} {ka : Nat → ClassId} {cc : ByteArray} {nL z pc q kd q0 : Nat} {ls : Array Slot} {rest : List Value} {own : String} {ws : va_W} {fs : List Value} {index : Nat} {H0 : Heap}
theorem kcl_or (h : kd ≤ 2) : (kd = 0 ∧ kcl kd = 6) ∨ (kd = 1 ∧ kcl kd = 5) ∨ (kd = 2 ∧ kcl kd = 9) := by
  rcases (show kd = 0 ∨ kd = 1 ∨ kd = 2 by omega) with rfl | rfl | rfl
  · exact Or.inl ⟨rfl, rfl⟩
  · exact Or.inr (Or.inl ⟨rfl, rfl⟩)
  · exact Or.inr (Or.inr ⟨rfl, rfl⟩)
theorem tk_get (X : Cx p s m args c cc nL own D ka) (hP : va_P D vwCl ws H) (he : ws[q0]? = some (q, .inr (kcl kd, fs))) (hkd : kd ≤ 2) (k : Nat) (hk : k < 3) (hlink : Cond.fieldLink own index "FourVault$Taker" (TX6 k).2.1 (TX6 k).2.2.1 ∈ gtb) {v : Value} (hv : fs[k]? = some v) (hdg : decode cc pc = .ok (.getfield index, 3))
    (kk : W p l e R s m args below meth c H locs cells slots Q (F0 m (pc + 3) ls (v :: rest))) : W p l e R s m args below meth c H locs cells slots Q (F0 m pc ls (.ref q :: rest)) := by
  obtain ⟨hx, hb, hml, hown, hts, hE⟩ := X
  rcases kcl_or hkd with ⟨-, h⟩ | ⟨-, h⟩ | ⟨-, h⟩ <;> rw [h] at he
  · rcases (show k = 0 ∨ k = 1 ∨ k = 2 by omega) with rfl | rfl | rfl <;> exact va_get (D := D) (ci := 6) (C := RX6) (T := TX6) (N := 3) hx hb hts inX6 hown hE.1 hP q0 he rfl _ (by decide) (hts _ hlink) (fun _ h9 => h9) hv hdg kk
  · rcases (show k = 0 ∨ k = 1 ∨ k = 2 by omega) with rfl | rfl | rfl <;> exact va_get (D := D) (ci := 5) (C := RX5) (T := TX5) (N := 3) hx hb hts inX5 hown hE.1 hP q0 he rfl _ (by decide) (hts _ hlink) (fun _ h9 => h9) hv hdg kk
  · rcases (show k = 0 ∨ k = 1 ∨ k = 2 by omega) with rfl | rfl | rfl <;> exact va_get (D := D) (ci := 9) (C := RX9) (T := TX9) (N := 3) hx hb hts inX9 hown hE.1 hP q0 he rfl _ (by decide) (hts _ hlink) (fun _ h9 => h9) hv hdg kk
end TK
theorem dr_singer {w mi : Nat} (hw : w ≤ 9) (hm : mi ≤ 9) : (if nI 0 < nI (w + mi) - nI 1 then nI (w + mi) - nI 1 else nI 0) = nI (dr0 1 w mi) := by
  have e : (nI (w + mi) - nI 1).toInt = ((w + mi : Nat) : Int) - ((1 : Nat) : Int) := pk_sub_toInt (by omega) (by decide)
  have e0 : (nI 0).toInt = 0 := rfl
  unfold dr0
  rw [if_pos rfl]
  by_cases h : 1 < w + mi
  · rw [if_pos (by rw [ii_lt, e, e0]; omega), pk_sub (by omega)]
  · rw [if_neg (by rw [ii_lt, e, e0]; omega), show w + mi - 1 = 0 by omega]
