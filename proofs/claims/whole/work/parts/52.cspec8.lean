/-! ===== the class's own world ===== -/
section TP
variable {p : Program} {l : Launch} {e : Env} {R : Room} {s : State} {m : MethodId} {args : Array Value} {below : List Frame} {meth : Method} {c : Code} {H : Heap} {locs : List Loc} {cells slots : Nat} {Q : State → Prop}
variable {D : va_G} {ka : Nat → ClassId} {cc : ByteArray} {nL z pc q kd q0 : Nat} {ls : Array Slot} {rest : List Value} {own : String} {ws : va_W} {fs : List Value} {index : Nat} {H0 : Heap} {A : Nat → Prop}
theorem tk_put (X : Cx p s m args c cc nL own D ka) (hP : va_P D vwCl ws H) (hD : va_D A ws) (hS : va_S A H0 H locs) (he : ws[q0]? = some (q, .inr (kcl kd, fs))) (hkd : kd ≤ 2) (k : Nat) (hk : k = 1 ∨ k = 2) (hlink : Cond.fieldLink own index "FourVault$Taker" (TX6 k).2.1 (TX6 k).2.2.1 ∈ gtb) {v : Int32} (hl : k < fs.length) (hdg : decode cc pc = .ok (.putfield index, 3))
    (kk : ∀ (H1 : Heap) (locs1 : List Loc), va_P D vwCl (ws.set q0 (q, .inr (kcl kd, fs.set k (.int v)))) H1 → va_D A (ws.set q0 (q, .inr (kcl kd, fs.set k (.int v)))) → va_S A H0 H1 locs1 → W p l e R s m args below meth c H1 locs1 cells slots Q (F0 m (pc + 3) ls rest)) : W p l e R s m args below meth c H locs cells slots Q (F0 m pc ls (.int v :: .ref q :: rest)) := by
  obtain ⟨hx, hb, hml, hown, hts, hE⟩ := X
  rcases kcl_or hkd with ⟨-, h⟩ | ⟨-, h⟩ | ⟨-, h⟩ <;> rw [h] at he kk
  · rcases hk with rfl | rfl <;> exact va_put (D := D) (ci := 6) (v := .int v) (ty := .int) (C := RX6) (T := TX6) (N := 3) hx hb hts inX6 tyX6 tyX6_ok nmX6 hown hE.1 hP hD hS q0 he rfl _ (by decide) (hts _ hlink) (fun _ h9 => h9) rfl (by decide +kernel) rfl rfl hl hdg kk
  · rcases hk with rfl | rfl <;> exact va_put (D := D) (ci := 5) (v := .int v) (ty := .int) (C := RX5) (T := TX5) (N := 3) hx hb hts inX5 tyX5 tyX5_ok nmX5 hown hE.1 hP hD hS q0 he rfl _ (by decide) (hts _ hlink) (fun _ h9 => h9) rfl (by decide +kernel) rfl rfl hl hdg kk
  · rcases hk with rfl | rfl <;> exact va_put (D := D) (ci := 9) (v := .int v) (ty := .int) (C := RX9) (T := TX9) (N := 3) hx hb hts inX9 tyX9 tyX9_ok nmX9 hown hE.1 hP hD hS q0 he rfl _ (by decide) (hts _ hlink) (fun _ h9 => h9) rfl (by decide +kernel) rfl rfl hl hdg kk
end TP
theorem tk_atL {L R : va_W} {ta : Nat → Nat} {N : NN} {n j q0 : Nat} (hq : q0 = L.length + j) (h : j < n) : (L ++ (tkw ta N n ++ R))[q0]? = some (tkc ta N j) := by
  subst hq
  rw [List.getElem?_append_right (Nat.le_add_right _ _), Nat.add_sub_cancel_left, List.getElem?_append_left (by unfold tkw; rw [List.length_map, List.length_range]; exact h)]
  exact tkw_at h
theorem tkw_set {ta ta' : Nat → Nat} {N N' : NN} {n j : Nat} (h : j < n) (ha : ∀ i, i < n → i ≠ j → ta i = ta' i ∧ N 2 i = N' 2 i ∧ N 3 i = N' 3 i ∧ N 4 i = N' 4 i) : (tkw ta N n).set j (tkc ta' N' j) = tkw ta' N' n := by
  apply List.ext_getElem?
  intro i
  rw [List.getElem?_set]
  have hlen : (tkw ta N n).length = n := by unfold tkw; rw [List.length_map, List.length_range]
  by_cases e : j = i
  · subst e
    rw [if_pos rfl, if_pos (by rw [hlen]; exact h), tkw_at h]
  · rw [if_neg e]
    rcases Nat.lt_or_ge i n with q | q
    · rw [tkw_at q, tkw_at q]
      obtain ⟨h1, h2, h3, h4⟩ := ha i q (fun x => e x.symm)
      unfold tkc
      rw [h1, h2, h3, h4]
    · have hlen' : (tkw ta' N' n).length = n := by unfold tkw; rw [List.length_map, List.length_range]
      rw [List.getElem?_eq_none (by omega), List.getElem?_eq_none (by omega)]
theorem tk_setL {L R : va_W} {ta ta' : Nat → Nat} {N N' : NN} {n j q0 : Nat} {x : Nat × va_E} (hq : q0 = L.length + j) (h : j < n) (hx : x = tkc ta' N' j) (ha : ∀ i, i < n → i ≠ j → ta i = ta' i ∧ N 2 i = N' 2 i ∧ N 3 i = N' 3 i ∧ N 4 i = N' 4 i) : (L ++ (tkw ta N n ++ R)).set q0 x = L ++ (tkw ta' N' n ++ R) := by
  subst hq
  subst hx
  rw [List.set_append_right _ _ (Nat.le_add_right _ _), Nat.add_sub_cancel_left, List.set_append_left _ _ (by unfold tkw; rw [List.length_map, List.length_range]; exact h), tkw_set h ha]
theorem up_ne {N : NN} {r j v i k : Nat} (h : i ≠ j) : up N r j v k i = N k i := by
  unfold up
  split
  · next q => unfold upN; rw [if_neg h, q]
  · rfl
theorem kw_of {D : va_G} {H : Heap} {w R : va_W} {ka : Nat → ClassId} {v ta : Nat → Nat} {N : NN} {wf df : Nat → Int32} {tf : Nat → Option Nat} (h : va_P D vwCl (w ++ (vlw ka v (N 0 0) (N 0 1) (N 0 2) wf df tf ++ (tkw ta N (N 0 1) ++ R))) H) : va_P D vwCl (kw ka v ta N wf df tf) H := by
  have h2 := h.right
  rw [← List.append_assoc] at h2
  exact h2.left
theorem VR.up1 {N : NN} {ta : Nat → Nat} {wf df : Nat → Int32} {tf : Nat → Option Nat} {k x : Nat} (h : VR N ta wf df tf) : VR (up N 1 k x) ta (upd wf k (nI x)) df tf := by
  refine ⟨fun j hj => ?_, h.2.1, h.2.2⟩
  show upd wf k (nI x) j = nI (upN (N 1) k x j)
  unfold upd upN
  by_cases e : j = k
  · rw [if_pos e, if_pos e]
  · rw [if_neg e, if_neg e]; exact h.1 j hj
/-! ===== odds: in least terms, sets of places ===== -/
theorem gcd_pow {u k : Nat} (h : u % 2 = 1) : Nat.gcd u (2 ^ k) = 1 := by
  have h2 : Nat.Coprime u 2 := by
    unfold Nat.Coprime
    rw [Nat.gcd_comm, Nat.gcd_rec, h]
    decide
  exact Nat.Coprime.pow_right k h2
theorem lt_half {u d : Nat} {w : Int} (hu : u % 2 = 0) (hd : d % 2 = 0) (hp : 0 < d) : lt_ (u / 2) (d / 2) w = lt_ u d w := by
  have e1 : u = 2 * (u / 2) := by omega
  have e2 : d = 2 * (d / 2) := by omega
  have hg : Nat.gcd u d = 2 * Nat.gcd (u / 2) (d / 2) := by
    conv => lhs; rw [e1, e2]
    exact Nat.gcd_mul_left 2 _ _
  unfold lt_
  have hq1 : u / Nat.gcd u d = (u / 2) / Nat.gcd (u / 2) (d / 2) := by rw [hg, Nat.div_div_eq_div_mul]
  have hq2 : d / Nat.gcd u d = (d / 2) / Nat.gcd (u / 2) (d / 2) := by rw [hg, Nat.div_div_eq_div_mul]
  rw [hq1, hq2]
theorem lt_end {u k : Nat} {w : Int} (h : 2 ^ k ≤ 1 ∨ u % 2 = 1) : lt_ u (2 ^ k) w = (if w = 0 then lN u else lN (2 ^ k)) := by
  have hg : Nat.gcd u (2 ^ k) = 1 := by
    rcases h with h | h
    · have : 2 ^ k = 1 := Nat.le_antisymm h (Nat.two_pow_pos k)
      rw [this, Nat.gcd_one_right]
    · exact gcd_pow h
  unfold lt_
  rw [hg, Nat.div_one, Nat.div_one]
/-- what is drained in t minutes from m on -/
def dsum (dr : Nat → Nat) (m : Nat) : Nat → Nat
  | 0 => 0
  | t + 1 => dsum dr m t + dr (m + t)
theorem dsum_s (dr : Nat → Nat) (m : Nat) : ∀ t, dsum dr m (t + 1) = dr m + dsum dr (m + 1) t
  | 0 => by simp [dsum]
  | t + 1 => by
    rw [dsum, dsum_s dr m t]
    show dr m + dsum dr (m + 1) t + dr (m + (t + 1)) = dr m + (dsum dr (m + 1) t + dr (m + 1 + t))
    rw [show m + (t + 1) = m + 1 + t by omega]
    omega
theorem hol_ge {dr : Nat → Nat} : ∀ {k n m left : Nat}, n ≤ k → (n ≤ hol dr k m left ↔ dsum dr m n ≤ left)
  | k, 0, m, left, _ => by simp [dsum]
  | 0, n + 1, m, left, h => by omega
  | k + 1, n + 1, m, left, h => by
    rw [hol, dsum_s]
    by_cases c : dr m ≤ left
    · rw [if_pos c]
      have := hol_ge (dr := dr) (k := k) (n := n) (m := m + 1) (left := left - dr m) (by omega)
      omega
    · rw [if_neg c]
      omega
