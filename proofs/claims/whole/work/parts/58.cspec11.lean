/-! ===== sheets: rows in a world ===== -/
def shf (N : NN) (ra : Nat → Nat) : Nat → Option Nat := fun k => if N 9 k = 3 ∨ 4 ≤ k then none else some (ra k)
def rowb (ka : Nat → ClassId) (ra ca : Nat → Nat) (N : NN) (C : CC) (k : Nat) : va_W := if N 9 k = 3 then [] else [(ra k, .inr (3, [.int (nI (N 9 k)), .ref (ca k)])), (ca k, .inl (ka 0, N 10 k, .inl (rof (C k))))]
def RB (ka : Nat → ClassId) (ra ca : Nat → Nat) (N : NN) (C : CC) : List va_W := [rowb ka ra ca N C 0, rowb ka ra ca N C 1, rowb ka ra ca N C 2, rowb ka ra ca N C 3]
def rows (ka : Nat → ClassId) (ra ca : Nat → Nat) (N : NN) (C : CC) : va_W := (RB ka ra ca N C).flatten
def rowsX (ka : Nat → ClassId) (ra ca : Nat → Nat) (N : NN) (C : CC) (k : Nat) : va_W := ((RB ka ra ca N C).set k []).flatten
def rowsY (ka : Nat → ClassId) (ra ca : Nat → Nat) (N : NN) (C : CC) (k o : Nat) : va_W := (((RB ka ra ca N C).set k []).set o []).flatten
theorem set_flat {bs : List va_W} {i : Nat} {x : va_W} (h : bs[i]? = some x) : bs.flatten.Perm (x ++ (bs.set i []).flatten) := by
  refine (blk_at h).trans (List.Perm.append_left x ?_)
  have := blk_back (bs := bs) (i := i) ([] : va_W) (List.getElem?_eq_some_iff.mp h).1
  exact this
theorem RB_at {ka : Nat → ClassId} {ra ca : Nat → Nat} {N : NN} {C : CC} {k : Nat} (hk : k < 4) : (RB ka ra ca N C)[k]? = some (rowb ka ra ca N C k) := by
  rcases (show k = 0 ∨ k = 1 ∨ k = 2 ∨ k = 3 by omega) with rfl | rfl | rfl | rfl <;> rfl
theorem RB_set {ka : Nat → ClassId} {ra ca ra' ca' : Nat → Nat} {N N' : NN} {C C' : CC} {k : Nat} (hk : k < 4) (h : ∀ j, j ≠ k → rowb ka ra' ca' N' C' j = rowb ka ra ca N C j) : (RB ka ra' ca' N' C').set k [] = (RB ka ra ca N C).set k [] := by
  rcases (show k = 0 ∨ k = 1 ∨ k = 2 ∨ k = 3 by omega) with rfl | rfl | rfl | rfl
  · show [[], rowb ka ra' ca' N' C' 1, rowb ka ra' ca' N' C' 2, rowb ka ra' ca' N' C' 3] = [[], rowb ka ra ca N C 1, rowb ka ra ca N C 2, rowb ka ra ca N C 3]
    rw [h 1 (by decide), h 2 (by decide), h 3 (by decide)]
  · show [rowb ka ra' ca' N' C' 0, [], rowb ka ra' ca' N' C' 2, rowb ka ra' ca' N' C' 3] = [rowb ka ra ca N C 0, [], rowb ka ra ca N C 2, rowb ka ra ca N C 3]
    rw [h 0 (by decide), h 2 (by decide), h 3 (by decide)]
  · show [rowb ka ra' ca' N' C' 0, rowb ka ra' ca' N' C' 1, [], rowb ka ra' ca' N' C' 3] = [rowb ka ra ca N C 0, rowb ka ra ca N C 1, [], rowb ka ra ca N C 3]
    rw [h 0 (by decide), h 1 (by decide), h 3 (by decide)]
  · show [rowb ka ra' ca' N' C' 0, rowb ka ra' ca' N' C' 1, rowb ka ra' ca' N' C' 2, []] = [rowb ka ra ca N C 0, rowb ka ra ca N C 1, rowb ka ra ca N C 2, []]
    rw [h 0 (by decide), h 1 (by decide), h 2 (by decide)]
section RW
variable {D : va_G} {z : Nat} {H : Heap} {ka : Nat → ClassId} {ra ca ra' ca' : Nat → Nat} {N N' : NN} {C C' : CC} {k o : Nat} {L R : va_W}
theorem rows_open (hk : k < 4) (h3 : ¬ N 9 k = 3) (hw : wdH D z (L ++ (rows ka ra ca N C ++ R)) H) : wdH D z (L ++ (([(ra k, .inr (3, [.int (nI (N 9 k)), .ref (ca k)])), (ca k, .inl (ka 0, N 10 k, .inl (rof (C k))))] : va_W) ++ (rowsX ka ra ca N C k ++ R))) H := by
  have h := hw.perm (List.Perm.append_left L ((set_flat (RB_at hk)).append_right R))
  rw [show rowb ka ra ca N C k = [(ra k, .inr (3, [.int (nI (N 9 k)), .ref (ca k)])), (ca k, .inl (ka 0, N 10 k, .inl (rof (C k))))] from if_neg h3, List.append_assoc] at h
  exact h
theorem rows_drop (hk : k < 4) (hw : wdH D z (L ++ (rows ka ra ca N C ++ R)) H) : wdH D z (L ++ (rowsX ka ra ca N C k ++ R)) H := by
  have h1 : (rows ka ra ca N C ++ R).Perm ((rowsX ka ra ca N C k ++ R) ++ rowb ka ra ca N C k) := ((set_flat (RB_at hk)).append_right R).trans ((List.Perm.of_eq (List.append_assoc _ _ _)).trans List.perm_append_comm)
  have h := hw.perm (List.Perm.append_left L h1)
  rw [← List.append_assoc L] at h
  exact h.drop
theorem rows_shut (hk : k < 4) (h3 : ¬ N' 9 k = 3) (hX : ∀ j, j ≠ k → rowb ka ra' ca' N' C' j = rowb ka ra ca N C j) (hw : wdH D z (L ++ (([(ra' k, .inr (3, [.int (nI (N' 9 k)), .ref (ca' k)])), (ca' k, .inl (ka 0, N' 10 k, .inl (rof (C' k))))] : va_W) ++ (rowsX ka ra ca N C k ++ R))) H) : wdH D z (L ++ (rows ka ra' ca' N' C' ++ R)) H := by
  have e : rowsX ka ra ca N C k = rowsX ka ra' ca' N' C' k := by unfold rowsX; rw [RB_set hk hX]
  rw [e] at hw
  refine hw.perm (List.Perm.append_left L ?_)
  have h := ((set_flat (RB_at (ka := ka) (ra := ra') (ca := ca') (N := N') (C := C') hk)).append_right R).symm
  rw [show rowb ka ra' ca' N' C' k = [(ra' k, .inr (3, [.int (nI (N' 9 k)), .ref (ca' k)])), (ca' k, .inl (ka 0, N' 10 k, .inl (rof (C' k))))] from if_neg h3, List.append_assoc] at h
  exact h
theorem rows_none (hk : k < 4) (h3 : N' 9 k = 3) (hX : ∀ j, j ≠ k → rowb ka ra' ca' N' C' j = rowb ka ra ca N C j) (hw : wdH D z (L ++ (rowsX ka ra ca N C k ++ R)) H) : wdH D z (L ++ (rows ka ra' ca' N' C' ++ R)) H := by
  have e : rowsX ka ra ca N C k = rowsX ka ra' ca' N' C' k := by unfold rowsX; rw [RB_set hk hX]
  rw [e] at hw
  refine hw.perm (List.Perm.append_left L ?_)
  have h := ((set_flat (RB_at (ka := ka) (ra := ra') (ca := ca') (N := N') (C := C') hk)).append_right R).symm
  rw [show rowb ka ra' ca' N' C' k = [] from if_pos h3] at h
  exact h
theorem rowsX_open (ho : o < 4) (hne : k ≠ o) (h3 : ¬ N 9 o = 3) (hw : wdH D z (L ++ (rowsX ka ra ca N C k ++ R)) H) : wdH D z (L ++ (([(ra o, .inr (3, [.int (nI (N 9 o)), .ref (ca o)])), (ca o, .inl (ka 0, N 10 o, .inl (rof (C o))))] : va_W) ++ (rowsY ka ra ca N C k o ++ R))) H := by
  have ha : ((RB ka ra ca N C).set k [])[o]? = some (rowb ka ra ca N C o) := by
    rw [List.getElem?_set_ne hne]
    exact RB_at ho
  have h := hw.perm (List.Perm.append_left L ((set_flat ha).append_right R))
  rw [show rowb ka ra ca N C o = [(ra o, .inr (3, [.int (nI (N 9 o)), .ref (ca o)])), (ca o, .inl (ka 0, N 10 o, .inl (rof (C o))))] from if_neg h3, List.append_assoc] at h
  exact h
theorem rowsX_shut (ho : o < 4) (hk : k < 4) (hne : k ≠ o) (h3 : ¬ N' 9 o = 3) (hX : ∀ j, j ≠ o → rowb ka ra ca N' C' j = rowb ka ra ca N C j) (hw : wdH D z (L ++ (([(ra o, .inr (3, [.int (nI (N' 9 o)), .ref (ca o)])), (ca o, .inl (ka 0, N' 10 o, .inl (rof (C' o))))] : va_W) ++ (rowsY ka ra ca N C k o ++ R))) H) : wdH D z (L ++ (rowsX ka ra ca N' C' k ++ R)) H := by
  have e : rowsY ka ra ca N C k o = rowsY ka ra ca N' C' k o := by
    unfold rowsY
    rw [List.set_comm _ _ hne, List.set_comm (a := ([] : va_W)) (b := ([] : va_W)) (l := RB ka ra ca N' C') hne, RB_set ho hX]
  rw [e] at hw
  have ha : ((RB ka ra ca N' C').set k [])[o]? = some (rowb ka ra ca N' C' o) := by
    rw [List.getElem?_set_ne hne]
    exact RB_at ho
  refine hw.perm (List.Perm.append_left L ?_)
  have h := ((set_flat ha).append_right R).symm
  rw [show rowb ka ra ca N' C' o = [(ra o, .inr (3, [.int (nI (N' 9 o)), .ref (ca o)])), (ca o, .inl (ka 0, N' 10 o, .inl (rof (C' o))))] from if_neg h3, List.append_assoc] at h
  exact h
end RW
theorem rowb_C {ka : Nat → ClassId} {ra ca : Nat → Nat} {N N' : NN} {C C' : CC} {j : Nat} (h9 : N' 9 j = N 9 j) (h10 : N' 10 j = N 10 j) (hC : rof (C' j) = rof (C j)) : rowb ka ra ca N' C' j = rowb ka ra ca N C j := by
  unfold rowb
  rw [h9, h10, hC]
theorem rof_upd {C : CC} {k i : Nat} {x : Int32} (hi : i < 60) : upd (rof (C k)) i x = rof (upC C k i x k) := by
  funext j
  unfold upd rof upC
  rw [if_pos rfl]
  unfold upd
  by_cases e : j = i
  · rw [if_pos e, if_pos (by omega), if_pos e]
  · rw [if_neg e]
    by_cases c : j < 60
    · rw [if_pos c, if_pos c, if_neg e]
    · rw [if_neg c, if_neg c]
theorem upC_ne {C : CC} {k i j : Nat} {x : Int32} (h : j ≠ k) : upC C k i x j = C j := by
  unfold upC
  rw [if_neg h]
theorem zC_rof {C : CC} {k : Nat} : rof (zC C k 60 k) = fun _ => 0 := by
  funext j
  unfold rof zC
  by_cases c : j < 60
  · rw [if_pos c, if_pos ⟨rfl, c⟩]
  · rw [if_neg c]
theorem zC_ne {C : CC} {k j : Nat} (h : j ≠ k) : rof (zC C k 60 j) = rof (C j) := by
  funext i
  show (if i < 60 then (if j = k ∧ i < 60 then 0 else C j i) else 0) = (if i < 60 then C j i else 0)
  rw [if_neg (show ¬ (j = k ∧ i < 60) from fun q => h q.1)]
theorem cpC_ne {C : CC} {k i o j n x : Nat} (h : x ≠ o) : rof (cpC C k i o j n x) = rof (C x) := by
  funext y
  show (if y < 60 then (if x = o ∧ j ≤ y ∧ y < j + n then C k (i + (y - j)) else C x y) else 0) = (if y < 60 then C x y else 0)
  rw [if_neg (show ¬ (x = o ∧ j ≤ y ∧ y < j + n) from fun q => h q.1)]
theorem cpC_rof {C : CC} {k i o j n : Nat} (hi : i + n ≤ 60) (hj : j + n ≤ 60) : va_cpy (rof (C k)) (rof (C o)) i j n = rof (cpC C k i o j n o) := by
  funext y
  unfold va_cpy rof cpC
  by_cases c : j ≤ y ∧ y < j + n
  · rw [if_pos c, if_pos (by omega), if_pos (by omega), if_pos ⟨rfl, c⟩]
  · rw [if_neg c]
    by_cases c2 : y < 60
    · rw [if_pos c2, if_pos c2, if_neg (fun q => c q.2)]
    · rw [if_neg c2, if_neg c2]
theorem shf_new {N : NN} {ra : Nat → Nat} {k q Q n : Nat} (hk : k < 4) (hQ : Q ≠ 3) : va_up (shf N ra) k (some q) = shf (up (up (f0 N) 9 k Q) 10 k n) (fun j => if j = k then q else ra j) := by
  funext j
  show (if j = k then some q else (if N 9 j = 3 ∨ 4 ≤ j then none else some (ra j))) = (if upN (N 9) k Q j = 3 ∨ 4 ≤ j then none else some (if j = k then q else ra j))
  unfold upN
  by_cases e : j = k
  · rw [if_pos e, if_pos e, if_neg (by omega), if_pos e]
  · rw [if_neg e, if_neg e, if_neg e]
theorem shf_lose {N : NN} {ra : Nat → Nat} {k : Nat} : va_up (shf N ra) k none = shf (up N 9 k 3) ra := by
  funext j
  show (if j = k then none else (if N 9 j = 3 ∨ 4 ≤ j then none else some (ra j))) = (if upN (N 9) k 3 j = 3 ∨ 4 ≤ j then none else some (ra j))
  unfold upN
  by_cases e : j = k
  · rw [if_pos e, if_pos e, if_pos (Or.inl rfl)]
  · rw [if_neg e, if_neg e]
section CPY
variable {p : Program} {l : Launch} {e : Env} {R : Room} {s : State} {m : MethodId} {args : Array Value} {below : List Frame} {meth : Method} {c : Code} {H : Heap} {locs : List Loc} {cells slots : Nat} {Q : State → Prop}
variable {D : va_G} {ka : Nat → ClassId} {cc : ByteArray} {nL pc : Nat} {ls : Array Slot} {rest : List Value} {own : String} {ws : va_W} {index : Nat} {H0 : Heap} {A : Nat → Prop}
theorem n_copyi (X : Cx p s m args c cc nL own D ka) (hls : ls.size = nL) (hlink : Cond.methodLink own index arraycopyName ∈ gtb) (hnat : Cond.native arraycopyName ∈ gtb) (hstat : Cond.static arraycopyName ∈ gtb) (hini : Cond.initialized "java/lang/System" ∈ gtb) (hP : va_P D vwCl ws H) (hD : va_D A ws) (hS : va_S A H0 H locs) (q0 q1 : Nat) {a a0 n0 n1 i j n : Nat} {f g : Nat → Int32} (ha0 : ws[q0]? = some (a0, .inl (ka 0, n0, .inl f))) (ha1 : ws[q1]? = some (a, .inl (ka 0, n1, .inl g))) (hn0 : n0 ≤ 60) (hn1 : n1 ≤ 60) (hi : i + n ≤ n0) (hj : j + n ≤ n1)
    (hframes : 1 ≤ R.frames) (hlocals : (rest.map fun v => v.category).sum + (nativeFrameWords "java/lang/System" "arraycopy" 5 + 11) ≤ R.locals) (hdg : decode cc pc = .ok (.invokestatic index, 3))
    (kk : ∀ (H1 : Heap) (locs1 : List Loc), va_P D vwCl (ws.set q1 (a, .inl (ka 0, n1, .inl (va_cpy f g i j n)))) H1 → va_D A (ws.set q1 (a, .inl (ka 0, n1, .inl (va_cpy f g i j n)))) → va_S A H0 H1 locs1 → W p l e R s m args below meth c H1 locs1 cells slots Q (F0 m (pc + 3) ls rest)) : W p l e R s m args below meth c H locs cells slots Q (F0 m pc ls (.int (nI n) :: .int (nI j) :: .ref a :: .int (nI i) :: .ref a0 :: rest)) := by
  obtain ⟨hx, hb, hml, hown, hts, hE⟩ := X
  have hp : ∀ x : Nat, x < 1000 → ¬ (nI x < 0) := fun x hx h => by
    rw [ii_lt, nT (by omega)] at h
    have : (0 : Int32).toInt = 0 := rfl
    omega
  have ci : (nI i).toNatClampNeg = i := cl_nI (by omega)
  have cj : (nI j).toNatClampNeg = j := cl_nI (by omega)
  have cn : (nI n).toNatClampNeg = n := cl_nI (by omega)
  exact va_copyi hx hb (hml.trans hls.symm) hown (hts _ hlink) (hts _ hnat) (hts _ hstat) (hts _ hini) hE.1 hP hD hS q0 q1 0 0 (ty := .int) ha0 ha1 rfl rfl rfl (hp i (by omega)) (hp j (by omega)) (hp n (by omega)) (by rw [ci, cn]; exact hi) (by rw [cj, cn]; exact hj) (fun _ _ => rfl) hframes hlocals hdg (by rw [ci, cj, cn]; exact kk)
end CPY
section RW2
variable {D : va_G} {z : Nat} {H : Heap} {ka : Nat → ClassId} {ra ca ra' ca' : Nat → Nat} {N N' : NN} {C C' : CC} {k o q c la n : Nat} {f : Nat → Int32} {L R : va_W}
theorem rows_shut2 (hk : k < 4) (hr : ra' k = q) (hc : ca' k = c) (h9 : N' 9 k = la) (h10 : N' 10 k = n) (hf : rof (C' k) = f) (h3 : ¬ la = 3) (hX : ∀ j, j ≠ k → rowb ka ra' ca' N' C' j = rowb ka ra ca N C j) (hw : wdH D z (L ++ (([(q, .inr (3, [.int (nI la), .ref c])), (c, .inl (ka 0, n, .inl f))] : va_W) ++ (rowsX ka ra ca N C k ++ R))) H) : wdH D z (L ++ (rows ka ra' ca' N' C' ++ R)) H := by
  subst hr hc h9 h10 hf
  exact rows_shut hk h3 hX hw
theorem rowsX_shut2 (ho : o < 4) (hk : k < 4) (hne : k ≠ o) (h9 : N' 9 o = la) (h10 : N' 10 o = n) (hf : rof (C' o) = f) (h3 : ¬ la = 3) (hX : ∀ j, j ≠ o → rowb ka ra ca N' C' j = rowb ka ra ca N C j) (hw : wdH D z (L ++ (([(ra o, .inr (3, [.int (nI la), .ref (ca o)])), (ca o, .inl (ka 0, n, .inl f))] : va_W) ++ (rowsY ka ra ca N C k o ++ R))) H) : wdH D z (L ++ (rowsX ka ra ca N' C' k ++ R)) H := by
  subst h9 h10 hf
  exact rowsX_shut ho hk hne h3 hX hw
end RW2
theorem rowb_D {ka : Nat → ClassId} {ra ca ra' ca' : Nat → Nat} {N N' : NN} {C C' : CC} {j : Nat} (hr : ra' j = ra j) (hc : ca' j = ca j) (h9 : N' 9 j = N 9 j) (h10 : N' 10 j = N 10 j) (hC : rof (C' j) = rof (C j)) : rowb ka ra' ca' N' C' j = rowb ka ra ca N C j := by
  unfold rowb
  rw [h9, h10, hC, hr, hc]
