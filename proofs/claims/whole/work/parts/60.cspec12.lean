/-! ===== blocks moved to the front ===== -/
theorem mvf1 {α : Type} (a b x : List α) : (a ++ (b ++ x)).Perm (b ++ (a ++ x)) := by
  rw [← List.append_assoc, ← List.append_assoc]
  exact List.Perm.append_right x List.perm_append_comm
theorem mvf2 {α : Type} (a b c x : List α) : (a ++ (b ++ (c ++ x))).Perm (c ++ (a ++ (b ++ x))) := (List.Perm.append_left a (mvf1 b c x)).trans (mvf1 a c _)
theorem mvf3 {α : Type} (a b c d x : List α) : (a ++ (b ++ (c ++ (d ++ x)))).Perm (d ++ (a ++ (b ++ (c ++ x)))) := (List.Perm.append_left a (mvf2 b c d x)).trans (mvf1 a d _)
theorem mvf4 {α : Type} (a b c d e x : List α) : (a ++ (b ++ (c ++ (d ++ (e ++ x))))).Perm (e ++ (a ++ (b ++ (c ++ (d ++ x))))) := (List.Perm.append_left a (mvf3 b c d e x)).trans (mvf1 a e _)
theorem mvf5 {α : Type} (a b c d e f x : List α) : (a ++ (b ++ (c ++ (d ++ (e ++ (f ++ x)))))).Perm (f ++ (a ++ (b ++ (c ++ (d ++ (e ++ x)))))) := (List.Perm.append_left a (mvf4 b c d e f x)).trans (mvf1 a f _)
theorem wdH.skip {D : va_G} {z : Nat} {a b x : va_W} {H : Heap} (h : wdH D z (a ++ (b ++ x)) H) : wdH D z (a ++ x) H := by
  have h1 : (a ++ (b ++ x)).Perm ((a ++ x) ++ b) := (mvf1 a b x).trans List.perm_append_comm
  exact (h.perm h1).drop
theorem agst_no {N : NN} {k q : Nat} {i n : Int} (h : N 9 k = 3) : agst N k q i n = 1 := by
  unfold agst
  rw [if_neg (fun x => x.1 h), if_pos h]
theorem agst_cast {N : NN} {k q : Nat} {i n : Int} (h : ¬ N 9 k = 3) (h2 : ¬ N 9 k = q) : agst N k q i n = 2 := by
  unfold agst
  rw [if_pos ⟨h, h2⟩]
theorem agst_size {N : NN} {k q : Nat} {i n : Int} (h : ¬ N 9 k = 3) (h2 : N 9 k = q) (hn : n < 0) : agst N k q i n = 4 := by
  unfold agst
  rw [if_neg (fun x => x.2 h2), if_neg h, if_pos hn]
theorem agst_ix {N : NN} {k q : Nat} {i n : Int} (h : ¬ N 9 k = 3) (h2 : N 9 k = q) (hn : ¬ n < 0) (hx : ¬ (0 ≤ i ∧ i ≤ ((N 10 k : Nat) : Int) ∧ 0 ≤ n ∧ n ≤ ((N 10 k : Nat) : Int) - i)) : agst N k q i n = 3 := by
  unfold agst
  rw [if_neg (fun x => x.2 h2), if_neg h, if_neg hn, if_pos (by omega)]
theorem agst_in {N : NN} {k q : Nat} {i n : Int} (h : ¬ N 9 k = 3) (h2 : N 9 k = q) (hx : 0 ≤ i ∧ i ≤ ((N 10 k : Nat) : Int) ∧ 0 ≤ n ∧ n ≤ ((N 10 k : Nat) : Int) - i) : agst N k q i n = 0 := by
  unfold agst
  rw [if_neg (fun x => x.2 h2), if_neg h, if_neg (by omega), if_neg (by omega)]
theorem sp_night_no {N : NN} {C : CC} {k q n : Nat} {I w : Int} {x : Nat} (hk : k < 4) (hq : q < 3) (hn : n ≤ 20) (hw : (0 ≤ w ∧ w ≤ 3) ∨ (10 ≤ w ∧ w ≤ 14)) (h : agst N k q I (2 * (n : Int)) = x) (hx : x ≠ 0) : sp_night N C (k : Int) (q : Int) I (n : Int) w = (-10 - nI x, ff N x, C) := by
  unfold sp_night
  rw [if_pos (by omega), if_pos (by omega)]
  simp only [Int.toNat_natCast]
  rw [h, if_neg hx]
theorem sp_vault_no {N : NN} {C : CC} {k q : Nat} {I n : Int} {x : Nat} (hk : k < 4) (hq : q < 3) (h : agst N k q I n = x) (hx : x ≠ 0) : sp_vault N C (k : Int) (q : Int) I n = (-10 - nI x, ff N x, C) := by
  unfold sp_vault
  rw [if_pos (by omega), if_pos (by omega)]
  simp only [Int.toNat_natCast]
  rw [h, if_neg hx]
theorem VR_nvt {N P : NN} {ta : Nat → Nat} {wf df : Nat → Int32} {tf : Nat → Option Nat} (h : VR P ta wf df tf) : VR (nvt N P) ta wf df tf := by
  refine ⟨fun j hj => ?_, fun j hj => ?_, h.2.2⟩
  · rw [h.1 j hj]
    exact congrArg nI (show P 1 j = (if j < P 0 0 then P 1 j else N 1 j) from (if_pos hj).symm)
  · rw [h.2.1 j hj]
    exact congrArg nI (show P 5 j = (if j < P 0 2 then P 5 j else N 5 j) from (if_pos hj).symm)
theorem tkw_nvt {N P : NN} {ta : Nat → Nat} : tkw ta P (P 0 1) = tkw ta (nvt N P) (nvt N P 0 1) := by
  show tkw ta P (P 0 1) = tkw ta (nvt N P) (P 0 1)
  apply tkw_congr
  intro j hj
  exact ⟨rfl, (show P 2 j = (if j < P 0 1 then P 2 j else N 2 j) from (if_pos hj).symm), (show P 3 j = (if j < P 0 1 then P 3 j else N 3 j) from (if_pos hj).symm), (show P 4 j = (if j < P 0 1 then P 4 j else N 4 j) from (if_pos hj).symm)⟩
theorem mvf6 {α : Type} (a b c d e f g x : List α) : (a ++ (b ++ (c ++ (d ++ (e ++ (f ++ (g ++ x))))))).Perm (g ++ (a ++ (b ++ (c ++ (d ++ (e ++ (f ++ x))))))) := (List.Perm.append_left a (mvf5 b c d e f g x)).trans (mvf1 a g _)
