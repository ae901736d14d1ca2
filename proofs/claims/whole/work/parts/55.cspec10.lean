/-! ===== takers: of which kind, told, rung; one taker in front ===== -/
theorem tkc_up4 {ta : Nat → Nat} {N : NN} {j x : Nat} : (ta j, .inr (kcl (N 2 j), [.int (nI j), .int (nI (N 3 j)), .int (nI x)])) = tkc ta (up N 4 j x) j := by
  simp [tkc, up, upN]
theorem tkc_up3 {ta : Nat → Nat} {N : NN} {j x : Nat} : (ta j, .inr (kcl (N 2 j), [.int (nI j), .int (nI x), .int (nI (N 4 j))])) = tkc ta (up N 3 j x) j := by
  simp [tkc, up, upN]
theorem up_rows {N : NN} {r j x : Nat} {ta : Nat → Nat} {n : Nat} : ∀ i, i < n → i ≠ j → ta i = ta i ∧ N 2 i = up N r j x 2 i ∧ N 3 i = up N r j x 3 i ∧ N 4 i = up N r j x 4 i := fun i _ h => ⟨rfl, (up_ne h).symm, (up_ne h).symm, (up_ne h).symm⟩
theorem up_rows2 {N : NN} {r j x y : Nat} {ta : Nat → Nat} {n : Nat} : ∀ i, i < n → i ≠ j → ta i = ta i ∧ up N r j y 2 i = up N r j x 2 i ∧ up N r j y 3 i = up N r j x 3 i ∧ up N r j y 4 i = up N r j x 4 i := fun i _ h => ⟨rfl, by rw [up_ne h, up_ne h], by rw [up_ne h, up_ne h], by rw [up_ne h, up_ne h]⟩
section TI
variable {p : Program} {l : Launch} {e : Env} {R : Room} {s : State} {m : MethodId} {args : Array Value} {below : List Frame} {meth : Method} {c : Code} {H : Heap} {locs : List Loc} {cells slots : Nat} {Q : State → Prop}
variable {D : va_G} {ka : Nat → ClassId} {cc : ByteArray} {nL z pc q kd q0 : Nat} {ls : Array Slot} {rest : List Value} {own : String} {ws : va_W} {fs : List Value} {index : Nat} {H0 : Heap}
theorem tk_instS (X : Cx p s m args c cc nL own D ka) (hP : va_P D vwCl ws H) (he : ws[q0]? = some (q, .inr (kcl kd, fs))) (hkd : kd ≤ 2) (hlink : Cond.classLink own index "FourVault$Singer" ∈ gtb) (hdg : decode cc pc = .ok (.instanceof index, 3))
    (kk : W p l e R s m args below meth c H locs cells slots Q (F0 m (pc + 3) ls (.int (bI (1 ≤ kd)) :: rest))) : W p l e R s m args below meth c H locs cells slots Q (F0 m pc ls (.ref q :: rest)) := by
  obtain ⟨hx, hb, hml, hown, hts, hE⟩ := X
  rcases kcl_or hkd with ⟨rfl, h⟩ | ⟨rfl, h⟩ | ⟨rfl, h⟩ <;> rw [h] at he
  · exact va_instNo hx hb hown (hts _ hlink) (hE.2.2.2.1 ("FourVault$Taker", "FourVault$Singer") (by simp [ncastW])) (va_recv hE.1 hP (ci := 6) (q0 := q0) rfl he) hdg kk
  · exact va_instS hx hb hown (hts _ hlink) (hE.1.1 5 (RX5, TX5, 3) rfl).2 (va_recv hE.1 hP (ci := 5) (q0 := q0) rfl he) hdg kk
  · exact va_instY hx hb hown (hts _ hlink) (hE.2.2.1 ("FourVault$Widow", "FourVault$Singer") (by simp [castW])) (va_recv hE.1 hP (ci := 9) (q0 := q0) rfl he) hdg kk
theorem tk_instW (X : Cx p s m args c cc nL own D ka) (hP : va_P D vwCl ws H) (he : ws[q0]? = some (q, .inr (kcl kd, fs))) (hkd : kd ≤ 2) (hlink : Cond.classLink own index "FourVault$Widow" ∈ gtb) (hdg : decode cc pc = .ok (.instanceof index, 3))
    (kk : W p l e R s m args below meth c H locs cells slots Q (F0 m (pc + 3) ls (.int (bI (2 ≤ kd)) :: rest))) : W p l e R s m args below meth c H locs cells slots Q (F0 m pc ls (.ref q :: rest)) := by
  obtain ⟨hx, hb, hml, hown, hts, hE⟩ := X
  rcases kcl_or hkd with ⟨rfl, h⟩ | ⟨rfl, h⟩ | ⟨rfl, h⟩ <;> rw [h] at he
  · exact va_instNo hx hb hown (hts _ hlink) (hE.2.2.2.1 ("FourVault$Taker", "FourVault$Widow") (by simp [ncastW])) (va_recv hE.1 hP (ci := 6) (q0 := q0) rfl he) hdg kk
  · exact va_instNo hx hb hown (hts _ hlink) (hE.2.2.2.1 ("FourVault$Singer", "FourVault$Widow") (by simp [ncastW])) (va_recv hE.1 hP (ci := 5) (q0 := q0) rfl he) hdg kk
  · exact va_instS hx hb hown (hts _ hlink) (hE.1.1 9 (RX9, TX9, 3) rfl).2 (va_recv hE.1 hP (ci := 9) (q0 := q0) rfl he) hdg kk
end TI
def tlr (kd nv : Nat) : Int32 := if kd = 1 then nI (nv + 100) else if kd = 2 then nI (2 * nv + 100) else nI nv
def tlv (kd : Nat) (tv : Int32) : Int32 := if kd = 1 then bg (bg tv 2) 1 else if kd = 2 then bg (bg (bg (bg tv 3) 2) 1) 1 else bg tv 1
def rgr (kd : Nat) (nu : Int32) : Int32 := if kd = 2 then nI 40 else nu
def rgv (kd : Nat) (tv : Int32) : Int32 := if kd = 2 then bg tv 5 else bg tv 4
/-- x in front of l: the j-th out, x in its place -/
theorem perm_swap {α : Type} {l : List α} {i : Nat} {x y : α} (h : l[i]? = some y) : (x :: l).Perm (y :: l.set i x) :=
  ((perm_at h).cons x).trans ((List.Perm.swap y x _).trans ((perm_back x (List.getElem?_eq_some_iff.mp h).1).cons y))
theorem set_self {α : Type} : ∀ {l : List α} {i : Nat} {x : α}, l[i]? = some x → l.set i x = l
  | [], i, x, h => by simp at h
  | a :: l, 0, x, h => by
    have h : a = x := by simpa using h
    rw [h]; rfl
  | a :: l, i + 1, x, h => by
    have h : l[i]? = some x := by simpa using h
    show a :: l.set i x = a :: l
    rw [set_self h]
theorem upd_upd {f : Nat → Int32} {k : Nat} {x y : Int32} : upd (upd f k x) k y = upd f k y := by
  funext j
  unfold upd
  split <;> rfl
theorem rd_of {D : va_G} {H : Heap} {w X : va_W} {ka : Nat → ClassId} {b : Nat → Nat} {N : NN} (h : va_P D vwCl (w ++ (rdw ka b N ++ X)) H) : va_P D vwCl (rdw ka b N ++ ([] : va_W)) H := by
  rw [List.append_nil]
  exact h.right.left
theorem kinds_T {ta : Nat → Nat} {N : NN} {n j ra kq : Nat} (h : j < n) : ((ra, .inr (kcl kq, [.int (nI j), .int (nI (N 3 j)), .int (nI (N 4 j))])) :: (tkw ta N n).eraseIdx j).Perm (tkw (fun i => if i = j then ra else ta i) (up N 2 j kq) n) := by
  have hlen : (tkw ta N n).length = n := by unfold tkw; rw [List.length_map, List.length_range]
  refine (perm_back _ (by rw [hlen]; exact h)).trans ?_
  have e : (ra, .inr (kcl kq, [.int (nI j), .int (nI (N 3 j)), .int (nI (N 4 j))])) = tkc (fun i => if i = j then ra else ta i) (up N 2 j kq) j := by simp [tkc, up, upN]
  rw [e, tkw_set h (fun i _ hi => ⟨(if_neg hi).symm, (up_ne hi).symm, (up_ne hi).symm, (up_ne hi).symm⟩)]
theorem kinds_in {D : va_G} {z : Nat} {H : Heap} {L er R T : va_W} {x old : Nat × va_E} (hT : (x :: er).Perm T) (hw : wdH D z ((x :: L) ++ ((old :: er) ++ R)) H) : wdH D z (L ++ (T ++ (old :: R))) H := by
  refine hw.perm ?_
  have e1 : (x :: L) ++ ((old :: er) ++ R) = x :: (L ++ (old :: (er ++ R))) := rfl
  rw [e1]
  refine List.perm_middle.symm.trans (List.Perm.append_left L ?_)
  refine ((List.perm_middle.symm : (old :: (er ++ R)).Perm (er ++ old :: R)).cons x).trans ?_
  exact List.Perm.append_right (old :: R) hT
theorem kinds_out {D : va_G} {z : Nat} {H : Heap} {L er R T : va_W} {x old : Nat × va_E} (hT : (x :: er).Perm T) (hw : wdH D z (L ++ (T ++ (old :: R))) H) : wdH D z (L ++ ((old :: er) ++ R)) H := by
  refine wdH.drop (w2 := [x]) (hw.perm ?_)
  have h1 : (T ++ (old :: R)).Perm ((x :: er) ++ (old :: R)) := List.Perm.append_right _ hT.symm
  have h2 : ((x :: er) ++ (old :: R)).Perm (x :: (old :: (er ++ R))) := (List.perm_middle : (er ++ old :: R).Perm (old :: (er ++ R))).cons x
  refine (List.Perm.append_left L (h1.trans h2)).trans ?_
  refine List.perm_middle.trans ?_
  have e2 : (L ++ ((old :: er) ++ R)) ++ [x] = (L ++ (old :: (er ++ R))) ++ [x] := rfl
  rw [e2]
  exact (List.perm_append_comm (l₁ := [x])).trans (List.Perm.refl _)
/-! ===== sending: the rows that are weighed give the reference's digits ===== -/
theorem fdx_congr {P Q : Nat → Bool} {n : Nat} (h : ∀ g, g < n → P g = Q g) : fdx P n = fdx Q n := by
  rcases Nat.lt_or_ge (fdx Q n) n with q | q
  · exact fdx_first q (by rw [h _ q]; exact fdx_yes q) (fun j hj => by rw [h j (by omega)]; exact fdx_no hj)
  · have e : fdx Q n = n := Nat.le_antisymm (fdx_le Q n) q
    rw [e]
    exact fdx_none (fun j hj => by rw [h j hj]; exact fdx_no (by rw [e]; exact hj))
theorem fgd_gsl {can dp Gf : Nat → Nat} {Mf : Nat → Nat → Nat} {ng nt a tk : Nat} (hng : ng ≤ 5) (h : wgd can dp ng nt Mf Gf 0) (ha : a < nt) (htk : tk < 32) : fgd Gf dp Mf ng a tk = gsl can dp ng (nt - a - 1) a tk := by
  unfold fgd gsl
  apply fdx_congr
  intro g hg
  unfold fgp
  rw [show nt - a - 1 = nt - (a + 1) by omega, h.1 a (Nat.zero_le _) (by omega) tk htk, show nt - a = nt - (a + 1) + 1 by omega]
  have e : opt Gf dp a tk (Mf (a + 1)) g = opt can dp a tk (bsv can dp ng (nt - (a + 1)) (a + 1)) g := by
    unfold opt
    rw [h.2 a (Nat.zero_le _) ha, h.1 (a + 1) (Nat.zero_le _) ha (tk ||| 2 ^ g) (or_lt htk (by omega))]
  rw [e]
theorem grd_mod {can dp Gf : Nat → Nat} {Mf : Nat → Nat → Nat} {ng nt : Nat} (hng : ng ≤ 5) (h : wgd can dp ng nt Mf Gf 0) : ∀ a, a ≤ nt → grd can dp ng nt 0 0 % (ng + 1) ^ (nt - a) = grd can dp ng (nt - a) a (tkn Gf dp Mf ng nt a)
  | 0, _ => Nat.mod_eq_of_lt (grd_all can dp ng nt 0 0).1
  | a + 1, ha => by
    have ih := grd_mod hng h a (by omega)
    have ht := tkn_lt (Gf := Gf) (dp := dp) (Mf := Mf) (nt := nt) hng a
    have hk : tkn Gf dp Mf ng nt (a + 1) = ntk ng (tkn Gf dp Mf ng nt a) (gsl can dp ng (nt - a - 1) a (tkn Gf dp Mf ng nt a)) := by
      rw [tkn, if_pos (by omega), fgd_gsl hng h (by omega) ht]
    rw [hk]
    generalize tkn Gf dp Mf ng nt a = tk at ih ⊢
    rw [show nt - a = (nt - a - 1) + 1 by omega, grd] at ih
    have hlt := (grd_all can dp ng (nt - a - 1) (a + 1) (ntk ng tk (gsl can dp ng (nt - a - 1) a tk))).1
    rw [show nt - (a + 1) = nt - a - 1 by omega]
    have e : grd can dp ng nt 0 0 % (ng + 1) ^ (nt - a - 1) = grd can dp ng nt 0 0 % (ng + 1) ^ (nt - a - 1 + 1) % (ng + 1) ^ (nt - a - 1) := by
      rw [Nat.mod_mod_of_dvd _ (Nat.pow_dvd_pow _ (Nat.le_succ _))]
    rw [e, ih, Nat.mul_comm, Nat.mul_add_mod, Nat.mod_eq_of_lt hlt]
theorem fgd_dgt {can dp Gf : Nat → Nat} {Mf : Nat → Nat → Nat} {ng nt a : Nat} (hng : ng ≤ 5) (h : wgd can dp ng nt Mf Gf 0) (ha : a < nt) : fgd Gf dp Mf ng a (tkn Gf dp Mf ng nt a) = dgt ng nt (grd can dp ng nt 0 0) a := by
  have ih := grd_mod hng h a (by omega)
  have ht := tkn_lt (Gf := Gf) (dp := dp) (Mf := Mf) (nt := nt) hng a
  rw [fgd_gsl hng h ha ht]
  unfold dgt
  rw [← dgt_sub (B := ng + 1) (r := nt - a) (j := nt - 1 - a) (by omega) (by omega), ih]
  generalize tkn Gf dp Mf ng nt a = tk at ih ⊢
  rw [show nt - a = (nt - a - 1) + 1 by omega, grd, show nt - 1 - a = nt - a - 1 by omega]
  have hlt := (grd_all can dp ng (nt - a - 1) (a + 1) (ntk ng tk (gsl can dp ng (nt - a - 1) a tk))).1
  have hle : gsl can dp ng (nt - a - 1) a tk ≤ ng := fdx_le _ _
  rw [Nat.mul_comm, Nat.mul_add_div (Nat.pow_pos (by omega)), Nat.div_eq_of_lt hlt, Nat.add_zero, Nat.mod_eq_of_lt (by omega), Nat.add_sub_cancel, Nat.add_zero]
theorem gdo_snd {can dp Gf : Nat → Nat} {Mf : Nat → Nat → Nat} {ng nt k : Nat} (hng : ng ≤ 5) (h : wgd can dp ng nt Mf Gf 0) : gdo Gf dp Mf ng nt k = (if (k : Int) < (nt : Int) ∧ dgt ng nt (grd can dp ng nt 0 0) k < ng then nI (dgt ng nt (grd can dp ng nt 0 0) k) else -9) := by
  unfold gdo
  by_cases c : k < nt
  · rw [if_pos c, fgd_dgt hng h c]
    unfold gno
    by_cases c2 : dgt ng nt (grd can dp ng nt 0 0) k < ng
    · rw [if_pos c2, if_pos ⟨by omega, c2⟩]
    · rw [if_neg c2, if_neg (fun q => c2 q.2)]
  · rw [if_neg c, if_neg (fun q => c (by omega))]
