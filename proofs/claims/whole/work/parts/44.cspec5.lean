/-! ===== inherited methods, super calls, blocks of a world ===== -/
section GH
variable {p : Program} {l : Launch} {e : Env} {R : Room} {s : State} {m : MethodId} {args : Array Value} {below : List Frame} {meth : Method} {c : Code} {H : Heap} {locs : List Loc} {cells slots : Nat} {Q : State → Prop}
variable {D : va_G} {ka : Nat → ClassId} {y : MethodName} {cc bytes : ByteArray} {nL maxL : Nat} {ret : Option FieldType} {d z mc ms index pc : Nat} {ls : Array Slot} {As st rest : List Value} {own : String} {b : Nat}
variable {B : Heap → Prop} {ws : va_W} {Qc : Array Value → State → Outcome → State → Prop} {H0 : Heap}
theorem mu_runH {x : MethodName} {C owner : String} (hM : MU l D ka z y bytes maxL ret d mc ms (.ref b :: As) ws Qc) (X : Cx p s m args c cc nL own D ka) (hcode : Cond.code y bytes maxL ret ∈ gtb) (hlink : Cond.methodLink own index x ∈ gtb) (hsame : Cond.sameMethod x.cls owner x.name x.desc ∈ gtb) (hsel : Cond.selects C x y ∈ gtb) (hinst : Cond.instanceMethod y ∈ gtb) (hini : Cond.initialized y.cls ∈ gtb) (hyx : y = ⟨owner, x.name, x.desc⟩) (hd : okName y As.length) (hR : okRoom R d maxL)
    (hrecv : ∃ cell : Cell, H[b]? = some cell ∧ cell.vm.isStatics = false ∧ s.vm.findClass C = some cell.cls) (hw : wdH D z ws H) (hls : ls.size = nL) (hst : st = As.reverse ++ .ref b :: rest) (hW : (rest.map fun v => v.category).sum ≤ 8) (hf : cells + mc ≤ R.cells ∧ slots + ms ≤ R.slots) (hdg : decode cc pc = .ok (.invokevirtual index, 3)) :
    va_Run p l e R s m args below meth c H locs cells slots mc ms (F0 m pc ls st) rest (Qc (Value.ref b :: As).toArray) (fun q => z ≤ q) := by
  obtain ⟨hx, hb, hml, hown, hts, hE⟩ := X
  have hG : GoodIn gtb (va_wsU own index C owner x y (wsOf y bytes maxL ret)) := by
    intro w hw
    rcases List.mem_append.mp hw with h | h
    · have hm : w ∈ gtb := by
        simp only [List.mem_cons, List.not_mem_nil, or_false] at h
        rcases h with rfl | rfl | rfl | rfl | rfl <;> assumption
      exact ⟨hm, good_of_word (List.mem_filter.mp hm).2⟩
    · exact wsOf_good hcode w h
  have hd' : owner ≠ "java/lang/invoke/MethodHandle" ∧ owner ≠ "java/lang/invoke/VarHandle" ∧ (parseMethodDescriptor x.desc).map (fun d => d.parameters.length) = some As.length := by
    subst hyx
    exact hd
  exact va_runU (Ts := gtb) (owner := owner) ⟨hx, hb, hml, hown, hts⟩ hM (va_cwU As.length hts hG rfl rfl rfl hyx hd' hR) ⟨MU.blind, hrecv, fun U hU hW => ⟨rfl, by rw [hU]; exact hw, hE.warm hW⟩⟩ rfl rfl hls hst (lv_room hW) hdg hf
theorem mu_runSU {C : String} {ci : Nat} {T : u_T} {N : Nat} (hM : MU l D ka z y bytes maxL ret d mc ms (.ref b :: As) ws Qc) (X : Cx p s m args c cc nL own D ka) (hcode : Cond.code y bytes maxL ret ∈ gtb) (hlink : Cond.methodLink own index y ∈ gtb) (hsame : Cond.sameMethod y.cls y.cls y.name y.desc ∈ gtb) (hsup : Cond.superclass own y.cls ∈ gtb) (hinst : Cond.instanceMethod y ∈ gtb) (hini : Cond.initialized y.cls ∈ gtb) (hyn : y.name ≠ "<init>") (hd : okName y As.length) (hR : okRoom R d maxL) (hci : vwCl[ci]? = some (C, T, N))
    (hrecv : ∃ cell : Cell, H[b]? = some cell ∧ cell.vm.isStatics = false ∧ s.vm.findClass C = some cell.cls) (hw : wdH D z ws H) (hls : ls.size = nL) (hst : st = As.reverse ++ .ref b :: rest) (hW : (rest.map fun v => v.category).sum ≤ 8) (hf : cells + mc ≤ R.cells ∧ slots + ms ≤ R.slots) (hdg : decode cc pc = .ok (.invokespecial index, 3)) :
    va_Run p l e R s m args below meth c H locs cells slots mc ms (F0 m pc ls st) rest (Qc (Value.ref b :: As).toArray) (fun q => z ≤ q) := by
  obtain ⟨hx, hb, hml, hown, hts, hE⟩ := X
  have hG : GoodIn gtb (va_wsSU own index y (wsOf y bytes maxL ret)) := by
    intro w hw
    rcases List.mem_append.mp hw with h | h
    · have hm : w ∈ gtb := by
        simp only [List.mem_cons, List.not_mem_nil, or_false] at h
        rcases h with rfl | rfl | rfl | rfl | rfl <;> assumption
      exact ⟨hm, good_of_word (List.mem_filter.mp hm).2⟩
    · exact wsOf_good hcode w h
  exact va_runSU (Ts := gtb) (C := C) (hE.1.1 ci (C, T, N) hci).2 ⟨hx, hb, hml, hown, hts⟩ hM (va_cwSU As.length hts hG rfl rfl rfl ⟨hyn, hd.2.2⟩ hR) ⟨MU.blind, hrecv, fun U hU hW => ⟨rfl, by rw [hU]; exact hw, hE.warm hW⟩⟩ rfl rfl hls hst (lv_room hW) hdg hf
end GH
/-- readings -/
def rdw (ka : Nat → ClassId) (b : Nat → Nat) (N : NN) : va_W := [(b 0, .inr (2, [.ref (b 1), .ref (b 2), .ref (b 3), .int (nI (N 0 3))])), (b 1, .inl (ka 0, 8, .inl (fun j => nI (N 6 j)))), (b 2, .inl (ka 0, 8, .inl (fun j => nI (N 7 j)))), (b 3, .inl (ka 0, 8, .inl (fun j => nI (N 8 j))))]
/-- worlds in blocks -/
theorem perm_at {α : Type} : ∀ {ws : List α} {i : Nat} {x : α}, ws[i]? = some x → ws.Perm (x :: ws.eraseIdx i)
  | [], i, x, h => by simp at h
  | a :: l, 0, x, h => by
    have h : a = x := by simpa using h
    subst h
    exact List.Perm.refl _
  | a :: l, i + 1, x, h => by
    have h : l[i]? = some x := by simpa using h
    exact ((perm_at h).cons a).trans (List.Perm.swap x a _)
theorem perm_back {α : Type} : ∀ {ws : List α} {i : Nat} (x : α), i < ws.length → (x :: ws.eraseIdx i).Perm (ws.set i x)
  | [], i, x, h => absurd h (Nat.not_lt_zero _)
  | a :: l, 0, x, h => List.Perm.refl _
  | a :: l, i + 1, x, h => (List.Perm.swap a x _).trans ((perm_back x (Nat.lt_of_succ_lt_succ h)).cons a)
theorem flat_perm {α : Type} {bs cs : List (List α)} (h : bs.Perm cs) : bs.flatten.Perm cs.flatten := h.flatten
theorem blk_at {bs : List va_W} {i : Nat} {x : va_W} (h : bs[i]? = some x) : bs.flatten.Perm (x ++ (bs.eraseIdx i).flatten) := (perm_at h).flatten
theorem blk_back {bs : List va_W} {i : Nat} (x : va_W) (h : i < bs.length) : (x ++ (bs.eraseIdx i).flatten).Perm (bs.set i x).flatten := (perm_back x h).flatten
theorem wdH.blk {D : va_G} {z : Nat} {bs : List va_W} {H : Heap} (i : Nat) {x : va_W} (h : bs[i]? = some x) (hw : wdH D z bs.flatten H) : wdH D z (x ++ (bs.eraseIdx i).flatten) H := hw.perm (blk_at h)
theorem wdH.unblk {D : va_G} {z : Nat} {bs : List va_W} {H : Heap} (i : Nat) {x : va_W} (h : i < bs.length) (hw : wdH D z (x ++ (bs.eraseIdx i).flatten) H) : wdH D z (bs.set i x).flatten H := hw.perm (blk_back x h)
