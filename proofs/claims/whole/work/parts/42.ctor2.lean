/-! ===== new objects ===== -/
section MK2
variable {p : Program} {l : Launch} {e : Env} {R : Room} {s : State} {m : MethodId} {args : Array Value} {below : List Frame} {meth : Method} {c : Code} {H : Heap} {locs : List Loc} {cells slots : Nat} {Q : State → Prop}
variable {D : va_G} {ka : Nat → ClassId} {cc : ByteArray} {nL z pc index : Nat} {ls : Array Slot} {rest : List Value} {own : String} {L Rw : va_W} {H0 : Heap}
theorem n_new (X : Cx p s m args c cc nL own D ka) {C : String} {T : u_T} {N ci : Nat} (hin : ∀ w ∈ u_ws C T N, w ∈ gtb) (ty : Nat → FieldType) (hty : ∀ k, k < N → parseFieldDescriptor (T k).2.2.1 = some (ty k)) (hcl : Cond.classLink own index C ∈ gtb) (hinst : Cond.instantiable C N ∈ gtb) (hini : Cond.initialized C ∈ gtb) (hw : wdH D z (L ++ Rw) H) (hS : va_S (fun q => z ≤ q) H0 H locs) (hz : z ≤ H0.size) (hc : vwCl[ci]? = some (C, T, N)) {fs : List Value} (hfs : ∀ j, j < N → defaultValue (ty j) = vp_V fs j) (hcc : cells + 1 ≤ R.cells) (hs : slots + N ≤ R.slots) (hdg : decode cc pc = .ok (.new index, 3))
    (kk : ∀ (q : Nat) (H1 : Heap), wdH D z ((L ++ [(q, .inr (ci, fs))]) ++ Rw) H1 → va_S (fun q => z ≤ q) H0 H1 locs → W p l e R s m args below meth c H1 locs (cells + 1) (slots + N) Q (F0 m (pc + 3) ls (.ref q :: rest))) : W p l e R s m args below meth c H locs cells slots Q (F0 m pc ls rest) := by
  obtain ⟨hx, hb, hml, hown, hts, hE⟩ := X
  exact va_new hx hb hts hin ty hty hown (hts _ hcl) (hts _ hinst) (hts _ hini) hE.1 hw.2.1 hw.2.2 hS (fun q h => Nat.le_trans hz h) hc hfs hcc hs hdg (fun q H1 hP hD hS1 => kk q H1 (wdH.snoc ⟨Nat.le_trans hz hS1.1, hP, hD⟩) hS1)
theorem ka2_eq {tys : List (ClassId × FieldType)} {cA : ClassId} {D2 : va_G} {cl2 : List vw_C} {C : String} {i : Nat} (hi : (tysOf ka)[i]? = some (ka i, .object C)) (hK : va_K D vwCl (tysOf ka) s) (h2 : va_K D2 cl2 (tys ++ [(cA, .object C)]) s) : cA = ka i := by
  obtain ⟨k1, c1, -, -, -, a1⟩ := (hK.2 i (ka i, .object C) hi).2
  obtain ⟨k2, c2, -, -, -, a2⟩ := (h2.2 tys.length (cA, .object C) (by simp)).2
  exact Option.some.inj (a2.symm.trans a1)
theorem n_newq (X : Cx p s m args c cc nL own D ka) {C : String} {i : Nat} (hi : (tysOf ka)[i]? = some (ka i, .object C)) (hcl : Cond.classLink own index C ∈ gtb) (hover : va_AO C s) (hw : wdH D z (L ++ Rw) H) (hS : va_S (fun q => z ≤ q) H0 H locs) (hz : z ≤ H0.size) {n : Nat} (hn : n < 1000) (hcc : cells + 1 ≤ R.cells) (hs : slots + n ≤ R.slots) (hdg : decode cc pc = .ok (.anewarray index, 3))
    (kk : ∀ (q : Nat) (H1 : Heap), wdH D z ((L ++ [(q, .inl (ka i, n, .inr (.inr (.inr (.inr (fun _ => none))))))]) ++ Rw) H1 → va_S (fun q => z ≤ q) H0 H1 locs → W p l e R s m args below meth c H1 locs (cells + 1) (slots + n) Q (F0 m (pc + 3) ls (.ref q :: rest))) : W p l e R s m args below meth c H locs cells slots Q (F0 m pc ls (.int (nI n) :: rest)) := by
  obtain ⟨hx, hb, hml, hown, hts, hE⟩ := X
  refine va_newq hx hb hown (hts _ hcl) hover hE.1 hw.2.1 hw.2.2 hS (fun q h => Nat.le_trans hz h) (fun h => by rw [ii_lt, nT (by omega)] at h; have : (0 : Int32).toInt = 0 := rfl; omega) (cl_nI (by omega)) (by omega) hcc hs hdg (fun q cA H1 hK2 hP hD hS1 => ?_)
  have he := ka2_eq hi hE.1 hK2
  subst he
  exact kk q H1 (wdH.snoc ⟨Nat.le_trans hz hS1.1, hP, hD⟩) hS1
end MK2
