/-! ===== worlds in another order; what is made ===== -/
theorem va_P.mem {D : va_G} {cl : List vw_C} {ws : va_W} {H : Heap} : va_P D cl ws H ↔ ∀ q, q ∈ ws → va_at D cl q H := by
  constructor
  · intro h q hq
    obtain ⟨i, hi⟩ := List.getElem?_of_mem hq
    exact h i q hi
  · intro h k q hk
    exact h q (List.mem_of_getElem? hk)
theorem va_D.nd {A : Nat → Prop} {ws : va_W} : va_D A ws ↔ (ws.map Prod.fst).Nodup ∧ ∀ q, q ∈ ws → A q.1 := by
  constructor
  · intro h
    refine ⟨?_, fun q hq => ?_⟩
    · refine List.pairwise_iff_getElem.mpr (fun i j hi hj hij he => ?_)
      have hi2 : i < ws.length := by rw [List.length_map] at hi; exact hi
      have hj2 : j < ws.length := by rw [List.length_map] at hj; exact hj
      rw [List.getElem_map, List.getElem_map] at he
      have := h.1 i j _ _ (List.getElem?_eq_getElem hi2) (List.getElem?_eq_getElem hj2) he
      omega
    · obtain ⟨i, hi⟩ := List.getElem?_of_mem hq
      exact h.2 i q hi
  · rintro ⟨h1, h2⟩
    have h1 := List.pairwise_iff_getElem.mp h1
    refine ⟨fun i j p q hi hj he => ?_, fun k q hk => h2 q (List.mem_of_getElem? hk)⟩
    obtain ⟨hi2, hi3⟩ := List.getElem?_eq_some_iff.mp hi
    obtain ⟨hj2, hj3⟩ := List.getElem?_eq_some_iff.mp hj
    rcases Nat.lt_trichotomy i j with h | h | h
    · exact absurd (by rw [List.getElem_map, List.getElem_map, hi3, hj3, he]) (h1 i j (by rw [List.length_map]; exact hi2) (by rw [List.length_map]; exact hj2) h)
    · exact h
    · exact absurd (by rw [List.getElem_map, List.getElem_map, hi3, hj3, he]) (h1 j i (by rw [List.length_map]; exact hj2) (by rw [List.length_map]; exact hi2) h)
theorem wdH.perm {D : va_G} {z : Nat} {ws ws' : va_W} {H : Heap} (hp : ws.Perm ws') (h : wdH D z ws H) : wdH D z ws' H := by
  obtain ⟨h1, h2, h3⟩ := h
  refine ⟨h1, va_P.mem.mpr (fun q hq => va_P.mem.mp h2 q (hp.mem_iff.mpr hq)), va_D.nd.mpr ⟨?_, fun q hq => (va_D.nd.mp h3).2 q (hp.mem_iff.mpr hq)⟩⟩
  exact (hp.map Prod.fst).nodup_iff.mp (va_D.nd.mp h3).1
theorem wdH.drop {D : va_G} {z : Nat} {w1 w2 : va_W} {H : Heap} (h : wdH D z (w1 ++ w2) H) : wdH D z w1 H := by
  obtain ⟨h1, h2, h3⟩ := h
  refine ⟨h1, h2.left, va_D.nd.mpr ⟨?_, fun q hq => (va_D.nd.mp h3).2 q (List.mem_append_left _ hq)⟩⟩
  have := (va_D.nd.mp h3).1
  rw [List.map_append] at this
  exact (List.nodup_append.mp this).1
theorem wdH.snoc {D : va_G} {z : Nat} {L R : va_W} {x : Nat × va_E} {H : Heap} (h : wdH D z ((L ++ R) ++ [x]) H) : wdH D z ((L ++ [x]) ++ R) H := by
  refine h.perm ?_
  rw [List.append_assoc, List.append_assoc]
  exact List.Perm.append_left L List.perm_append_comm
section MK
variable {p : Program} {l : Launch} {e : Env} {R : Room} {s : State} {m : MethodId} {args : Array Value} {below : List Frame} {meth : Method} {c : Code} {H : Heap} {locs : List Loc} {cells slots : Nat} {Q : State → Prop}
variable {D : va_G} {ka : Nat → ClassId} {cc : ByteArray} {nL z pc : Nat} {ls : Array Slot} {rest : List Value} {own : String} {L Rw : va_W} {H0 : Heap}
theorem ka0_eq {tys : List (ClassId × FieldType)} {cA : ClassId} {D2 : va_G} {cl2 : List vw_C} (hK : va_K D vwCl (tysOf ka) s) (h2 : va_K D2 cl2 (tys ++ [(cA, .int)]) s) : cA = ka 0 := by
  have a1 := (hK.2 0 (ka 0, .int) rfl).2
  have a2 := (h2.2 tys.length (cA, .int) (by simp)).2
  have a1 : s.vm.findClass ("[" ++ (FieldType.int).toString) = some (ka 0) := a1
  have a2 : s.vm.findClass ("[" ++ (FieldType.int).toString) = some cA := a2
  exact Option.some.inj (a2.symm.trans a1)
theorem n_newa (X : Cx p s m args c cc nL own D ka) (harr : Cond.arrayClass .int ∈ gtb) (hw : wdH D z (L ++ Rw) H) (hS : va_S (fun q => z ≤ q) H0 H locs) (hz : z ≤ H0.size) {n : Nat} (hn : n < 1000) (hc : cells + 1 ≤ R.cells) (hs : slots + n ≤ R.slots) (hdg : decode cc pc = .ok (.newarray .int, 2))
    (kk : ∀ (q : Nat) (H1 : Heap), wdH D z ((L ++ [(q, .inl (ka 0, n, .inl (fun _ => 0)))]) ++ Rw) H1 → va_S (fun q => z ≤ q) H0 H1 locs → W p l e R s m args below meth c H1 locs (cells + 1) (slots + n) Q (F0 m (pc + 2) ls (.ref q :: rest))) : W p l e R s m args below meth c H locs cells slots Q (F0 m pc ls (.int (nI n) :: rest)) := by
  obtain ⟨hx, hb, hml, hown, hts, hE⟩ := X
  refine va_newa (atype := .int) (ty := .int) (a0 := (n, .inl (fun _ => 0))) hx hb (hts _ harr) rfl hE.1 hw.2.1 hw.2.2 hS (fun q h => Nat.le_trans hz h) (fun _ => rfl) (fun h => by rw [ii_lt, nT (by omega)] at h; have : (0 : Int32).toInt = 0 := rfl; omega) (cl_nI (by omega)) (by show n * 4 ≤ _; omega) hc hs hdg (fun q cA H1 hK2 hP hD hS1 => ?_)
  have he := ka0_eq hE.1 hK2
  subst he
  exact kk q H1 (wdH.snoc ⟨Nat.le_trans hz hS1.1, hP, hD⟩) hS1
end MK
theorem init_sorts : upd (upd (upd (upd (fun _ => (0 : Int32)) 0 (-9)) 1 (-9)) 2 (-9)) 3 (-9) = fun j => srt (if j < 4 then 3 else 0) := by
  funext j
  unfold upd
  by_cases h : j < 4
  · rw [if_pos h]
    rcases (show j = 0 ∨ j = 1 ∨ j = 2 ∨ j = 3 by omega) with rfl | rfl | rfl | rfl <;> rfl
  · rw [if_neg h, if_neg (by omega), if_neg (by omega), if_neg (by omega), if_neg (by omega)]
    rfl
def NI : NN := fun i => if i = 9 then (fun j => if j < 4 then 3 else 0) else fun _ => 0
def CI : CC := fun _ _ => 0
theorem WF_NI : WF NI := by
  refine ⟨⟨by decide, by decide, by decide, by decide, by decide, by decide, by decide⟩, fun j => Nat.zero_le _, fun j => Nat.zero_le _, fun j => Nat.zero_le _, fun j => Nat.zero_le _, fun j => Nat.zero_le _, fun j hj => absurd hj (Nat.not_lt_zero _), fun j => Nat.zero_le _, fun j => Nat.zero_le _, fun j => ?_, fun j => Nat.zero_le _⟩
  show (if j < 4 then 3 else 0) ≤ 3
  split <;> decide
