/-! ===== nights of the component; arrays of arrays ===== -/
section G4
variable {p : Program} {l : Launch} {e : Env} {R : Room} {s : State} {m : MethodId} {args : Array Value} {below : List Frame} {meth : Method} {c : Code} {H : Heap} {locs : List Loc} {cells slots : Nat} {Q : State → Prop}
variable {cc : ByteArray} {pc : Nat} {ls : Array Slot} {rest : List Value} {D : va_G} {cl : List vw_C} {a : Nat} {tys : List (ClassId × FieldType)} {ws : va_W}
theorem n_aaldA (hexec : p.tables.exec = Jvm.exec) (hb : c.code = cc) (hK : va_K D cl tys s) (hP : va_P D cl ws H) (q0 t0 : Nat) {cA : ClassId} {n : Nat} {f : Nat → Option Nat} (ha : ws[q0]? = some (a, .inl (cA, n, .inr (.inr (.inr (.inr f)))))) (ht : tys[t0]? = some (cA, .array .int)) {k : Nat} (hk : k < n) (hn : n < 2147483648) (hdg : decode cc pc = .ok (.aaload, 1))
    (kk : W p l e R s m args below meth c H locs cells slots Q (F0 m (pc + 1) ls (va_rf (f k) :: rest))) : W p l e R s m args below meth c H locs cells slots Q (F0 m pc ls (.int (nI k) :: .ref a :: rest)) := by
  have hin : vp_in (nI k) n := vp_in_nI hk hn
  have ec : (nI k).toNatClampNeg = k := cl_nI (by omega)
  have hlt : (nI k).toNatClampNeg < n := Nat.not_le.mp fun q => hin (Or.inr q)
  exact W.aald (v := va_rf (f k)) (ty := .array .int) hexec hb (hP q0 _ ha) ((hK.2 t0 _ ht).1 n (fun j => va_rf (f j))) rfl (fun q => by cases q) (by show ¬ (nI k < 0 ∨ (arrV _ _ _).slots.size ≤ _); rw [arrV_size]; exact hin) (by show (arrV _ _ _).slots[_]? = _; rw [arrV_read _ _ hlt, ec]) rfl rfl hdg kk
end G4
theorem lat_max {M H : Nat → Nat} {k : Nat} (hb : mxE (fun p => M p + H p) k < 2147483648) (h2 : M k + H k < 2147483648) : (if lat M H k < nI (M k + H k) then nI (M k + H k) else lat M H k) = lat M H (k + 1) := by
  have e1 := lat_T hb
  have e2 : (nI (M k + H k)).toInt = ((M k + H k : Nat) : Int) := nT h2
  by_cases c : lat M H k < nI (M k + H k)
  · rw [if_pos c]
    rw [ii_lt, e1, e2] at c
    exact (lat_up c).symm
  · rw [if_neg c]
    rw [ii_lt, e1, e2] at c
    exact (lat_keep (by omega)).symm
theorem ins_ge {M H : Nat → Nat} {t u : Nat} : ∀ {n : Nat}, (∀ p, p < n → M p ≤ t → t < M p + H p → M p ≤ u ∧ u < M p + H p) → ins M H t n ≤ ins M H u n
  | 0, _ => Nat.le_refl _
  | n + 1, h => by
    have h1 := ins_ge (n := n) (fun p hp => h p (Nat.lt_succ_of_lt hp))
    unfold ins
    by_cases c : M n ≤ t ∧ t < M n + H n
    · rw [if_pos c, if_pos (h n (Nat.lt_succ_self n) c.1 c.2)]; omega
    · rw [if_neg c]; omega
theorem ins_pos {M H : Nat → Nat} {t : Nat} : ∀ {n : Nat}, 0 < ins M H t n → ∃ p, p < n ∧ M p ≤ t ∧ t < M p + H p ∧ ∀ q, q < n → M q ≤ t → t < M q + H q → M q ≤ M p
  | 0, h => absurd h (Nat.lt_irrefl _)
  | n + 1, h => by
    unfold ins at h
    by_cases c : M n ≤ t ∧ t < M n + H n
    · by_cases c0 : 0 < ins M H t n
      · obtain ⟨p, h1, h2, h3, h4⟩ := ins_pos c0
        rcases Nat.le_total (M p) (M n) with q | q
        · refine ⟨n, Nat.lt_succ_self n, c.1, c.2, fun r hr a b => ?_⟩
          rcases Nat.lt_or_ge r n with hrn | hrn
          · exact Nat.le_trans (h4 r hrn a b) q
          · have : r = n := by omega
            subst this; exact Nat.le_refl _
        · refine ⟨p, Nat.lt_succ_of_lt h1, h2, h3, fun r hr a b => ?_⟩
          rcases Nat.lt_or_ge r n with hrn | hrn
          · exact h4 r hrn a b
          · have : r = n := by omega
            subst this; exact q
      · have hz : ins M H t n = 0 := by omega
        refine ⟨n, Nat.lt_succ_self n, c.1, c.2, fun r hr a b => ?_⟩
        rcases Nat.lt_or_ge r n with hrn | hrn
        · exfalso
          have : 0 < ins M H t n := ins_one hrn a b
          omega
        · have : r = n := by omega
          subst this; exact Nat.le_refl _
    · rw [if_neg c] at h
      obtain ⟨p, h1, h2, h3, h4⟩ := ins_pos (n := n) (by omega)
      refine ⟨p, Nat.lt_succ_of_lt h1, h2, h3, fun r hr a b => ?_⟩
      rcases Nat.lt_or_ge r n with hrn | hrn
      · exact h4 r hrn a b
      · have : r = n := by omega
        subst this
        exact absurd ⟨a, b⟩ c
where ins_one {M H : Nat → Nat} {t p : Nat} : ∀ {n : Nat}, p < n → M p ≤ t → t < M p + H p → 0 < ins M H t n
  | 0, h, _, _ => absurd h (Nat.not_lt_zero _)
  | n + 1, h, a, b => by
    unfold ins
    rcases Nat.lt_or_ge p n with q | q
    · have := ins_one q a b; omega
    · have : p = n := by omega
      subst this
      rw [if_pos ⟨a, b⟩]; omega
theorem mst_eq {M H : Nat → Nat} {n : Nat} (hM : ∀ p, p < n → M p < 100) : mxE (fun p => ins M H (M p) n) n = mst M H n := by
  apply Nat.le_antisymm
  · exact mxE_le (fun q hq => mxE_ge (f := fun t => ins M H t n) (hM q hq))
  · refine mxE_le (fun t ht => ?_)
    rcases Nat.eq_zero_or_pos (ins M H t n) with h | h
    · show ins M H t n ≤ _
      omega
    · obtain ⟨p, h1, h2, h3, h4⟩ := ins_pos h
      refine Nat.le_trans (ins_ge (u := M p) (fun q hq a b => ⟨h4 q hq a b, by omega⟩)) ?_
      exact mxE_ge (f := fun p => ins M H (M p) n) h1
