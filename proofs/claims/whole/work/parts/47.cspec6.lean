/-! ===== the reader's world ===== -/
section AST
variable {p : Program} {l : Launch} {e : Env} {R : Room} {s : State} {m : MethodId} {args : Array Value} {below : List Frame} {meth : Method} {c : Code} {H : Heap} {locs : List Loc} {cells slots : Nat} {Q : State → Prop}
variable {D : va_G} {ka : Nat → ClassId} {cc : ByteArray} {nL z pc index a q0 qk : Nat} {ls : Array Slot} {rest : List Value} {own : String} {ws : va_W} {H0 : Heap} {A : Nat → Prop}
theorem n_aastT (X : Cx p s m args c cc nL own D ka) (hP : va_P D vwCl ws H) (hD : va_D A ws) (hS : va_S A H0 H locs) (q0 qk : Nat) {n v kd : Nat} {vs : List Value} {f : Nat → Option Nat} (ha : ws[q0]? = some (a, .inl (ka 2, n, .inr (.inr (.inr (.inr f)))))) (hv : ws[qk]? = some (v, .inr (kcl kd, vs))) (hkd : kd ≤ 2) {k : Nat} (hk : k < n) (hn : n < 2147483648) (hdg : decode cc pc = .ok (.aastore, 1))
    (kk : ∀ (H1 : Heap) (locs1 : List Loc), va_P D vwCl (ws.set q0 (a, .inl (ka 2, n, .inr (.inr (.inr (.inr (va_up f k (some v)))))))) H1 → va_D A (ws.set q0 (a, .inl (ka 2, n, .inr (.inr (.inr (.inr (va_up f k (some v)))))))) → va_S A H0 H1 locs1 → W p l e R s m args below meth c H1 locs1 cells slots Q (F0 m (pc + 1) ls rest)) : W p l e R s m args below meth c H locs cells slots Q (F0 m pc ls (.ref v :: .int (nI k) :: .ref a :: rest)) := by
  obtain ⟨hx, hb, hml, hown, hts, hE⟩ := X
  have hcl : (nI k).toNatClampNeg = k := cl_nI (by omega)
  rcases kcl_or hkd with ⟨-, h⟩ | ⟨-, h⟩ | ⟨-, h⟩ <;> rw [h] at hv
  · exact va_astq (r := (RX6, TX6, 3)) hx hb hE.1 hP hD hS q0 2 qk 6 ha rfl hv rfl (vp_in_nI hk hn) hdg (by rw [hcl]; exact kk)
  · exact va_astqO (E := "FourVault$Taker") (r := (RX5, TX5, 3)) hx hb hE.1 hP hD hS q0 2 qk 5 ha rfl (hE.2.2.1 ("FourVault$Singer", "FourVault$Taker") (by simp [castW])) hv rfl (vp_in_nI hk hn) hdg (by rw [hcl]; exact kk)
  · exact va_astqO (E := "FourVault$Taker") (r := (RX9, TX9, 3)) hx hb hE.1 hP hD hS q0 2 qk 9 ha rfl (hE.2.2.1 ("FourVault$Widow", "FourVault$Taker") (by simp [castW])) hv rfl (vp_in_nI hk hn) hdg (by rw [hcl]; exact kk)
theorem n_aastR (X : Cx p s m args c cc nL own D ka) (hP : va_P D vwCl ws H) (hD : va_D A ws) (hS : va_S A H0 H locs) (q0 qk : Nat) {n v : Nat} {vs : List Value} {f : Nat → Option Nat} (ha : ws[q0]? = some (a, .inl (ka 1, n, .inr (.inr (.inr (.inr f)))))) (hv : ws[qk]? = some (v, .inr (3, vs))) {k : Nat} (hk : k < n) (hn : n < 2147483648) (hdg : decode cc pc = .ok (.aastore, 1))
    (kk : ∀ (H1 : Heap) (locs1 : List Loc), va_P D vwCl (ws.set q0 (a, .inl (ka 1, n, .inr (.inr (.inr (.inr (va_up f k (some v)))))))) H1 → va_D A (ws.set q0 (a, .inl (ka 1, n, .inr (.inr (.inr (.inr (va_up f k (some v)))))))) → va_S A H0 H1 locs1 → W p l e R s m args below meth c H1 locs1 cells slots Q (F0 m (pc + 1) ls rest)) : W p l e R s m args below meth c H locs cells slots Q (F0 m pc ls (.ref v :: .int (nI k) :: .ref a :: rest)) := by
  obtain ⟨hx, hb, hml, hown, hts, hE⟩ := X
  have hcl : (nI k).toNatClampNeg = k := cl_nI (by omega)
  exact va_astq (r := (RX3, TX3, 2)) hx hb hE.1 hP hD hS q0 1 qk 3 ha rfl hv rfl (vp_in_nI hk hn) hdg (by rw [hcl]; exact kk)
theorem n_aastN (X : Cx p s m args c cc nL own D ka) (hP : va_P D vwCl ws H) (hD : va_D A ws) (hS : va_S A H0 H locs) (q0 : Nat) {n : Nat} {f : Nat → Option Nat} (ha : ws[q0]? = some (a, .inl (ka 1, n, .inr (.inr (.inr (.inr f)))))) {k : Nat} (hk : k < n) (hn : n < 2147483648) (hdg : decode cc pc = .ok (.aastore, 1))
    (kk : ∀ (H1 : Heap) (locs1 : List Loc), va_P D vwCl (ws.set q0 (a, .inl (ka 1, n, .inr (.inr (.inr (.inr (va_up f k none))))))) H1 → va_D A (ws.set q0 (a, .inl (ka 1, n, .inr (.inr (.inr (.inr (va_up f k none))))))) → va_S A H0 H1 locs1 → W p l e R s m args below meth c H1 locs1 cells slots Q (F0 m (pc + 1) ls rest)) : W p l e R s m args below meth c H locs cells slots Q (F0 m pc ls (.null :: .int (nI k) :: .ref a :: rest)) := by
  obtain ⟨hx, hb, hml, hown, hts, hE⟩ := X
  have hcl : (nI k).toNatClampNeg = k := cl_nI (by omega)
  exact va_astqN (C := "FourVault$Row") hx hb hE.1 hP hD hS q0 1 ha rfl (vp_in_nI hk hn) hdg (by rw [hcl]; exact kk)
end AST
def rwd (ka : Nat → ClassId) (rd : Nat) (d rk : Nat → Nat) (du kd nv : Int32) (np nt ng : Nat) (wf df : Nat → Int32) (tf : Nat → Option Nat) (kf nf mf : Nat → Int32) : va_W := (rd, .inr (1, [.ref (d 0), .ref (rk 0), .ref (rk 1), .ref (rk 2), .int du, .int kd, .int nv])) :: (rk 0, .inl (ka 0, 5, .inl kf)) :: (rk 1, .inl (ka 0, 5, .inl nf)) :: (rk 2, .inl (ka 0, 5, .inl mf)) :: vlw ka d np nt ng wf df tf
/-- what holds of a text's numbers, code by code -/
def PI (P : NN) : Prop := (P 0 0 ≤ 6 ∧ P 0 1 ≤ 5 ∧ P 0 2 ≤ 5 ∧ P 0 6 ≤ 8 ∧ P 0 7 ≤ 2 ∧ P 0 8 ≤ 99 ∧ (P 0 6 = 5 → P 0 8 ≤ 90) ∧ (2 ≤ P 0 6 → 1 ≤ P 0 0)) ∧ (∀ j, P 1 j ≤ 9) ∧ (∀ j, P 2 j ≤ 2) ∧ (∀ j, P 3 j ≤ 99) ∧ (∀ j, P 4 j ≤ 9) ∧ (∀ j, P 5 j ≤ 9)
theorem PI_0 : PI P0 := ⟨⟨by decide, by decide, by decide, by decide, by decide, by decide, by decide, by decide⟩, fun _ => Nat.zero_le _, fun _ => Nat.zero_le _, fun _ => Nat.zero_le _, fun _ => Nat.zero_le _, fun _ => Nat.zero_le _⟩
theorem upN_le {u : Nat → Nat} {q v b : Nat} (hv : v ≤ b) (h : ∀ j, u j ≤ b) (j : Nat) : upN u q v j ≤ b := by
  unfold upN
  split
  · exact hv
  · exact h j
theorem PI.go {P : NN} {k : Nat} (h : PI P) (hk : k ≤ 8) (h5 : k ≠ 5) (h2 : 2 ≤ k → 1 ≤ P 0 0) : PI (up P 0 6 k) := by
  obtain ⟨⟨a0, a1, a2, a6, a7, a8, a9, a10⟩, b1, b2, b3, b4, b5⟩ := h
  exact ⟨⟨a0, a1, a2, hk, a7, a8, fun e => absurd e h5, h2⟩, b1, b2, b3, b4, b5⟩
theorem PI.gloom {P : NN} {x : Nat} (h : PI P) (hx : x ≤ 9) (hq : P 0 0 < 6) : PI (up (up (up P 1 (P 0 0) x) 0 0 (P 0 0 + 1)) 0 6 2) := by
  obtain ⟨⟨a0, a1, a2, a6, a7, a8, a9, a10⟩, b1, b2, b3, b4, b5⟩ := h
  exact ⟨⟨hq, a1, a2, (by decide : (2 : Nat) ≤ 8), a7, a8, fun e => absurd (show (2 : Nat) = 5 from e) (by decide), fun _ => Nat.succ_le_succ (Nat.zero_le _)⟩, upN_le hx b1, b2, b3, b4, b5⟩
theorem PI.kind {P : NN} {x : Nat} (h : PI P) (hx : x ≤ 2) (h6 : P 0 6 = 3) : PI (up (up P 0 7 x) 0 6 4) := by
  obtain ⟨⟨a0, a1, a2, a6, a7, a8, a9, a10⟩, b1, b2, b3, b4, b5⟩ := h
  exact ⟨⟨a0, a1, a2, (by decide : (4 : Nat) ≤ 8), hx, a8, fun e => absurd (show (4 : Nat) = 5 from e) (by decide), fun _ => a10 (by omega)⟩, b1, b2, b3, b4, b5⟩
theorem PI.tens {P : NN} {x : Nat} (h : PI P) (hx : x ≤ 9) (h6 : P 0 6 = 4) : PI (up (up P 0 8 (10 * x)) 0 6 5) := by
  obtain ⟨⟨a0, a1, a2, a6, a7, a8, a9, a10⟩, b1, b2, b3, b4, b5⟩ := h
  exact ⟨⟨a0, a1, a2, (by decide : (5 : Nat) ≤ 8), a7, (by omega : 10 * x ≤ 99), fun _ => (by omega : 10 * x ≤ 90), fun _ => a10 (by omega)⟩, b1, b2, b3, b4, b5⟩
theorem PI.ones {P : NN} {x : Nat} (h : PI P) (hx : x ≤ 9) (h6 : P 0 6 = 5) : PI (up (up P 0 8 (P 0 8 + x)) 0 6 6) := by
  obtain ⟨⟨a0, a1, a2, a6, a7, a8, a9, a10⟩, b1, b2, b3, b4, b5⟩ := h
  have := a9 h6
  exact ⟨⟨a0, a1, a2, (by decide : (6 : Nat) ≤ 8), a7, (by omega : P 0 8 + x ≤ 99), fun e => absurd (show (6 : Nat) = 5 from e) (by decide), fun _ => a10 (by omega)⟩, b1, b2, b3, b4, b5⟩
theorem PI.mind {P : NN} {x : Nat} (h : PI P) (hx : x ≤ 9) (h6 : P 0 6 = 6) (hq : P 0 1 < 5) : PI (ptk P x) := by
  obtain ⟨⟨a0, a1, a2, a6, a7, a8, a9, a10⟩, b1, b2, b3, b4, b5⟩ := h
  exact ⟨⟨a0, hq, a2, (by decide : (7 : Nat) ≤ 8), a7, a8, fun e => absurd (show (7 : Nat) = 5 from e) (by decide), fun _ => a10 (by omega)⟩, b1, upN_le a7 b2, upN_le a8 b3, upN_le hx b4, b5⟩
theorem PI.good {P : NN} {x : Nat} (h : PI P) (hx : x ≤ 9) (hq : P 0 2 < 5) : PI (up (up P 5 (P 0 2) x) 0 2 (P 0 2 + 1)) := by
  obtain ⟨⟨a0, a1, a2, a6, a7, a8, a9, a10⟩, b1, b2, b3, b4, b5⟩ := h
  exact ⟨⟨a0, a1, hq, a6, a7, a8, a9, a10⟩, b1, b2, b3, b4, upN_le hx b5⟩
theorem pgl_PI {P P2 : NN} {c : Int} (h : PI P) (hp : pgl P c = some P2) : PI P2 := by
  unfold pgl at hp
  split at hp
  · next q => cases hp; exact h.gloom (by omega) q.2
  · cases hp
theorem pst_PI {P P2 : NN} {c : Int} (h : PI P) (hp : pst P c = some P2) : PI P2 := by
  have h8 := h.1.2.2.2.1
  have h1 := h.1.2.2.2.2.2.2.2
  unfold pst at hp
  split at hp
  · split at hp
    · cases hp; exact h.go (by decide) (by decide) (fun q => absurd q (by decide))
    · cases hp
  · split at hp
    · exact pgl_PI h hp
    · split at hp
      · split at hp
        · cases hp; exact h.go (by decide) (by decide) (fun _ => h1 (by omega))
        · exact pgl_PI h hp
      · split at hp
        · next h3 =>
          split at hp
          · cases hp; exact h.kind (by decide) h3
          · split at hp
            · cases hp; exact h.kind (by decide) h3
            · split at hp
              · cases hp; exact h.kind (by decide) h3
              · cases hp
        · split at hp
          · next h4 =>
            split at hp
            · cases hp; exact h.tens (by omega) h4
            · cases hp
          · split at hp
            · next h5 =>
              split at hp
              · cases hp; exact h.ones (by omega) h5
              · cases hp
            · split at hp
              · next h6 =>
                split at hp
                · next q => cases hp; exact h.mind (by omega) h6 q.2
                · cases hp
              · split at hp
                · split at hp
                  · cases hp; exact h.go (by decide) (by decide) (fun _ => h1 (by omega))
                  · split at hp
                    · cases hp; exact h.go (by decide) (by decide) (fun _ => h1 (by omega))
                    · cases hp
                · split at hp
                  · next q => cases hp; exact h.good (by omega) q.2
                  · cases hp
theorem prun_PI (C : CC) : ∀ (k t : Nat) (P : NN), PI P → PI (prun C k t P).2 ∧ t ≤ (prun C k t P).1 ∧ (prun C k t P).1 ≤ t + k
  | 0, t, P, h => ⟨h, Nat.le_refl _, Nat.le_refl _⟩
  | k + 1, t, P, h => by
    unfold prun
    cases hp : pst P (cz C t) with
    | none => exact ⟨h, Nat.le_refl _, Nat.le_add_right _ _⟩
    | some P2 =>
      obtain ⟨g1, g2, g3⟩ := prun_PI C k (t + 1) P2 (pst_PI h hp)
      exact ⟨g1, by show t ≤ (prun C k (t + 1) P2).1; omega, by show (prun C k (t + 1) P2).1 ≤ t + (k + 1); omega⟩
/-- what was read stands in rows -/
def TR (P : NN) (wf df kf nf mf : Nat → Int32) : Prop := (∀ j, j < P 0 0 → wf j = nI (P 1 j)) ∧ (∀ j, j < P 0 2 → df j = nI (P 5 j)) ∧ (∀ j, j < P 0 1 → kf j = nI (P 2 j)) ∧ (∀ j, j < P 0 1 → nf j = nI (P 3 j)) ∧ (∀ j, j < P 0 1 → mf j = nI (P 4 j))
/-- the reader stands at P -/
def RS (P : NN) (kd nv : Int32) (wf df kf nf mf : Nat → Int32) : Prop := TR P wf df kf nf mf ∧ PI P ∧ (4 ≤ P 0 6 → kd = nI (P 0 7)) ∧ (5 ≤ P 0 6 → nv = nI (P 0 8))
/-- behind a code -/
def rpo (ka : Nat → ClassId) (rd : Nat) (d rk : Nat → Nat) (P : NN) (wf df : Nat → Int32) (tf : Nat → Option Nat) (kf nf mf : Nat → Int32) (R : va_W) (c9 : Int) (r : Int32) (w : va_W) : Prop :=
  (r = nI 0 ∧ pst P c9 = none ∧ ∃ du kd nv : Int32, w = rwd ka rd d rk du kd nv (P 0 0) (P 0 1) (P 0 2) wf df tf kf nf mf ++ R) ∨
  (r = nI 1 ∧ ∃ P2, pst P c9 = some P2 ∧ ∃ (kd nv : Int32) (wf' df' kf' nf' mf' : Nat → Int32), RS P2 kd nv wf' df' kf' nf' mf' ∧ w = rwd ka rd d rk (nI (P2 0 6)) kd nv (P2 0 0) (P2 0 1) (P2 0 2) wf' df' tf kf' nf' mf' ++ R)
theorem rpo_01 {ka : Nat → ClassId} {rd : Nat} {d rk : Nat → Nat} {P : NN} {wf df kf nf mf : Nat → Int32} {tf : Nat → Option Nat} {R : va_W} {c9 : Int} {r : Int32} {w : va_W} (h : rpo ka rd d rk P wf df tf kf nf mf R c9 r w) : r = 0 ∨ r = 1 := by
  rcases h with ⟨h, -⟩ | ⟨h, -⟩
  · exact Or.inl h
  · exact Or.inr h
theorem rpo_n {ka : Nat → ClassId} {rd : Nat} {d rk : Nat → Nat} {P : NN} {du kd nv : Int32} {wf df kf nf mf : Nat → Int32} {tf : Nat → Option Nat} {R : va_W} {c9 : Int} (h : pst P c9 = none) : rpo ka rd d rk P wf df tf kf nf mf R c9 (nI 0) (rwd ka rd d rk du kd nv (P 0 0) (P 0 1) (P 0 2) wf df tf kf nf mf ++ R) := Or.inl ⟨rfl, h, du, kd, nv, rfl⟩
theorem rpo_s {ka : Nat → ClassId} {rd : Nat} {d rk : Nat → Nat} {P P2 : NN} {kd nv : Int32} {wf df wf' df' kf nf mf kf' nf' mf' : Nat → Int32} {tf : Nat → Option Nat} {R : va_W} {c9 : Int} (h : pst P c9 = some P2) (hPI : PI P) (hV : TR P2 wf' df' kf' nf' mf') (hk : 4 ≤ P2 0 6 → kd = nI (P2 0 7)) (hn : 5 ≤ P2 0 6 → nv = nI (P2 0 8)) : rpo ka rd d rk P wf df tf kf nf mf R c9 (nI 1) (rwd ka rd d rk (nI (P2 0 6)) kd nv (P2 0 0) (P2 0 1) (P2 0 2) wf' df' tf kf' nf' mf' ++ R) := Or.inr ⟨rfl, P2, h, kd, nv, wf', df', kf', nf', mf', ⟨hV, pst_PI hPI h, hk, hn⟩, rfl⟩
theorem dg_sub {c1 : Int32} {c9 : Int} (h : c1.toInt = c9) (h0 : 48 ≤ c9) (h1 : c9 ≤ 57) : c1 - nI 48 = nI (c9 - 48).toNat := by
  obtain ⟨j, hj, rfl, hc⟩ := nat_ofK (n := 58) h (by omega) (by omega)
  rw [pk_sub (by omega), show (c9 - 48).toNat = j - 48 by omega]
def rof (f : Nat → Int32) : Nat → Int32 := fun i => if i < 60 then f i else 0
theorem rof_at {f : Nat → Int32} {i : Nat} (h : i < 60) : rof f i = f i := if_pos h
theorem cz_at (C : CC) {k j t : Nat} (h : j < 60) (ht : t = 60 * k + j) : cz C t = (C k j).toInt := by
  subst ht
  unfold cz
  rw [show (60 * k + j) / 60 = k by omega, show (60 * k + j) % 60 = j by omega]
theorem wdH.mv1 {D : va_G} {z : Nat} {x : Nat × va_E} {L T R : va_W} {H : Heap} (h : wdH D z ((x :: L) ++ (T ++ R)) H) : wdH D z (L ++ ((T ++ [x]) ++ R)) H := by
  refine h.perm ?_
  have e1 : (x :: L) ++ (T ++ R) = x :: ((L ++ T) ++ R) := by rw [List.append_assoc]; rfl
  have e2 : L ++ ((T ++ [x]) ++ R) = (L ++ T) ++ x :: R := by rw [List.append_assoc, List.append_assoc]; rfl
  rw [e1, e2]
  exact List.perm_middle.symm
theorem tkw_rows {ta : Nat → Nat} {N N' : NN} {n : Nat} (h2 : N 2 = N' 2) (h3 : N 3 = N' 3) (h4 : N 4 = N' 4) : tkw ta N n = tkw ta N' n := by
  unfold tkw
  apply List.map_congr_left
  intro j hj
  unfold tkc
  rw [h2, h3, h4]
theorem tkw_congr {ta ta' : Nat → Nat} {N N' : NN} {n : Nat} (h : ∀ j, j < n → ta j = ta' j ∧ N 2 j = N' 2 j ∧ N 3 j = N' 3 j ∧ N 4 j = N' 4 j) : tkw ta N n = tkw ta' N' n := by
  unfold tkw
  apply List.map_congr_left
  intro j hj
  obtain ⟨h1, h2, h3, h4⟩ := h j (List.mem_range.mp hj)
  unfold tkc
  rw [h1, h2, h3, h4]
theorem tkw_snoc {ta : Nat → Nat} {N : NN} {n q kd nv mi : Nat} : tkw ta N n ++ [(q, .inr (kcl kd, [.int (nI n), .int (nI nv), .int (nI mi)]))] = tkw (fun j => if j = n then q else ta j) (up (up (up N 2 n kd) 3 n nv) 4 n mi) (n + 1) := by
  have e : tkw (fun j => if j = n then q else ta j) (up (up (up N 2 n kd) 3 n nv) 4 n mi) (n + 1) = tkw (fun j => if j = n then q else ta j) (up (up (up N 2 n kd) 3 n nv) 4 n mi) n ++ [tkc (fun j => if j = n then q else ta j) (up (up (up N 2 n kd) 3 n nv) 4 n mi) n] := by
    unfold tkw
    rw [List.range_succ, List.map_append]
    rfl
  rw [e]
  congr 1
  · apply tkw_congr
    intro j hj
    have hne : j ≠ n := by omega
    refine ⟨(if_neg hne).symm, ?_, ?_, ?_⟩
    · show N 2 j = upN (N 2) n kd j
      exact (if_neg hne).symm
    · show N 3 j = upN (N 3) n nv j
      exact (if_neg hne).symm
    · show N 4 j = upN (N 4) n mi j
      exact (if_neg hne).symm
  · simp [tkc, up, upN]
theorem tkw_snocP {ta : Nat → Nat} {P : NN} {n q : Nat} : tkw ta P n ++ [(q, .inr (kcl (P 2 n), [.int (nI n), .int (nI (P 3 n)), .int (nI (P 4 n))]))] = tkw (fun j => if j = n then q else ta j) P (n + 1) := by
  have h := tkw_snoc (ta := ta) (N := P) (n := n) (q := q) (kd := P 2 n) (nv := P 3 n) (mi := P 4 n)
  rw [up_self P 2 n, up_self P 3 n, up_self P 4 n] at h
  exact h
