/-! ===== what a call leaves as it was ===== -/
def eSH (N N' : NN) : Prop := N' 9 = N 9 ∧ N' 10 = N 10
def eRD (N N' : NN) : Prop := N' 0 3 = N 0 3 ∧ N' 6 = N 6 ∧ N' 7 = N 7 ∧ N' 8 = N 8
def eVT (N N' : NN) : Prop := N' 0 0 = N 0 0 ∧ N' 0 1 = N 0 1 ∧ N' 0 2 = N 0 2 ∧ N' 1 = N 1 ∧ N' 2 = N 2 ∧ N' 3 = N 3 ∧ N' 4 = N 4 ∧ N' 5 = N 5
def eRF (C C' : CC) : Prop := ∀ k, k < 4 → C' k = C k
theorem eSH.rf (N : NN) : eSH N N := ⟨rfl, rfl⟩
theorem eRD.rf (N : NN) : eRD N N := ⟨rfl, rfl, rfl, rfl⟩
theorem eVT.rf (N : NN) : eVT N N := ⟨rfl, rfl, rfl, rfl, rfl, rfl, rfl, rfl⟩
theorem eRF.rf (C : CC) : eRF C C := fun _ _ => rfl
theorem shb_e {ka : Nat → ClassId} {a : Nat} {N N' : NN} {ra : Nat → Nat} (h : eSH N N') : shb ka a N' ra = shb ka a N ra := by
  unfold shb shf
  rw [h.1]
theorem rows_e {ka : Nat → ClassId} {ra ca : Nat → Nat} {N N' : NN} {C C' : CC} (h : eSH N N') (hC : eRF C C') : rows ka ra ca N' C' = rows ka ra ca N C := by
  unfold rows RB rowb
  rw [h.1, h.2, hC 0 (by decide), hC 1 (by decide), hC 2 (by decide), hC 3 (by decide)]
theorem rdw_e {ka : Nat → ClassId} {b : Nat → Nat} {N N' : NN} (h : eRD N N') : rdw ka b N' = rdw ka b N := by
  unfold rdw
  rw [h.1, h.2.1, h.2.2.1, h.2.2.2]
theorem kp_e {ka : Nat → ClassId} {v : Nat → Nat} {N N' : NN} {wf df : Nat → Int32} {tf : Nat → Option Nat} (h : eVT N N') : vlw ka v (N' 0 0) (N' 0 1) (N' 0 2) wf df tf = vlw ka v (N 0 0) (N 0 1) (N 0 2) wf df tf := by
  rw [h.1, h.2.1, h.2.2.1]
theorem tk_e {ta : Nat → Nat} {N N' : NN} (h : eVT N N') : tkw ta N' (N' 0 1) = tkw ta N (N 0 1) := by
  rw [h.2.1]
  exact tkw_rows h.2.2.2.2.1 h.2.2.2.2.2.1 h.2.2.2.2.2.2.1
theorem VR_e {N N' : NN} {ta : Nat → Nat} {wf df : Nat → Int32} {tf : Nat → Option Nat} (h : eVT N N') (hV : VR N ta wf df tf) : VR N' ta wf df tf := by
  unfold VR
  rw [h.1, h.2.1, h.2.2.1, h.2.2.2.1, h.2.2.2.2.2.2.2]
  exact hV
section FR
variable {N N' : NN} {C C' : CC} {r : Int32} {K Q V M I O J n w : Int} {x : Int32}
theorem fr_hush (h : (r, N', C') = sp_hush N C K V) : eSH N N' ∧ eRD N N' ∧ C' = C := by
  unfold sp_hush at h
  (repeat' split at h) <;> (cases h; exact ⟨⟨rfl, rfl⟩, ⟨rfl, rfl, rfl, rfl⟩, rfl⟩)
theorem fr_think (h : (r, N', C') = sp_think N C K V) : eSH N N' ∧ eRD N N' ∧ C' = C := by
  unfold sp_think at h
  (repeat' split at h) <;> (cases h; exact ⟨⟨rfl, rfl⟩, ⟨rfl, rfl, rfl, rfl⟩, rfl⟩)
theorem fr_brace (h : (r, N', C') = sp_brace N C K V) : eSH N N' ∧ eRD N N' ∧ C' = C := by
  unfold sp_brace at h
  (repeat' split at h) <;> (cases h; exact ⟨⟨rfl, rfl⟩, ⟨rfl, rfl, rfl, rfl⟩, rfl⟩)
theorem fr_as (h : (r, N', C') = sp_as N C K V) : eSH N N' ∧ eRD N N' ∧ C' = C := by
  unfold sp_as at h
  (repeat' split at h) <;> (cases h; exact ⟨⟨rfl, rfl⟩, ⟨rfl, rfl, rfl, rfl⟩, rfl⟩)
theorem fr_reading (h : (r, N', C') = sp_reading N C K M Q) : eSH N N' ∧ C' = C := by
  unfold sp_reading at h
  (repeat' split at h) <;> (cases h; exact ⟨⟨rfl, rfl⟩, rfl⟩)
theorem fr_back (h : (r, N', C') = sp_back N C K) : eSH N N' ∧ C' = C := by
  unfold sp_back at h
  (repeat' split at h) <;> (cases h; exact ⟨⟨rfl, rfl⟩, rfl⟩)
theorem fr_minds (h : (r, N', C') = sp_minds N C K) : eSH N N' ∧ C' = C := by
  unfold sp_minds at h
  (repeat' split at h) <;> (cases h; exact ⟨⟨rfl, rfl⟩, rfl⟩)
theorem fr_kinds (h : (r, N', C') = sp_kinds N C K) : eSH N N' ∧ C' = C := by
  unfold sp_kinds at h
  (repeat' split at h) <;> (cases h; exact ⟨⟨rfl, rfl⟩, rfl⟩)
theorem fr_glooms (h : (r, N', C') = sp_glooms N C K) : eSH N N' ∧ C' = C := by
  unfold sp_glooms at h
  (repeat' split at h) <;> (cases h; exact ⟨⟨rfl, rfl⟩, rfl⟩)
theorem tC_rf (C : CC) (k : Nat) : eRF C (tC C k) := fun j hj => by
  unfold tC
  exact upC_ne (by omega)
theorem eRF.tr {C C1 C2 : CC} (h : eRF C C1) (h2 : eRF C1 C2) : eRF C C2 := fun k hk => (h2 k hk).trans (h k hk)
theorem fr_tell (h : (r, N', C') = sp_tell N C K) : eSH N N' ∧ eRD N N' ∧ eRF C C' := by
  unfold sp_tell at h
  (repeat' split at h) <;> (cases h; refine ⟨⟨rfl, rfl⟩, ⟨rfl, rfl, rfl, rfl⟩, ?_⟩)
  · exact (tC_rf _ _).tr (tC_rf _ _)
  · exact (((tC_rf _ _).tr (tC_rf _ _)).tr (tC_rf _ _)).tr (tC_rf _ _)
  · exact tC_rf _ _
  · exact eRF.rf _
theorem fr_ring (h : (r, N', C') = sp_ring N C K) : eSH N N' ∧ eRD N N' ∧ eRF C C' := by
  unfold sp_ring at h
  (repeat' split at h) <;> (cases h; refine ⟨⟨rfl, rfl⟩, ⟨rfl, rfl, rfl, rfl⟩, ?_⟩)
  · exact tC_rf _ _
  · exact tC_rf _ _
  · exact eRF.rf _
theorem fr_sheet (h : (r, N', C') = sp_sheet N C K Q n) : eVT N N' ∧ eRD N N' ∧ C' 4 60 = C 4 60 := by
  unfold sp_sheet at h
  (repeat' split at h) <;> (cases h; refine ⟨⟨rfl, rfl, rfl, rfl, rfl, rfl, rfl, rfl⟩, ⟨rfl, rfl, rfl, rfl⟩, ?_⟩) <;> first | rfl | (unfold zC; rw [if_neg (by omega)])
theorem fr_lose (h : (r, N', C') = sp_lose N C K) : eVT N N' ∧ eRD N N' ∧ C' 4 60 = C 4 60 := by
  unfold sp_lose at h
  by_cases c : 0 ≤ K ∧ K ≤ 3
  · rw [if_pos c] at h
    cases h; exact ⟨⟨rfl, rfl, rfl, rfl, rfl, rfl, rfl, rfl⟩, ⟨rfl, rfl, rfl, rfl⟩, rfl⟩
  · rw [if_neg c] at h
    cases h; exact ⟨⟨rfl, rfl, rfl, rfl, rfl, rfl, rfl, rfl⟩, ⟨rfl, rfl, rfl, rfl⟩, rfl⟩
theorem fr_put (h : (r, N', C') = sp_put N C K I x) : eVT N N' ∧ eRD N N' ∧ C' 4 60 = C 4 60 := by
  unfold sp_put at h
  (repeat' split at h) <;> (cases h; refine ⟨⟨rfl, rfl, rfl, rfl, rfl, rfl, rfl, rfl⟩, ⟨rfl, rfl, rfl, rfl⟩, ?_⟩) <;> first | rfl | (unfold upC; rw [if_neg (by omega)])
theorem fr_cell {r : Int64} (h : (r, N', C') = sp_cell N C K I Q) : eVT N N' ∧ eRD N N' ∧ C' 4 60 = C 4 60 := by
  unfold sp_cell at h
  (repeat' split at h) <;> (cases h; exact ⟨⟨rfl, rfl, rfl, rfl, rfl, rfl, rfl, rfl⟩, ⟨rfl, rfl, rfl, rfl⟩, rfl⟩)
theorem fr_copy (h : (r, N', C') = sp_copy N C K I O J n) : eVT N N' ∧ eRD N N' ∧ C' 4 60 = C 4 60 := by
  unfold sp_copy at h
  (repeat' split at h) <;> (cases h; refine ⟨⟨rfl, rfl, rfl, rfl, rfl, rfl, rfl, rfl⟩, ⟨rfl, rfl, rfl, rfl⟩, ?_⟩) <;> first | rfl | (unfold cpC; rw [if_neg (by omega)])
theorem night_N (N : NN) (C : CC) (K Q I n w : Int) : ((sp_night N C K Q I n w).2.1 = f0 N ∨ ∃ k, (sp_night N C K Q I n w).2.1 = ff N k) ∧ (sp_night N C K Q I n w).2.2 = C := by
  unfold sp_night
  (repeat' split) <;> first | exact ⟨Or.inl rfl, rfl⟩ | exact ⟨Or.inr ⟨_, rfl⟩, rfl⟩
theorem fr_night (h : (r, N', C') = sp_night N C K Q I n w) : eVT N N' ∧ eRD N N' ∧ C' 4 60 = C 4 60 := by
  obtain ⟨h1, h2⟩ := night_N N C K Q I n w
  rw [← h] at h1 h2
  have h2 : C' = C := h2
  subst h2
  rcases h1 with h1 | ⟨k, h1⟩
  · have h1 : N' = f0 N := h1
    subst h1
    exact ⟨⟨rfl, rfl, rfl, rfl, rfl, rfl, rfl, rfl⟩, ⟨rfl, rfl, rfl, rfl⟩, rfl⟩
  · have h1 : N' = ff N k := h1
    subst h1
    exact ⟨⟨rfl, rfl, rfl, rfl, rfl, rfl, rfl, rfl⟩, ⟨rfl, rfl, rfl, rfl⟩, rfl⟩
theorem vault_C (N : NN) (C : CC) (K Q I n : Int) : (sp_vault N C K Q I n).2.2 = C := by
  unfold sp_vault
  (repeat' split) <;> rfl
theorem fr_vault (h : (r, N', C') = sp_vault N C K Q I n) : C' = C := by
  have h2 := vault_C N C K Q I n
  rw [← h] at h2
  exact h2
end FR
