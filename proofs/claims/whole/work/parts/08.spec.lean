/-! ===== the spec: numbers N, cells C ===== -/
def upN (u : Nat → Nat) (k v : Nat) : Nat → Nat := fun j => if j = k then v else u j
def up (N : Nat → Nat → Nat) (i k v : Nat) : Nat → Nat → Nat := fun a => if a = i then upN (N i) k v else N a
def upC (C : Nat → Nat → Int32) (i k : Nat) (v : Int32) : Nat → Nat → Int32 := fun a => if a = i then upd (C i) k v else C a
theorem upd_phi {φ : Nat → Int32} {u : Nat → Nat} {k v : Nat} : upd (fun j => φ (u j)) k (φ v) = fun j => φ (upN u k v j) := by
  funext j
  unfold upd upN
  split <;> rfl
def srt (n : Nat) : Int32 := if n = 3 then -9 else nI n
def dr0 (kd g mi : Nat) : Nat := if kd = 1 then g + mi - 1 else if kd = 0 then g + mi else (g + mi) / 2
def drn (N : Nat → Nat → Nat) (a m : Nat) : Nat := dr0 (N 2 a) (if N 0 5 / 2 ^ (m % N 0 0) % 2 = 1 then 0 else N 1 (m % N 0 0)) (N 4 a)
def hol (dr : Nat → Nat) : Nat → Nat → Nat → Nat
  | 0, _, _ => 0
  | k + 1, m, left => if dr m ≤ left then hol dr k (m + 1) (left - dr m) + 1 else 0
def hld (N : Nat → Nat → Nat) (a m part : Nat) : Nat := hol (fun t => drn N a t / part) 40 m (N 3 a)
theorem hol_le (dr : Nat → Nat) : ∀ (k m left : Nat), hol dr k m left ≤ k
  | 0, _, _ => Nat.le_refl _
  | k + 1, m, left => by
    unfold hol
    split
    · exact Nat.succ_le_succ (hol_le dr k _ _)
    · exact Nat.zero_le _
theorem hld_le (N : Nat → Nat → Nat) (a m part : Nat) : hld N a m part ≤ 40 := hol_le _ _ _ _
def WF (N : Nat → Nat → Nat) : Prop := (N 0 0 ≤ 6 ∧ N 0 1 ≤ 5 ∧ N 0 2 ≤ 5 ∧ N 0 3 ≤ 8 ∧ N 0 4 ≤ 4 ∧ (0 < N 0 1 → 0 < N 0 0) ∧ N 0 5 < 64) ∧ (∀ j, N 1 j ≤ 9) ∧ (∀ j, N 2 j ≤ 2) ∧ (∀ j, N 3 j ≤ 99) ∧ (∀ j, N 4 j ≤ 9) ∧ (∀ j, N 5 j ≤ 9) ∧ (∀ j, j < N 0 3 → N 6 j < N 0 1) ∧ (∀ j, N 7 j ≤ 59) ∧ (∀ j, N 8 j ≤ 40) ∧ (∀ j, N 9 j ≤ 3) ∧ (∀ j, N 10 j ≤ 60)
theorem dr0_le {kd g mi : Nat} (hg : g ≤ 9) (hm : mi ≤ 9) : dr0 kd g mi ≤ 18 := by
  unfold dr0
  split
  · omega
  · split <;> omega
theorem drn_le {N : Nat → Nat → Nat} (h : WF N) (a m : Nat) : drn N a m ≤ 18 := by
  unfold drn
  refine dr0_le ?_ (h.2.2.2.2.1 a)
  split
  · omega
  · exact h.2.1 _
theorem va_P.left {D : va_G} {cl : List vw_C} {w1 w2 : va_W} {H : Heap} (h : va_P D cl (w1 ++ w2) H) : va_P D cl w1 H := fun k q hk => h k q (by rw [List.getElem?_append_left (List.getElem?_eq_some_iff.mp hk).1]; exact hk)
theorem va_P.right {D : va_G} {cl : List vw_C} {w1 w2 : va_W} {H : Heap} (h : va_P D cl (w1 ++ w2) H) : va_P D cl w2 H := fun k q hk => h (w1.length + k) q (by rw [List.getElem?_append_right (Nat.le_add_right _ _), Nat.add_sub_cancel_left]; exact hk)
def mw (ka : Nat → ClassId) (h : Nat) (a : Nat → Nat) (N : Nat → Nat → Nat) (C : Nat → Nat → Int32) (f : Nat → Int32) (g : Nat → Nat → Int32) : va_W := [(h, .inr (11, [.int (nI (N 0 4)), .int (C 4 60), .ref (a 2), .ref (a 3), .ref (a 4), .int (nI (N 0 0)), .int (nI (N 0 1)), .int (nI (N 0 2)), .ref (a 8), .ref (a 9), .ref (a 10), .ref (a 11), .ref (a 12), .int (f 13), .int (f 14), .int (f 15), .int (f 16), .ref (a 17), .ref (a 18), .ref (a 19), .ref (a 20), .ref (a 21), .int (nI (N 0 5)), .int (f 23), .int (f 24), .ref (a 25), .ref (a 26), .ref (a 27), .ref (a 28), .ref (a 29), .ref (a 30), .int (nI (N 0 3)), .ref (a 32), .ref (a 33), .ref (a 34)])), (a 2, .inl (ka 0, 4, .inl (fun j => srt (N 9 j)))), (a 3, .inl (ka 0, 4, .inl (fun j => nI (N 10 j)))), (a 4, .inl (ka 0, 240, .inl (fun j => C (j / 60) (j % 60)))), (a 8, .inl (ka 0, 6, .inl (fun j => nI (N 1 j)))), (a 9, .inl (ka 0, 5, .inl (fun j => nI (N 2 j)))), (a 10, .inl (ka 0, 5, .inl (fun j => nI (N 3 j)))), (a 11, .inl (ka 0, 5, .inl (fun j => nI (N 4 j)))), (a 12, .inl (ka 0, 5, .inl (fun j => nI (N 5 j)))), (a 17, .inl (ka 0, 6, .inl (g 17))), (a 18, .inl (ka 0, 5, .inl (g 18))), (a 19, .inl (ka 0, 5, .inl (g 19))), (a 20, .inl (ka 0, 5, .inl (g 20))), (a 21, .inl (ka 0, 5, .inl (g 21))), (a 25, .inl (ka 0, 5, .inl (g 25))), (a 26, .inl (ka 0, 5, .inl (g 26))), (a 27, .inl (ka 0, 100, .inl (g 27))), (a 28, .inl (ka 0, 5, .inl (g 28))), (a 29, .inl (ka 0, 5, .inl (g 29))), (a 30, .inl (ka 0, 5, .inl (g 30))), (a 32, .inl (ka 0, 8, .inl (fun j => nI (N 6 j)))), (a 33, .inl (ka 0, 8, .inl (fun j => nI (N 7 j)))), (a 34, .inl (ka 0, 8, .inl (fun j => nI (N 8 j))))]
theorem ng1 : (-1 : Int32).toInt = -1 := by decide
theorem ng2 : (-2 : Int32).toInt = -2 := by decide
theorem ng3 : (-3 : Int32).toInt = -3 := by decide
theorem ng4 : (-4 : Int32).toInt = -4 := by decide
theorem ng9 : (-9 : Int32).toInt = -9 := by decide
theorem srt_T {n : Nat} (h : n < 2147483648) : (srt n).toInt = (if n = 3 then (-9 : Int) else (n : Int)) := by
  unfold srt
  split
  · exact ng9
  · exact nT h
theorem srt_of {n : Nat} (h : n ≠ 3) : nI n = srt n := (if_neg h).symm
theorem n_max {a b : Nat} (ha : a < 2147483648) (hb : b < 2147483648) : (if nI a < nI b then nI b else nI a) = nI (max a b) := by
  by_cases h : a < b
  · rw [if_pos ((nI_ltI ha hb).mpr h), Nat.max_eq_right (by omega)]
  · rw [if_neg (fun q => h ((nI_ltI ha hb).mp q)), Nat.max_eq_left (by omega)]
theorem n_min {a b : Nat} (ha : a < 2147483648) (hb : b < 2147483648) : (if nI b < nI a then nI b else nI a) = nI (min a b) := by
  by_cases h : b < a
  · rw [if_pos ((nI_ltI hb ha).mpr h), Nat.min_eq_right (by omega)]
  · rw [if_neg (fun q => h ((nI_ltI hb ha).mp q)), Nat.min_eq_left (by omega)]
theorem cells_upd {C : Nat → Nat → Int32} {k i : Nat} {x : Int32} (hi : i < 60) : upd (fun j => C (j / 60) (j % 60)) (60 * k + i) x = fun j => upC C k i x (j / 60) (j % 60) := by
  funext j
  unfold upC
  by_cases h : j = 60 * k + i
  · subst h
    have e1 : (60 * k + i) / 60 = k := by omega
    have e2 : (60 * k + i) % 60 = i := by omega
    rw [e1, e2, if_pos rfl]
    simp [upd]
  · unfold upd
    rw [if_neg h]
    by_cases h2 : j / 60 = k
    · rw [if_pos h2, if_neg (by omega), ← h2]
    · rw [if_neg h2]
def agst (N : Nat → Nat → Nat) (k q : Nat) (i n : Int) : Nat := if N 9 k ≠ 3 ∧ N 9 k ≠ q then 2 else if N 9 k = 3 then 1 else if n < 0 then 4 else if i < 0 ∨ (N 10 k : Int) < i ∨ (N 10 k : Int) - i < n then 3 else 0
theorem nat_ofK {x : Int32} {K : Int} {n : Nat} (hk : x.toInt = K) (h0 : 0 ≤ K) (h1 : K < n) : ∃ j : Nat, j < n ∧ x = nI j ∧ K = (j : Int) := by
  subst hk
  have hlt := x.toInt_lt
  refine ⟨x.toInt.toNat, by omega, ?_, by omega⟩
  rw [ii_eq, nI_toInt (n := x.toInt.toNat) (by omega)]
  omega
theorem n_shr {a k : Nat} (ha : a < 2147483648) (hk : k < 32) : nI a >>> (nI k &&& 31) = nI (a / 2 ^ k) := by
  refine pk_shrN ha _ k ?_
  have : ∀ n, n < 32 → ((nI n &&& 31).toBitVec.smod 32).toNat = n := by decide
  exact this k hk
theorem n_shl {a k : Nat} (hk : k < 32) (h : a * 2 ^ k < 4294967296) : nI a <<< (nI k &&& 31) = nI (a * 2 ^ k) := by
  refine pk_shlN _ k ?_ h
  have : ∀ n, n < 32 → ((nI n &&& 31).toBitVec.smod 32).toNat = n := by decide
  exact this k hk
theorem n_and1 {a : Nat} (ha : a < 2147483648) : nI a &&& nI 1 = nI (a % 2) := pk_andN (k := 1) (by omega) (by decide)
theorem n_or (a b : Nat) : nI a ||| nI b = nI (a ||| b) := by
  apply Int32.toBitVec_inj.1
  show BitVec.ofNat 32 a ||| BitVec.ofNat 32 b = BitVec.ofNat 32 (a ||| b)
  apply BitVec.eq_of_getLsbD_eq
  intro i hi
  simp [hi]
theorem n_and (a b : Nat) : nI a &&& nI b = nI (a &&& b) := by
  apply Int32.toBitVec_inj.1
  show BitVec.ofNat 32 a &&& BitVec.ofNat 32 b = BitVec.ofNat 32 (a &&& b)
  apply BitVec.eq_of_getLsbD_eq
  intro i hi
  simp [hi]
