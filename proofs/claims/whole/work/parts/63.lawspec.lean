/-! ===== what a call leaves: numbers as they should be ===== -/
def OK (N : NN) : Prop := WF N ∧ N 0 5 = 0
theorem okf0 {N : NN} (h : OK N) : OK (f0 N) := ⟨h.1.up04 (by decide), h.2⟩
theorem okff {N : NN} {k : Nat} (h : OK N) (hk : k ≤ 4) : OK (ff N k) := ⟨(h.1.up04 (v := 0) (by decide)).up04 hk, h.2⟩
theorem okag {N : NN} {k q : Nat} {i n : Int} (h : OK N) : OK (ff N (agst N k q i n)) := okff h (Nat.lt_succ_iff.mp (agst_lt N k q i n))
theorem ok_hush {N : NN} {C : CC} {K V : Int} (h : OK N) : OK (sp_hush N C K V).2.1 := by
  unfold sp_hush
  split
  · split
    · exact ⟨h.1.up1 (by omega), h.2⟩
    · exact h
  · exact h
theorem ok_think {N : NN} {C : CC} {K V : Int} (h : OK N) : OK (sp_think N C K V).2.1 := by
  unfold sp_think
  split
  · split
    · exact ⟨h.1.up4 (by omega), h.2⟩
    · exact h
  · exact h
theorem ok_brace {N : NN} {C : CC} {K V : Int} (h : OK N) : OK (sp_brace N C K V).2.1 := by
  unfold sp_brace
  split
  · split
    · exact ⟨h.1.up3 (by omega), h.2⟩
    · exact h
  · exact h
theorem ok_reading {N : NN} {C : CC} {K M Q : Int} (h : OK N) : OK (sp_reading N C K M Q).2.1 := by
  unfold sp_reading
  split
  · next hk =>
    split
    · next hm =>
      split
      · exact h
      · next h8 =>
        obtain ⟨⟨⟨a0, a1, a2, a3, a4, a5, a6⟩, b1, b2, b3, b4, b5, b6, b7, b8, b9, b10⟩, hL⟩ := h
        refine ⟨⟨⟨a0, a1, a2, (by omega : N 0 3 + 1 ≤ 8), a4, a5, a6⟩, b1, b2, b3, b4, b5, fun j hj => ?_, fun j => ?_, fun j => ?_, b9, b10⟩, hL⟩
        · show upN (N 6) (N 0 3) K.toNat j < N 0 1
          have hj : j < N 0 3 + 1 := hj
          unfold upN
          split
          · omega
          · exact b6 j (by omega)
        · show upN (N 7) (N 0 3) M.toNat j ≤ 59
          exact upN_le (by omega) b7 j
        · show upN (N 8) (N 0 3) Q.toNat j ≤ 40
          exact upN_le (by omega) b8 j
    · exact h
  · exact h
theorem ok_back {N : NN} {C : CC} {K : Int} (h : OK N) : OK (sp_back N C K).2.1 := by
  unfold sp_back
  split
  · obtain ⟨⟨⟨a0, a1, a2, a3, a4, a5, a6⟩, b1, b2, b3, b4, b5, b6, b7⟩, hL⟩ := h
    exact ⟨⟨⟨a0, a1, a2, (by omega : N 0 3 - K.toNat ≤ 8), a4, a5, a6⟩, b1, b2, b3, b4, b5, fun j hj => b6 j (by have hj : j < N 0 3 - K.toNat := hj; omega), b7⟩, hL⟩
  · exact h
theorem ok_minds {N : NN} {C : CC} {K : Int} (h : OK N) : OK (sp_minds N C K).2.1 := by
  unfold sp_minds
  split <;> exact h
theorem ok_kinds {N : NN} {C : CC} {K : Int} (h : OK N) : OK (sp_kinds N C K).2.1 := by
  unfold sp_kinds
  split <;> exact h
theorem ok_glooms {N : NN} {C : CC} {K : Int} (h : OK N) : OK (sp_glooms N C K).2.1 := by
  unfold sp_glooms
  split <;> exact h
theorem ok_tell {N : NN} {C : CC} {K : Int} (h : OK N) : OK (sp_tell N C K).2.1 := by
  unfold sp_tell
  (repeat' split) <;> exact h
theorem ok_ring {N : NN} {C : CC} {K : Int} (h : OK N) : OK (sp_ring N C K).2.1 := by
  unfold sp_ring
  (repeat' split) <;> exact h
theorem ok_as {N : NN} {C : CC} {K Q : Int} (h : OK N) : OK (sp_as N C K Q).2.1 := by
  unfold sp_as
  (repeat' split) <;> first | exact okf0 h | exact okff h (by decide)
theorem ok_sheet {N : NN} {C : CC} {K Q n : Int} (h : OK N) : OK (sp_sheet N C K Q n).2.1 := by
  unfold sp_sheet
  split
  · split
    · split
      · exact okff h (by decide)
      · obtain ⟨⟨⟨a0, a1, a2, a3, a4, a5, a6⟩, b1, b2, b3, b4, b5, b6, b7, b8, b9, b10⟩, hL⟩ := h
        exact ⟨⟨⟨a0, a1, a2, a3, (by decide : (0 : Nat) ≤ 4), a5, a6⟩, b1, b2, b3, b4, b5, b6, b7, b8, upN_le (by omega) b9, upN_le (by omega) b10⟩, hL⟩
    · exact okf0 h
  · exact okf0 h
theorem ok_lose {N : NN} {C : CC} {K : Int} (h : OK N) : OK (sp_lose N C K).2.1 := by
  unfold sp_lose
  split
  · obtain ⟨⟨a, b1, b2, b3, b4, b5, b6, b7, b8, b9, b10⟩, hL⟩ := h
    exact ⟨⟨a, b1, b2, b3, b4, b5, b6, b7, b8, upN_le (by decide) b9, b10⟩, hL⟩
  · exact h
theorem ok_put {N : NN} {C : CC} {K i : Int} {v : Int32} (h : OK N) : OK (sp_put N C K i v).2.1 := by
  unfold sp_put
  (repeat' split) <;> first | exact okf0 h | exact okff h (by decide)
theorem ok_cell {N : NN} {C : CC} {K i Q : Int} (h : OK N) : OK (sp_cell N C K i Q).2.1 := by
  unfold sp_cell
  (repeat' split) <;> first | exact okf0 h | exact okff h (by decide)
theorem ok_copy {N : NN} {C : CC} {K i O j n : Int} (h : OK N) : OK (sp_copy N C K i O j n).2.1 := by
  unfold sp_copy
  (repeat' split) <;> first | exact okf0 h | exact okff h (by decide)
theorem ok_night {N : NN} {C : CC} {K Q I n w : Int} (h : OK N) : OK (sp_night N C K Q I n w).2.1 := by
  unfold sp_night
  (repeat' split) <;> first | exact okf0 h | exact okag h
theorem ok_send {N : NN} {C : CC} {M K : Int} (h : OK N) : OK (sp_send N C M K).2.1 := by
  unfold sp_send
  (repeat' split) <;> exact h
theorem ok_vault {N : NN} {C : CC} {K Q I n : Int} (h : OK N) : OK (sp_vault N C K Q I n).2.1 := by
  unfold sp_vault
  split
  · split
    · split
      · split
        · next hc =>
          obtain ⟨hp, -, -⟩ := prun_PI C n.toNat (60 * K.toNat + I.toNat) P0 PI_0
          obtain ⟨⟨a0, a1, a2, a6, a7, a8, a9, a10⟩, b1, b2, b3, b4, b5⟩ := hp
          exact ⟨WF_nvt (okf0 h).1 ⟨a10 (by rw [hc.2]; decide), a0⟩ a1 a2 (fun j _ => b1 j) (fun j _ => ⟨b2 j, b3 j, b4 j⟩) (fun j _ => b5 j), h.2⟩
        · exact okf0 h
      · exact okag h
    · exact okf0 h
  · exact okf0 h
theorem sp_odds_eq (N : NN) (C : CC) (K n w : Int) : sp_odds N C K n w = ((if (0 ≤ K ∧ K < (N 0 1 : Int)) ∧ (0 ≤ n ∧ n ≤ 40) ∧ (0 ≤ w ∧ w ≤ 1) then lt_ (ocnt N K.toNat n.toNat) (2 ^ N 0 0) w else LOSTV), N, C) := by
  unfold sp_odds
  split <;> rfl
/-! ===== the law's world ===== -/
def fvb (h : Nat) (A b nb sb v : Nat → Nat) (ft : Nat) : va_W := [(h, .inr (10, [.ref (A 0), .ref (A 1), .ref (b 0), .ref (nb 0), .ref (sb 0), .ref (A 2), .ref (v 0), .int (nI ft)]))]
def shb (ka : Nat → ClassId) (a : Nat) (N : NN) (ra : Nat → Nat) : va_W := [(a, .inl (ka 1, 4, .inr (.inr (.inr (.inr (shf N ra))))))]
def rdb (ka : Nat → ClassId) (a d : Nat) (rk : Nat → Nat) (du kd nv : Int32) (kf nf mf : Nat → Int32) : va_W := [(a, .inr (1, [.ref d, .ref (rk 0), .ref (rk 1), .ref (rk 2), .int du, .int kd, .int nv])), (rk 0, .inl (ka 0, 5, .inl kf)), (rk 1, .inl (ka 0, 5, .inl nf)), (rk 2, .inl (ka 0, 5, .inl mf))]
def ngb (ka : Nat → ClassId) (nb : Nat → Nat) (cn : Int32) (tq bq eq : Nat → Int32) : va_W := [(nb 0, .inr (0, [.ref (nb 1), .ref (nb 2), .ref (nb 3), .int cn])), (nb 1, .inl (ka 0, 20, .inl tq)), (nb 2, .inl (ka 0, 20, .inl bq)), (nb 3, .inl (ka 0, 20, .inl eq))]
def trb (a : Nat) (tv : Int32) : va_W := [(a, .inr (7, [.int tv]))]
theorem wdH.fr {D : va_G} {z : Nat} {H : Heap} {bs : List va_W} (i : Nat) {x : va_W} (h : bs[i]? = some x) (hw : wdH D z bs.flatten H) : wdH D z (x :: bs.eraseIdx i).flatten H := hw.perm (perm_at h).flatten
theorem wdH.bk {D : va_G} {z : Nat} {H : Heap} {bs : List va_W} {x : va_W} (i : Nat) (hw : wdH D z (x :: bs).flatten H) : wdH D z (bs.take i ++ x :: bs.drop i).flatten H := by
  have h : (x :: bs).Perm (bs.take i ++ x :: bs.drop i) := by
    conv => lhs; rw [← List.take_append_drop i bs]
    exact List.perm_middle.symm
  exact hw.perm h.flatten
def INV (D : va_G) (z : Nat) (ka : Nat → ClassId) (h hm : Nat) (N : NN) (C : CC) (H : Heap) : Prop := ∃ (A b nb sb mr v d rk ta ra ca am : Nat → Nat) (cn : Int32) (tq bq eq kf nf mf : Nat → Int32) (Mf : Nat → Nat → Nat) (Gf : Nat → Nat) (du kd nv : Int32) (np nt ng : Nat) (wf df wf2 df2 : Nat → Int32) (tf tf2 : Nat → Option Nat) (f : Nat → Int32) (g : Nat → Nat → Int32), VR N ta wf df tf ∧ (∀ i j, Mf i j ≤ 1000) ∧ (∀ i, Gf i < 32) ∧ wdH D z (List.flatten [fvb h A b nb sb v (N 0 4), shb ka (A 0) N ra, rdb ka (A 1) (d 0) rk du kd nv kf nf mf, vlw ka d np nt ng wf2 df2 tf2, rdw ka b N, ngb ka nb cn tq bq eq, trb (A 2) (C 4 60), sdw ka sb mr Mf Gf, vlw ka v (N 0 0) (N 0 1) (N 0 2) wf df tf, rows ka ra ca N C, tkw ta N (N 0 1), mw ka hm am N C f g]) H
section SLD
variable {p : Program} {l : Launch} {e : Env} {R : Room} {s : State} {m : MethodId} {args : Array Value} {below : List Frame} {meth : Method} {c : Code} {H : Heap} {locs : List Loc} {cells slots : Nat} {Q : State → Prop}
variable {cc : ByteArray} {pc : Nat} {ls : Array Slot} {rest : List Value} {sc L : Nat} {xs : Nat → Int32}
theorem n_sld (hx : p.tables.exec = Jvm.exec) (hb : c.code = cc) (hX : va_X sc L xs s s.heap) (hbl : sc < s.heap.size) (hS : va_S (fun q => s.heap.size ≤ q) s.heap H locs) {k : Nat} (hk : k < L) (hL : L ≤ 384) (hdg : decode cc pc = .ok (.iaload, 1))
    (kk : W p l e R s m args below meth c H locs cells slots Q (F0 m (pc + 1) ls (.int (xs k) :: rest))) : W p l e R s m args below meth c H locs cells slots Q (F0 m pc ls (.int (nI k) :: .ref sc :: rest)) :=
  va_sld hx hb hX hbl (Nat.not_le.mpr hbl) hS (vp_in_nI hk (by omega)) hdg (by rw [cl_nI (by omega)]; exact kk)
end SLD
theorem and31 (x : Int32) : ∃ n, n < 32 ∧ x &&& nI 31 = nI n := by
  have e : x = nI x.toBitVec.toNat := by
    apply Int32.toBitVec_inj.1
    show x.toBitVec = BitVec.ofNat 32 x.toBitVec.toNat
    rw [BitVec.ofNat_toNat, BitVec.setWidth_eq]
  refine ⟨x.toBitVec.toNat &&& 31, ?_, ?_⟩
  · exact Nat.lt_of_le_of_lt Nat.and_le_right (by decide)
  · conv => lhs; rw [e]
    exact n_and _ _
