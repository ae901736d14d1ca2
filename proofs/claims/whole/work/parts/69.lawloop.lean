/-! THE CLAIM OUT OF ONE WALK OF THE LAW'S BODY. Your part is whole_start (and what it stands on); all else here is the same for every law, but numbers. -/
def R_law : String := "FourVaultLaw"
def lw_P (b : Addr) (xs : List Int32) (args : Array Value) (s : State) : Prop := args = #[.ref b] ∧ s.IntsAt b xs ∧ xs.length ≤ 384 ∧ (Jvm.Cond.and given_1 narrow_1).before args s = true
def lw_Q (_ : Array Value) (s : State) (o : Outcome) (t : State) : Prop := o = .returned (some (.int 1)) ∧ Framed s o t [] 600000 7302250
def lw_Z (below : List Frame) (a : Array Value) (s : State) : State → Prop := fun t => ∃ o, t.status = .running ∧ Ended t below o ∧ lw_Q a s o t
/-- the law's own end, with 1 on the stack, nothing written that was there before, its room as the claim has it -/
theorem lw_ret {p : Program} {l : Launch} {e : Env} {s : State} {m : MethodId} {below : List Frame} {meth : Method} {c : Code} {b : Nat} (hx : p.tables.exec = Jvm.exec) (hb : c.code = code) (hr : meth.sig.returnType = ret) (hlocks : meth.locks = false) {pc : Nat} {H : Heap} {ls : Array Slot} (hdg : decode code pc = .ok (.ireturn, 1)) : W p l e room_1 s m #[Value.ref b] below meth c H [] 600000 7302250 (lw_Z below #[Value.ref b] s) (F0 m pc ls [.int 1]) := by
  intro T hT X
  obtain ⟨fs, hret, hrun, hended, hW, hframe⟩ := X.leave (v := some (.int 1)) (hlocks := hlocks) (fun h => by rw [hr] at h; cases h)
  have hmeth' : T.vm.method? m = some meth := X.method'
  refine ⟨T.setFrames fs, ?_, .returned (some (.int 1)), hrun, hended, rfl, ⟨_, rfl⟩, hW, hframe⟩
  jvm_step X.here [X.here.top, hx, hb, hdg, hmeth', hr, ret, narrow_b1]
  (try refine ⟨rfl, ?_⟩); (try refine ⟨rfl, ?_⟩)
  first | (intro acts; rw [hret _ acts rfl rfl rfl]) | rw [hret _ _ rfl rfl rfl]
  exact Steps.refl _
/-- what holds at the law's entry: the machine, the code, the tables' words (any of lw_tbl by 'hts w (by decide +kernel)'), the script of L ints xs at the cell b, what the Statement gives of the start (any of its parts by flat_of_before) -/
def lw_At (p : Program) (s : State) (m : MethodId) (meth : Method) (c : Code) (b L : Nat) (xs : Nat → Int32) : Prop :=
  p.tables.exec = Jvm.exec ∧ c.code = code ∧ meth.sig.returnType = ret ∧ c.maxLocals = 4 ∧ s.vm.findClass R_law = some m.cls ∧ (∀ w ∈ lw_tbl, w.before #[Value.ref b] s = true) ∧ va_X b L xs s s.heap ∧ b < s.heap.size ∧ meth.locks = false ∧ (Jvm.Cond.and given_1 narrow_1).before #[Value.ref b] s = true
theorem shf_NI {ra : Nat → Nat} : shf NI ra = fun _ => none := by
  funext k
  unfold shf
  refine if_pos ?_
  by_cases c : k < 4
  · refine Or.inl ?_
    show (if k < 4 then 3 else 0) = 3
    exact if_pos c
  · exact Or.inr (by omega)
theorem OK_NI : OK NI := ⟨WF_NI, rfl⟩
set_option maxRecDepth 100000 in
set_option maxHeartbeats 8000000 in
theorem law_loop {p : Program} {l : Launch} {e : Env} {s : State} {m : MethodId} {below : List Frame} {meth : Method} {c : Code} {sc L : Nat} {xs : Nat → Int32} (hL : L ≤ 384) (C0 : lw_At p s m meth c sc L xs) {D : va_G} {ka : Nat → ClassId} (X : Cx p s m #[Value.ref sc] c cL_law 4 RL D ka) {h hm : Nat} : ∀ (fuel j : Nat) (N : NN) (C : CC) (H : Heap) (locs : List Loc) (ls : Array Slot), L < 6 * j + fuel → 6 * j ≤ L → OK N → INV D s.heap.size ka h hm N C H → va_S (fun q => s.heap.size ≤ q) s.heap H locs → lv_has ls 4 [(3, .int (nI (6 * j))), (2, .ref hm), (1, .ref h), (0, .ref sc)] → W p l e room_1 s m #[Value.ref sc] below meth c H locs (100 + 60 * j) (1000 + 180 * j) (lw_Z below #[Value.ref sc] s) (F0 m 18 ls []) := by
  obtain ⟨hx, hb, hr, hml, hown, hts, hX, hbl, hlocks, hgv⟩ := id C0
  intro fuel
  induction fuel with
  | zero => intro j N C H locs ls h1 h2; omega
  | succ fuel ih =>
    intro j N C H locs ls hfu hj hN hI hS hl
    refine lv_iload_n hx hb dL_law_18 rfl (lv_at hl 0 rfl) ?_
    refine lv_aload_n hx hb dL_law_19 rfl (lv_at hl 3 rfl) ?_
    refine va_slen hx hb hX hbl (Nat.not_le.mpr hbl) hS dL_law_20 ?_
    refine W.eq (g2 := F0 m 21 ls [.int (nI L), .int (nI (6 * j))]) rfl ?_
    refine lv_bipush (v := nI 6) hx hb dL_law_21 (by decide) ?_
    refine lv_isub hx hb dL_law_23 ?_
    refine i_icmp_gt (tgt := 1240) hx hb (nT (by omega)) (pk_sub_toInt (a := L) (b := 6) (by omega) (by decide)) dL_law_24 (by decide) (fun hc => ?_) (fun hc => ?_)
    · refine lv_iconst (v := 1) hx hb dL_law_1240 (by decide) ?_
      refine va_forget hS.2.2 ?_
      refine W.widen (k := 600000) (n := 7302250) (by omega) (by omega) ?_
      exact lw_ret hx hb hr hlocks dL_law_1241
    · refine lv_aload_n hx hb dL_law_27 rfl (lv_at hl 3 rfl) ?_
      refine lv_iload_n hx hb dL_law_28 rfl (lv_at hl 0 rfl) ?_
      refine n_sld hx hb hX hbl hS (k := 6 * j) (by omega) hL dL_law_29 ?_
      refine lv_bipush (v := nI 31) hx hb dL_law_30 (by decide) ?_
      refine lv_iand hx hb dL_law_32 ?_
      obtain ⟨n9, hn9, hv9⟩ := and31 (xs (6 * j))
      rw [hv9]
      have hT : (nI n9).toInt = ((n9 : Nat) : Int) := nT (by omega)
      have hj6 : 6 * j + 6 ≤ L := by omega
      have cont : ∀ (N9 : NN) (C9 : CC) (H9 : Heap) (locs9 : List Loc) (ls9 : Array Slot), OK N9 → INV D s.heap.size ka h hm N9 C9 H9 → va_S (fun q => s.heap.size ≤ q) s.heap H9 locs9 → lv_has ls9 4 [(3, .int (nI (6 * j))), (2, .ref hm), (1, .ref h), (0, .ref sc)] → W p l e room_1 s m #[Value.ref sc] below meth c H9 locs9 (100 + 60 * j + 60) (1000 + 180 * j + 180) (lw_Z below #[Value.ref sc] s) (F0 m 1234 ls9 []) := by
        intro N9 C9 H9 locs9 ls hok hI9 hS9 hl
        refine n_iinc (lv' := [(3, .int (nI (6 * j + 6))), (2, .ref hm), (1, .ref h), (0, .ref sc)]) (k := 0) (d := 6) hx hb dL_law_1234 hl rfl rfl (by decide) rfl (fun ls hl => ?_)
        refine lv_goto (tgt := 18) hx hb dL_law_1237 (by decide) ?_
        refine W.widen (k := 100 + 60 * (j + 1)) (n := 1000 + 180 * (j + 1)) (by omega) (by omega) ?_
        exact ih (j + 1) N9 C9 H9 locs9 ls (by omega) (by omega) hok hI9 hS9 hl
      rcases (show n9 = 0 ∨ n9 = 1 ∨ n9 = 2 ∨ n9 = 3 ∨ n9 = 4 ∨ n9 = 5 ∨ n9 = 6 ∨ n9 = 7 ∨ n9 = 8 ∨ n9 = 9 ∨ n9 = 10 ∨ n9 = 11 ∨ n9 = 12 ∨ n9 = 13 ∨ n9 = 14 ∨ n9 = 15 ∨ n9 = 16 ∨ n9 = 17 ∨ n9 = 18 ∨ n9 = 19 ∨ n9 = 20 ∨ n9 = 21 ∨ n9 = 22 ∨ n9 = 23 ∨ n9 = 24 ∨ n9 = 25 ∨ n9 = 26 ∨ n9 = 27 ∨ n9 = 28 ∨ n9 = 29 ∨ n9 = 30 ∨ n9 = 31 by omega) with rfl | rfl | rfl | rfl | rfl | rfl | rfl | rfl | rfl | rfl | rfl | rfl | rfl | rfl | rfl | rfl | rfl | rfl | rfl | rfl | rfl | rfl | rfl | rfl | rfl | rfl | rfl | rfl | rfl | rfl | rfl | rfl
      · refine lv_tableIn (off := 143) (tgt := 176) hx hb dL_law_33 (by rw [hT]; decide) (by rw [hT]; decide) (by rw [hT]; rfl) (by decide) ?_
        exact law_vault X hX hbl hL rfl hN hj6 (by omega) (by omega) hI hS hl cont
      · refine lv_tableIn (off := 196) (tgt := 229) hx hb dL_law_33 (by rw [hT]; decide) (by rw [hT]; decide) (by rw [hT]; rfl) (by decide) ?_
        exact law_ofTaker X hX hbl hL rfl hN hj6 (by omega) (by omega) hI hS hl cont
      · refine lv_tableIn (off := 229) (tgt := 262) hx hb dL_law_33 (by rw [hT]; decide) (by rw [hT]; decide) (by rw [hT]; rfl) (by decide) ?_
        exact law_depth X hX hbl hL rfl hN hj6 (by omega) (by omega) hI hS hl cont
      · refine lv_tableIn (off := 252) (tgt := 285) hx hb dL_law_33 (by rw [hT]; decide) (by rw [hT]; decide) (by rw [hT]; rfl) (by decide) ?_
        exact law_gloom X hX hbl hL rfl hN hj6 (by omega) (by omega) hI hS hl cont
      · refine lv_tableIn (off := 275) (tgt := 308) hx hb dL_law_33 (by rw [hT]; decide) (by rw [hT]; decide) (by rw [hT]; rfl) (by decide) ?_
        exact law_hush X hX hbl hL rfl hN hj6 (by omega) (by omega) hI hS hl cont
      · refine lv_tableIn (off := 308) (tgt := 341) hx hb dL_law_33 (by rw [hT]; decide) (by rw [hT]; decide) (by rw [hT]; rfl) (by decide) ?_
        exact law_think X hX hbl hL rfl hN hj6 (by omega) (by omega) hI hS hl cont
      · refine lv_tableIn (off := 341) (tgt := 374) hx hb dL_law_33 (by rw [hT]; decide) (by rw [hT]; decide) (by rw [hT]; rfl) (by decide) ?_
        exact law_brace X hX hbl hL rfl hN hj6 (by omega) (by omega) hI hS hl cont
      · refine lv_tableIn (off := 374) (tgt := 407) hx hb dL_law_33 (by rw [hT]; decide) (by rw [hT]; decide) (by rw [hT]; rfl) (by decide) ?_
        exact law_drain X hX hbl hL rfl hN hj6 (by omega) (by omega) hI hS hl cont
      · refine lv_tableIn (off := 407) (tgt := 440) hx hb dL_law_33 (by rw [hT]; decide) (by rw [hT]; decide) (by rw [hT]; rfl) (by decide) ?_
        exact law_holds X hX hbl hL rfl hN hj6 (by omega) (by omega) hI hS hl cont
      · refine lv_tableIn (off := 440) (tgt := 473) hx hb dL_law_33 (by rw [hT]; decide) (by rw [hT]; decide) (by rw [hT]; rfl) (by decide) ?_
        exact law_best X hX hbl hL rfl hN hj6 (by omega) (by omega) hI hS hl cont
      · refine lv_tableIn (off := 473) (tgt := 506) hx hb dL_law_33 (by rw [hT]; decide) (by rw [hT]; decide) (by rw [hT]; rfl) (by decide) ?_
        exact law_together X hX hbl hL rfl hN hj6 (by omega) (by omega) hI hS hl cont
      · refine lv_tableIn (off := 516) (tgt := 549) hx hb dL_law_33 (by rw [hT]; decide) (by rw [hT]; decide) (by rw [hT]; rfl) (by decide) ?_
        exact law_friend X hX hbl hL rfl hN hj6 (by omega) (by omega) hI hS hl cont
      · refine lv_tableIn (off := 549) (tgt := 582) hx hb dL_law_33 (by rw [hT]; decide) (by rw [hT]; decide) (by rw [hT]; rfl) (by decide) ?_
        exact law_night X hX hbl hL rfl hN hj6 (by omega) (by omega) hI hS hl cont
      · refine lv_tableIn (off := 612) (tgt := 645) hx hb dL_law_33 (by rw [hT]; decide) (by rw [hT]; decide) (by rw [hT]; rfl) (by decide) ?_
        exact law_gets X hX hbl hL rfl hN hj6 (by omega) (by omega) hI hS hl cont
      · refine lv_tableIn (off := 645) (tgt := 678) hx hb dL_law_33 (by rw [hT]; decide) (by rw [hT]; decide) (by rw [hT]; rfl) (by decide) ?_
        exact law_send X hX hbl hL rfl hN hj6 (by omega) (by omega) hI hS hl cont
      · refine lv_tableIn (off := 678) (tgt := 711) hx hb dL_law_33 (by rw [hT]; decide) (by rw [hT]; decide) (by rw [hT]; rfl) (by decide) ?_
        exact law_reading X hX hbl hL rfl hN hj6 (by omega) (by omega) hI hS hl cont
      · refine lv_tableIn (off := 721) (tgt := 754) hx hb dL_law_33 (by rw [hT]; decide) (by rw [hT]; decide) (by rw [hT]; rfl) (by decide) ?_
        exact law_back X hX hbl hL rfl hN hj6 (by omega) (by omega) hI hS hl cont
      · refine lv_tableIn (off := 744) (tgt := 777) hx hb dL_law_33 (by rw [hT]; decide) (by rw [hT]; decide) (by rw [hT]; rfl) (by decide) ?_
        exact law_minds X hX hbl hL rfl hN hj6 (by omega) (by omega) hI hS hl cont
      · refine lv_tableIn (off := 767) (tgt := 800) hx hb dL_law_33 (by rw [hT]; decide) (by rw [hT]; decide) (by rw [hT]; rfl) (by decide) ?_
        exact law_kinds X hX hbl hL rfl hN hj6 (by omega) (by omega) hI hS hl cont
      · refine lv_tableIn (off := 790) (tgt := 823) hx hb dL_law_33 (by rw [hT]; decide) (by rw [hT]; decide) (by rw [hT]; rfl) (by decide) ?_
        exact law_glooms X hX hbl hL rfl hN hj6 (by omega) (by omega) hI hS hl cont
      · refine lv_tableIn (off := 813) (tgt := 846) hx hb dL_law_33 (by rw [hT]; decide) (by rw [hT]; decide) (by rw [hT]; rfl) (by decide) ?_
        exact law_odds X hX hbl hL rfl hN hj6 (by omega) (by omega) hI hS hl cont
      · refine lv_tableIn (off := 857) (tgt := 890) hx hb dL_law_33 (by rw [hT]; decide) (by rw [hT]; decide) (by rw [hT]; rfl) (by decide) ?_
        exact law_sheet X hX hbl hL rfl hN hj6 (by omega) (by omega) hI hS hl cont
      · refine lv_tableIn (off := 900) (tgt := 933) hx hb dL_law_33 (by rw [hT]; decide) (by rw [hT]; decide) (by rw [hT]; rfl) (by decide) ?_
        exact law_lose X hX hbl hL rfl hN hj6 (by omega) (by omega) hI hS hl cont
      · refine lv_tableIn (off := 923) (tgt := 956) hx hb dL_law_33 (by rw [hT]; decide) (by rw [hT]; decide) (by rw [hT]; rfl) (by decide) ?_
        exact law_put X hX hbl hL rfl hN hj6 (by omega) (by omega) hI hS hl cont
      · refine lv_tableIn (off := 966) (tgt := 999) hx hb dL_law_33 (by rw [hT]; decide) (by rw [hT]; decide) (by rw [hT]; rfl) (by decide) ?_
        exact law_cell X hX hbl hL rfl hN hj6 (by omega) (by omega) hI hS hl cont
      · refine lv_tableIn (off := 1010) (tgt := 1043) hx hb dL_law_33 (by rw [hT]; decide) (by rw [hT]; decide) (by rw [hT]; rfl) (by decide) ?_
        exact law_copy X hX hbl hL rfl hN hj6 (by omega) (by omega) hI hS hl cont
      · refine lv_tableIn (off := 1073) (tgt := 1106) hx hb dL_law_33 (by rw [hT]; decide) (by rw [hT]; decide) (by rw [hT]; rfl) (by decide) ?_
        exact law_tell X hX hbl hL rfl hN hj6 (by omega) (by omega) hI hS hl cont
      · refine lv_tableIn (off := 1096) (tgt := 1129) hx hb dL_law_33 (by rw [hT]; decide) (by rw [hT]; decide) (by rw [hT]; rfl) (by decide) ?_
        exact law_ring X hX hbl hL rfl hN hj6 (by omega) (by omega) hI hS hl cont
      · refine lv_tableIn (off := 1119) (tgt := 1152) hx hb dL_law_33 (by rw [hT]; decide) (by rw [hT]; decide) (by rw [hT]; rfl) (by decide) ?_
        exact law_as X hX hbl hL rfl hN hj6 (by omega) (by omega) hI hS hl cont
      · refine lv_tableIn (off := 1152) (tgt := 1185) hx hb dL_law_33 (by rw [hT]; decide) (by rw [hT]; decide) (by rw [hT]; rfl) (by decide) ?_
        exact law_trace X hX hbl hL rfl hN hj6 (by omega) (by omega) hI hS hl cont
      · refine lv_tableIn (off := 1165) (tgt := 1198) hx hb dL_law_33 (by rw [hT]; decide) (by rw [hT]; decide) (by rw [hT]; rfl) (by decide) ?_
        exact law_fault X hX hbl hL rfl hN hj6 (by omega) (by omega) hI hS hl cont
      · refine lv_tableIn (off := 1178) (tgt := 1211) hx hb dL_law_33 (by rw [hT]; decide) (by rw [hT]; decide) (by rw [hT]; rfl) (by decide) ?_
        exact law_many X hX hbl hL rfl hN hj6 (by omega) (by omega) hI hS hl cont
