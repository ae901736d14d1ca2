section TK2
variable {p : Program} {l : Launch} {e : Env} {R : Room} {s : State} {m : MethodId} {args : Array Value} {below : List Frame} {meth : Method} {c : Code} {H : Heap} {locs : List Loc} {cells slots : Nat} {Q : State → Prop}
variable {D : va_G} {ka : Nat → ClassId} {cc : ByteArray} {nL z pc q kd q0 : Nat} {ls : Array Slot} {rest : List Value} {own : String} {ws : va_W} {index : Nat} {H0 : Heap}
theorem one_cell {cl : List vw_C} {x : Nat × va_E} (hP : va_P D cl ws H) (he : ws[q0]? = some x) : va_P D cl (([x] : va_W) ++ ([] : va_W)) H := va_P.mem.mpr (fun y hy => by
  rw [List.append_nil] at hy
  rw [List.mem_singleton.mp hy]
  exact hP q0 x he)
theorem tk_drain (X : Cx p s m args c cc nL own D ka) {nu : Int32} {nv mi w : Nat} (hw : w ≤ 9) (hmi : mi ≤ 9) (hlink : Cond.methodLink own index yX6_drainBy ∈ gtb) (hP : va_P D vwCl ws H) (he : ws[q0]? = some (q, .inr (kcl kd, [.int nu, .int (nI nv), .int (nI mi)]))) (hkd : kd ≤ 2) (hR : okRoom R 1 2) (hls : ls.size = nL) (hW : (rest.map fun v => v.category).sum ≤ 8) (hf : cells ≤ R.cells ∧ slots ≤ R.slots) (hdg : decode cc pc = .ok (.invokevirtual index, 3))
    (kk : W p l e R s m args below meth c H locs cells slots Q (F0 m (pc + 3) ls (.int (nI (dr0 kd w mi)) :: rest))) : W p l e R s m args below meth c H locs cells slots Q (F0 m pc ls (.int (nI w) :: .ref q :: rest)) := by
  have hR := hR
  rcases kcl_or hkd with ⟨rfl, h⟩ | ⟨rfl, h⟩ | ⟨rfl, h⟩ <;> rw [h] at he
  · exact vp_callSi (ro_runV (c_X6_drainBy l D ka q nu nv mi w hw hmi) X wd_372 hlink wd_360 wd_361 wd_9 on_X6_drainBy ⟨by have := hR.1; omega, by have := hR.2; omega⟩ (va_recv X.2.2.2.2.2.1 hP (ci := 6) rfl he) (one_cell hP he) hls rfl hW hf hdg) (fun r hr => by subst hr; exact kk)
  · exact vp_callSi (ro_runU (x := yX6_drainBy) (C := "FourVault$Singer") (c_X5_drainBy l D ka q nu nv mi w hw hmi) X wd_365 wd_372 hlink wd_362 wd_360 wd_363 wd_364 wd_10 on_X6_drainBy ⟨by have := hR.1; omega, by have := hR.2; omega⟩ (va_recv X.2.2.2.2.2.1 hP (ci := 5) rfl he) (one_cell hP he) hls rfl hW hf hdg) (fun r hr => by subst hr; exact kk)
  · exact vp_callSi (ro_runU (x := yX6_drainBy) (C := "FourVault$Widow") (c_X9_drainBy l D ka q nu nv mi w hw hmi) X wd_371 wd_372 hlink wd_362 wd_360 wd_369 wd_370 wd_11 on_X6_drainBy ⟨by have := hR.1; omega, by have := hR.2; omega⟩ (va_recv X.2.2.2.2.2.1 hP (ci := 9) rfl he) (one_cell hP he) hls rfl hW hf hdg) (fun r hr => by subst hr; exact kk)
theorem tk_kind (X : Cx p s m args c cc nL own D ka) {nu : Int32} {nv mi : Nat} (hlink : Cond.methodLink own index yX6_kindNumber ∈ gtb) (hP : va_P D vwCl ws H) (he : ws[q0]? = some (q, .inr (kcl kd, [.int nu, .int (nI nv), .int (nI mi)]))) (hkd : kd ≤ 2) (hR : okRoom R 1 2) (hls : ls.size = nL) (hW : (rest.map fun v => v.category).sum ≤ 8) (hf : cells ≤ R.cells ∧ slots ≤ R.slots) (hdg : decode cc pc = .ok (.invokevirtual index, 3))
    (kk : W p l e R s m args below meth c H locs cells slots Q (F0 m (pc + 3) ls (.int (nI kd) :: rest))) : W p l e R s m args below meth c H locs cells slots Q (F0 m pc ls (.ref q :: rest)) := by
  have hR := hR
  rcases kcl_or hkd with ⟨rfl, h⟩ | ⟨rfl, h⟩ | ⟨rfl, h⟩ <;> rw [h] at he
  · exact vp_callSi (ro_runV (c_X6_kindNumber l D ka q) X wd_322 hlink wd_313 wd_314 wd_9 on_X6_kindNumber ⟨by have := hR.1; omega, by have := hR.2; omega⟩ (va_recv X.2.2.2.2.2.1 hP (ci := 6) rfl he) trivial hls rfl hW hf hdg) (fun r hr => by subst hr; exact kk)
  · exact vp_callSi (ro_runU (x := yX6_kindNumber) (C := "FourVault$Singer") (c_X5_kindNumber l D ka q) X wd_318 wd_322 hlink wd_315 wd_313 wd_316 wd_317 wd_10 on_X6_kindNumber ⟨by have := hR.1; omega, by have := hR.2; omega⟩ (va_recv X.2.2.2.2.2.1 hP (ci := 5) rfl he) trivial hls rfl hW hf hdg) (fun r hr => by subst hr; exact kk)
  · exact vp_callSi (ro_runU (x := yX6_kindNumber) (C := "FourVault$Widow") (c_X9_kindNumber l D ka q) X wd_321 wd_322 hlink wd_315 wd_313 wd_319 wd_320 wd_11 on_X6_kindNumber ⟨by have := hR.1; omega, by have := hR.2; omega⟩ (va_recv X.2.2.2.2.2.1 hP (ci := 9) rfl he) trivial hls rfl hW hf hdg) (fun r hr => by subst hr; exact kk)
end TK2
set_option maxRecDepth 100000 in
set_option maxHeartbeats 4000000 in
theorem c_X8_stands (l : Launch) (D : va_G) (ka : Nat → ClassId) (v ta : Nat → Nat) (N : NN) (wf df : Nat → Int32) (tf : Nat → Option Nat) (hV : VR N ta wf df tf) (hN : WF N) : RO l D ka yX8_stands cX8_stands 1 (some .boolean) 0 [.ref (v 0)] (fun H => va_P D vwCl (kw ka v ta N wf df tf) H) (vp_Si (fun r => r = bI (0 < N 0 1))) := by
  refine RO.ofZ (by decide) (Nat.le_of_ble_eq_true rfl) ?_
  intro p e s m args below meth c Q X hP hret ls hl
  obtain ⟨hx, hb, hml, hown, hts, hE⟩ := id X
  have hK := hE.1
  have hl : lv_has ls 1 [(0, .ref (v 0))] := hl
  have hN1 := hN.1
  refine lv_aload_n hx hb dX8_stands_0 rfl (lv_at hl 0 rfl) ?_
  refine va_get (D := D) (ci := 8) (v := .int (nI (N 0 1))) (C := RX8) (T := TX8) (N := 6) hx hb hts inX8 hown hK hP 0 rfl rfl 4 (by decide) (hts _ wd_52) (fun _ h9 => h9) rfl dX8_stands_1 ?_
  refine i_if_le (tgt := 11) hx hb (nT (by omega)) dX8_stands_4 (by decide) (fun c_1 => ?_) (fun c_1 => ?_)
  · refine lv_iconst (v := nI 0) hx hb dX8_stands_11 (by decide) ?_
    refine hret _ _ _ dX8_stands_12 (by decide) ?_
    exact (bI_f (by omega)).symm
  · refine lv_iconst (v := nI 1) hx hb dX8_stands_7 (by decide) ?_
    refine lv_goto (tgt := 12) hx hb dX8_stands_8 (by decide) ?_
    refine hret _ _ _ dX8_stands_12 (by decide) ?_
    exact (bI_t (by omega)).symm
set_option maxRecDepth 100000 in
set_option maxHeartbeats 4000000 in
theorem c_X8_isPlace (l : Launch) (D : va_G) (ka : Nat → ClassId) (v ta : Nat → Nat) (N : NN) (wf df : Nat → Int32) (tf : Nat → Option Nat) (hV : VR N ta wf df tf) (hN : WF N) (k : Int32) (K9 : Int) (hk : k.toInt = K9) : RO l D ka yX8_isPlace cX8_isPlace 2 (some .boolean) 0 [.ref (v 0), .int k] (fun H => va_P D vwCl (kw ka v ta N wf df tf) H) (vp_Si (fun r => r = bI (0 ≤ K9 ∧ K9 < (N 0 0 : Int)))) := by
  refine RO.ofZ (by decide) (Nat.le_of_ble_eq_true rfl) ?_
  intro p e s m args below meth c Q X hP hret ls hl
  obtain ⟨hx, hb, hml, hown, hts, hE⟩ := id X
  have hK := hE.1
  have hl : lv_has ls 2 [(0, .ref (v 0)), (1, .int k)] := hl
  have hN1 := hN.1
  refine lv_iload_n hx hb dX8_isPlace_0 rfl (lv_at hl 1 rfl) ?_
  refine i_if_lt (tgt := 16) hx hb hk dX8_isPlace_1 (by decide) (fun c_1 => ?_) (fun c_1 => ?_)
  · refine lv_iconst (v := nI 0) hx hb dX8_isPlace_16 (by decide) ?_
    refine hret _ _ _ dX8_isPlace_17 (by decide) ?_
    exact (bI_f (by omega)).symm
  · refine lv_iload_n hx hb dX8_isPlace_4 rfl (lv_at hl 1 rfl) ?_
    refine lv_aload_n hx hb dX8_isPlace_5 rfl (lv_at hl 0 rfl) ?_
    refine va_get (D := D) (ci := 8) (v := .int (nI (N 0 0))) (C := RX8) (T := TX8) (N := 6) hx hb hts inX8 hown hK hP 0 rfl rfl 3 (by decide) (hts _ wd_49) (fun _ h9 => h9) rfl dX8_isPlace_6 ?_
    refine i_icmp_ge (tgt := 16) hx hb hk (nT (by omega)) dX8_isPlace_9 (by decide) (fun c_2 => ?_) (fun c_2 => ?_)
    · refine lv_iconst (v := nI 0) hx hb dX8_isPlace_16 (by decide) ?_
      refine hret _ _ _ dX8_isPlace_17 (by decide) ?_
      exact (bI_f (by omega)).symm
    · refine lv_iconst (v := nI 1) hx hb dX8_isPlace_12 (by decide) ?_
      refine lv_goto (tgt := 17) hx hb dX8_isPlace_13 (by decide) ?_
      refine hret _ _ _ dX8_isPlace_17 (by decide) ?_
      exact (bI_t (by omega)).symm
set_option maxRecDepth 100000 in
set_option maxHeartbeats 4000000 in
theorem c_X8_isGood (l : Launch) (D : va_G) (ka : Nat → ClassId) (v ta : Nat → Nat) (N : NN) (wf df : Nat → Int32) (tf : Nat → Option Nat) (hV : VR N ta wf df tf) (hN : WF N) (k : Int32) (K9 : Int) (hk : k.toInt = K9) : RO l D ka yX8_isGood cX8_isGood 2 (some .boolean) 0 [.ref (v 0), .int k] (fun H => va_P D vwCl (kw ka v ta N wf df tf) H) (vp_Si (fun r => r = bI (0 ≤ K9 ∧ K9 < (N 0 2 : Int)))) := by
  refine RO.ofZ (by decide) (Nat.le_of_ble_eq_true rfl) ?_
  intro p e s m args below meth c Q X hP hret ls hl
  obtain ⟨hx, hb, hml, hown, hts, hE⟩ := id X
  have hK := hE.1
  have hl : lv_has ls 2 [(0, .ref (v 0)), (1, .int k)] := hl
  have hN1 := hN.1
  refine lv_iload_n hx hb dX8_isGood_0 rfl (lv_at hl 1 rfl) ?_
  refine i_if_lt (tgt := 16) hx hb hk dX8_isGood_1 (by decide) (fun c_1 => ?_) (fun c_1 => ?_)
  · refine lv_iconst (v := nI 0) hx hb dX8_isGood_16 (by decide) ?_
    refine hret _ _ _ dX8_isGood_17 (by decide) ?_
    exact (bI_f (by omega)).symm
  · refine lv_iload_n hx hb dX8_isGood_4 rfl (lv_at hl 1 rfl) ?_
    refine lv_aload_n hx hb dX8_isGood_5 rfl (lv_at hl 0 rfl) ?_
    refine va_get (D := D) (ci := 8) (v := .int (nI (N 0 2))) (C := RX8) (T := TX8) (N := 6) hx hb hts inX8 hown hK hP 0 rfl rfl 5 (by decide) (hts _ wd_56) (fun _ h9 => h9) rfl dX8_isGood_6 ?_
    refine i_icmp_ge (tgt := 16) hx hb hk (nT (by omega)) dX8_isGood_9 (by decide) (fun c_2 => ?_) (fun c_2 => ?_)
    · refine lv_iconst (v := nI 0) hx hb dX8_isGood_16 (by decide) ?_
      refine hret _ _ _ dX8_isGood_17 (by decide) ?_
      exact (bI_f (by omega)).symm
    · refine lv_iconst (v := nI 1) hx hb dX8_isGood_12 (by decide) ?_
      refine lv_goto (tgt := 17) hx hb dX8_isGood_13 (by decide) ?_
      refine hret _ _ _ dX8_isGood_17 (by decide) ?_
      exact (bI_t (by omega)).symm
set_option maxRecDepth 100000 in
set_option maxHeartbeats 4000000 in
theorem c_X8_takerAt (l : Launch) (D : va_G) (ka : Nat → ClassId) (v ta : Nat → Nat) (N : NN) (wf df : Nat → Int32) (tf : Nat → Option Nat) (hV : VR N ta wf df tf) (hN : WF N) (k : Int32) (K9 : Int) (hk : k.toInt = K9) : RO l D ka yX8_takerAt cX8_takerAt 2 (some (.object "FourVault$Taker")) 0 [.ref (v 0), .int k] (fun H => va_P D vwCl (kw ka v ta N wf df tf) H) (va_Sq (fun r => r = (if 0 ≤ K9 ∧ K9 < (N 0 1 : Int) then some (ta K9.toNat) else none))) := by
  refine RO.ofA (Or.inl ⟨_, rfl⟩) (by decide) (Nat.le_of_ble_eq_true rfl) ?_
  intro p e s m args below meth c Q X hP hret ls hl
  obtain ⟨hx, hb, hml, hown, hts, hE⟩ := id X
  have hK := hE.1
  have hl : lv_has ls 2 [(0, .ref (v 0)), (1, .int k)] := hl
  have hN1 := hN.1
  refine lv_iload_n hx hb dX8_takerAt_0 rfl (lv_at hl 1 rfl) ?_
  refine i_if_lt (tgt := 21) hx hb hk dX8_takerAt_1 (by decide) (fun c_1 => ?_) (fun c_1 => ?_)
  · refine lv_null hx hb dX8_takerAt_21 ?_
    refine W.eq (g2 := F0 m 22 ls [va_rf none]) rfl ?_
    refine hret none _ _ dX8_takerAt_22 ?_
    rw [if_neg (by omega)]
  · refine lv_iload_n hx hb dX8_takerAt_4 rfl (lv_at hl 1 rfl) ?_
    refine lv_aload_n hx hb dX8_takerAt_5 rfl (lv_at hl 0 rfl) ?_
    refine va_get (D := D) (ci := 8) (v := .int (nI (N 0 1))) (C := RX8) (T := TX8) (N := 6) hx hb hts inX8 hown hK hP 0 rfl rfl 4 (by decide) (hts _ wd_52) (fun _ h9 => h9) rfl dX8_takerAt_6 ?_
    refine i_icmp_ge (tgt := 21) hx hb hk (nT (by omega)) dX8_takerAt_9 (by decide) (fun c_2 => ?_) (fun c_2 => ?_)
    · refine lv_null hx hb dX8_takerAt_21 ?_
      refine W.eq (g2 := F0 m 22 ls [va_rf none]) rfl ?_
      refine hret none _ _ dX8_takerAt_22 ?_
      rw [if_neg (by omega)]
    · obtain ⟨jq, hlt_jq, rfl, rfl⟩ := nat_ofK (n := N 0 1) hk (by omega) (by omega)
      refine lv_aload_n hx hb dX8_takerAt_12 rfl (lv_at hl 0 rfl) ?_
      refine va_get (D := D) (ci := 8) (v := .ref (v 2)) (C := RX8) (T := TX8) (N := 6) hx hb hts inX8 hown hK hP 0 rfl rfl 1 (by decide) (hts _ wd_42) (fun _ h9 => h9) rfl dX8_takerAt_13 ?_
      refine lv_iload_n hx hb dX8_takerAt_16 rfl (lv_at hl 1 rfl) ?_
      refine n_aald hx hb hK hP 2 2 rfl rfl (k := jq) (by omega) (by decide) dX8_takerAt_17 ?_
      rw [hV.2.2 jq (by omega)]
      refine W.eq (g2 := F0 m 18 ls [.ref (ta jq)]) rfl ?_
      refine lv_goto (tgt := 22) hx hb dX8_takerAt_18 (by decide) ?_
      refine W.eq (g2 := F0 m 22 ls [va_rf (some (ta jq))]) rfl ?_
      refine hret (some (ta jq)) _ _ dX8_takerAt_22 ?_
      rw [if_pos (by omega)]; rfl
set_option maxRecDepth 100000 in
set_option maxHeartbeats 4000000 in
theorem c_X8_weightIn (l : Launch) (D : va_G) (ka : Nat → ClassId) (v ta : Nat → Nat) (N : NN) (wf df : Nat → Int32) (tf : Nat → Option Nat) (hV : VR N ta wf df tf) (hN : WF N) (m0 : Nat) (hm : m0 < 1000) (hp : 0 < N 0 0) : RO l D ka yX8_weightIn cX8_weightIn 2 (some .int) 0 [.ref (v 0), .int (nI m0)] (fun H => va_P D vwCl (kw ka v ta N wf df tf) H) (vp_Si (fun r => r = nI (N 1 (m0 % N 0 0)))) := by
  refine RO.ofI (by decide) (Nat.le_of_ble_eq_true rfl) ?_
  intro p e s m args below meth c Q X hP hret ls hl
  obtain ⟨hx, hb, hml, hown, hts, hE⟩ := id X
  have hK := hE.1
  have hl : lv_has ls 2 [(0, .ref (v 0)), (1, .int (nI m0))] := hl
  have hN1 := hN.1
  have hmp : m0 % N 0 0 < N 0 0 := Nat.mod_lt _ hp
  refine lv_aload_n hx hb dX8_weightIn_0 rfl (lv_at hl 0 rfl) ?_
  refine va_get (D := D) (ci := 8) (v := .int (nI (N 0 0))) (C := RX8) (T := TX8) (N := 6) hx hb hts inX8 hown hK hP 0 rfl rfl 3 (by decide) (hts _ wd_49) (fun _ h9 => h9) rfl dX8_weightIn_1 ?_
  refine i_if_le (tgt := 25) hx hb (nT (by omega)) dX8_weightIn_4 (by decide) (fun c_1 => ?_) (fun c_1 => ?_)
  · refine lv_iconst (v := nI 0) hx hb dX8_weightIn_25 (by decide) ?_
    refine hret _ _ _ dX8_weightIn_26 ?_
    first | rfl | (exfalso; omega)
  · refine lv_iload_n hx hb dX8_weightIn_7 rfl (lv_at hl 1 rfl) ?_
    refine i_if_lt (tgt := 25) hx hb (nT (by omega)) dX8_weightIn_8 (by decide) (fun c_2 => ?_) (fun c_2 => ?_)
    · refine lv_iconst (v := nI 0) hx hb dX8_weightIn_25 (by decide) ?_
      refine hret _ _ _ dX8_weightIn_26 ?_
      first | rfl | (exfalso; omega)
    · refine lv_aload_n hx hb dX8_weightIn_11 rfl (lv_at hl 0 rfl) ?_
      refine va_get (D := D) (ci := 8) (v := .ref (v 1)) (C := RX8) (T := TX8) (N := 6) hx hb hts inX8 hown hK hP 0 rfl rfl 0 (by decide) (hts _ wd_39) (fun _ h9 => h9) rfl dX8_weightIn_12 ?_
      refine lv_iload_n hx hb dX8_weightIn_15 rfl (lv_at hl 1 rfl) ?_
      refine lv_aload_n hx hb dX8_weightIn_16 rfl (lv_at hl 0 rfl) ?_
      refine va_get (D := D) (ci := 8) (v := .int (nI (N 0 0))) (C := RX8) (T := TX8) (N := 6) hx hb hts inX8 hown hK hP 0 rfl rfl 3 (by decide) (hts _ wd_49) (fun _ h9 => h9) rfl dX8_weightIn_17 ?_
      refine n_irem hx hb (by omega) (by omega) (by omega) dX8_weightIn_20 ?_
      refine n_iald hx hb hK hP 1 0 rfl rfl (k := m0 % (N 0 0)) (by omega) (by decide) dX8_weightIn_21 ?_
      rw [hV.1 (m0 % (N 0 0)) (by omega)]
      have hv_3 := hN.2.1 (m0 % (N 0 0))
      refine lv_goto (tgt := 26) hx hb dX8_weightIn_22 (by decide) ?_
      refine hret _ _ _ dX8_weightIn_26 ?_
      first | rfl | (exfalso; omega)
set_option maxRecDepth 100000 in
set_option maxHeartbeats 4000000 in
theorem c_X8_heldAlone (l : Launch) (D : va_G) (ka : Nat → ClassId) (v ta : Nat → Nat) (N : NN) (wf df : Nat → Int32) (tf : Nat → Option Nat) (hV : VR N ta wf df tf) (hN : WF N) (hL : N 0 5 = 0) (jq m0 : Nat) (hj : jq < N 0 1) (hm : m0 < 900) : RO l D ka yX8_heldAlone cX8_heldAlone 5 (some .int) 2 [.ref (v 0), .ref (ta jq), .int (nI m0)] (fun H => va_P D vwCl (kw ka v ta N wf df tf) H) (vp_Si (fun r => r = nI (hld N jq m0 1))) := by
  refine RO.ofI (by decide) (Nat.le_of_ble_eq_true rfl) ?_
  intro p e s m args below meth c Q X hP hret ls hl
  obtain ⟨hx, hb, hml, hown, hts, hE⟩ := id X
  have hK := hE.1
  have hl : lv_has ls 5 [(0, .ref (v 0)), (1, .ref (ta jq)), (2, .int (nI m0))] := hl
  have hN1 := hN.1
  refine lv_aload_n hx hb dX8_heldAlone_0 rfl (lv_at hl 1 rfl) ?_
  refine tk_get X hP (kw_tk (a := jq) (by omega)) (kd := N 2 jq) (hN.2.2.1 jq) 1 (by decide) wd_273 (v := .int (nI (N 3 jq))) rfl dX8_heldAlone_1 ?_
  have hv_1 := hN.2.2.2.1 jq
  refine lv_istore_n (lv' := [(3, .int (nI (N 3 jq))), (0, .ref (v 0)), (1, .ref (ta jq)), (2, .int (nI m0))]) hx hb dX8_heldAlone_4 rfl hl (by decide) rfl (fun ls hl => ?_)
  refine lv_iconst (v := nI 0) hx hb dX8_heldAlone_5 (by decide) ?_
  refine lv_istore (lv' := [(4, .int (nI 0)), (3, .int (nI (N 3 jq))), (0, .ref (v 0)), (1, .ref (ta jq)), (2, .int (nI m0))]) hx hb dX8_heldAlone_6 hl (by decide) rfl (fun ls hl => ?_)
  have loop8 : ∀ (fuel8 : Nat) (n : Nat) (left : Nat), 40 - n < fuel8 → (n ≤ 40) → (left ≤ 99) → (hol (fun t => drn N jq t / 1) (40 - n) (m0 + n) left + n = hld N jq m0 1) → ∀ ls : Array Slot, lv_has ls 5 [(0, .ref (v 0)), (1, .ref (ta jq)), (2, .int (nI m0)), (3, .int (nI left)), (4, .int (nI n))] → W p l e (rmz 2 0 0) s m args below meth c s.heap [] 0 0 Q (F0 m 8 ls []) := by
    intro fuel8
    induction fuel8 with
    | zero => intro n left hfu; exact absurd hfu (Nat.not_lt_zero _)
    | succ fuel8 ih8 =>
      intro n left hfu hi1 hi2 hi3 ls hl
      refine lv_iload hx hb dX8_heldAlone_8 (lv_at hl 4 rfl) ?_
      refine lv_bipush (v := nI 40) hx hb dX8_heldAlone_10 (by decide) ?_
      refine i_icmp_ge (tgt := 43) hx hb (nT (by omega)) (nT (by decide)) dX8_heldAlone_12 (by decide) (fun c_2 => ?_) (fun c_2 => ?_)
      · refine lv_bipush (v := nI 40) hx hb dX8_heldAlone_43 (by decide) ?_
        refine hret _ _ _ dX8_heldAlone_45 ?_
        rw [← hi3]
        first | (rw [show 40 - n = 0 by omega, hol, Nat.zero_add, show n = 40 by omega]; done) | (rw [show 40 - n = (40 - (n + 1)) + 1 by omega, hol, if_neg (by first | omega | (rw [Nat.div_one]; omega)), Nat.zero_add])
      · refine lv_iload_n hx hb dX8_heldAlone_15 rfl (lv_at hl 3 rfl) ?_
        refine lv_aload_n hx hb dX8_heldAlone_16 rfl (lv_at hl 1 rfl) ?_
        refine lv_aload_n hx hb dX8_heldAlone_17 rfl (lv_at hl 0 rfl) ?_
        refine lv_iload_n hx hb dX8_heldAlone_18 rfl (lv_at hl 2 rfl) ?_
        refine lv_iload hx hb dX8_heldAlone_19 (lv_at hl 4 rfl) ?_
        refine n_iadd hx hb dX8_heldAlone_21 ?_
        refine vp_callSi (ro_runV (c_X8_weightIn l D ka v ta N wf df tf hV hN (m0 + n) (by omega) (by omega)) X wd_358 wd_384 wd_356 wd_357 wd_3 on_X8_weightIn ⟨Nat.le_of_ble_eq_true rfl, Nat.le_of_ble_eq_true rfl⟩ (va_recv hK hP (ci := 8) (q0 := 0) rfl rfl) hP hl.1 rfl (Nat.le_of_ble_eq_true rfl) ⟨(Nat.zero_le _), (Nat.zero_le _)⟩ dX8_heldAlone_22) (fun r_4 hr_4 => ?_)
        subst hr_4
        have hb9_3 := hN.2.1 ((m0 + n) % N 0 0)
        refine tk_drain X (by omega) (hN.2.2.2.2.1 jq) wd_385 hP (kw_tk (a := jq) (by omega)) (kd := N 2 jq) (hN.2.2.1 jq) ⟨Nat.le_of_ble_eq_true rfl, Nat.le_of_ble_eq_true rfl⟩ hl.1 (Nat.le_of_ble_eq_true rfl) ⟨Nat.zero_le _, Nat.zero_le _⟩ dX8_heldAlone_25 ?_
        rw [← drn_0 hL jq (m0 + n)]
        have hd_5 := drn_le hN jq (m0 + n)
        refine lv_isub hx hb dX8_heldAlone_28 ?_
        refine lv_istore_n (lv' := [(3, .int (nI left - nI (drn N jq (m0 + n)))), (0, .ref (v 0)), (1, .ref (ta jq)), (2, .int (nI m0)), (4, .int (nI n))]) hx hb dX8_heldAlone_29 rfl hl (by decide) rfl (fun ls hl => ?_)
        refine lv_iload_n hx hb dX8_heldAlone_30 rfl (lv_at hl 0 rfl) ?_
        refine i_if_ge (tgt := 37) hx hb (pk_sub_toInt (a := left) (b := drn N jq (m0 + n)) (by omega) (by omega)) dX8_heldAlone_31 (by decide) (fun c_6 => ?_) (fun c_6 => ?_)
        · have hsb : nI left - nI (drn N jq (m0 + n)) = nI (left - (drn N jq (m0 + n))) := pk_sub (by omega)
          rw [hsb] at hl
          refine n_iinc (lv' := [(4, .int (nI (n + 1))), (3, .int (nI (left - (drn N jq (m0 + n))))), (0, .ref (v 0)), (1, .ref (ta jq)), (2, .int (nI m0))]) (k := 4) (d := 1) hx hb dX8_heldAlone_37 hl rfl rfl (by decide) rfl (fun ls hl => ?_)
          refine lv_goto (tgt := 8) hx hb dX8_heldAlone_40 (by decide) ?_
          exact ih8 (n + 1) (left - (drn N jq (m0 + n))) (by omega) (by omega) (by omega) (by rw [← hi3, show 40 - n = (40 - (n + 1)) + 1 by omega, hol, if_pos (by omega)]; simp only [Nat.add_assoc]; first | omega | (rw [Nat.div_one]; omega)) ls (lv_sub hl [2, 3, 4, 1, 0] rfl)
        · refine lv_iload hx hb dX8_heldAlone_34 (lv_at hl 4 rfl) ?_
          refine hret _ _ _ dX8_heldAlone_36 ?_
          rw [← hi3]
          first | (rw [show 40 - n = 0 by omega, hol, Nat.zero_add, show n = 40 by omega]; done) | (rw [show 40 - n = (40 - (n + 1)) + 1 by omega, hol, if_neg (by first | omega | (rw [Nat.div_one]; omega)), Nat.zero_add])
  exact loop8 _ 0 (N 3 jq) (Nat.lt_succ_self _) (by omega) (by omega) (by simp only [hld, Nat.add_zero, Nat.sub_zero]) ls (lv_sub hl [2, 3, 4, 1, 0] rfl)
set_option maxRecDepth 100000 in
set_option maxHeartbeats 4000000 in
theorem c_X8_heldInPair (l : Launch) (D : va_G) (ka : Nat → ClassId) (v ta : Nat → Nat) (N : NN) (wf df : Nat → Int32) (tf : Nat → Option Nat) (hV : VR N ta wf df tf) (hN : WF N) (hL : N 0 5 = 0) (jq m0 : Nat) (hj : jq < N 0 1) (hm : m0 < 900) : RO l D ka yX8_heldInPair cX8_heldInPair 5 (some .int) 2 [.ref (v 0), .ref (ta jq), .int (nI m0)] (fun H => va_P D vwCl (kw ka v ta N wf df tf) H) (vp_Si (fun r => r = nI (hld N jq m0 2))) := by
  refine RO.ofI (by decide) (Nat.le_of_ble_eq_true rfl) ?_
  intro p e s m args below meth c Q X hP hret ls hl
  obtain ⟨hx, hb, hml, hown, hts, hE⟩ := id X
  have hK := hE.1
  have hl : lv_has ls 5 [(0, .ref (v 0)), (1, .ref (ta jq)), (2, .int (nI m0))] := hl
  have hN1 := hN.1
  refine lv_aload_n hx hb dX8_heldInPair_0 rfl (lv_at hl 1 rfl) ?_
  refine tk_get X hP (kw_tk (a := jq) (by omega)) (kd := N 2 jq) (hN.2.2.1 jq) 1 (by decide) wd_273 (v := .int (nI (N 3 jq))) rfl dX8_heldInPair_1 ?_
  have hv_1 := hN.2.2.2.1 jq
  refine lv_istore_n (lv' := [(3, .int (nI (N 3 jq))), (0, .ref (v 0)), (1, .ref (ta jq)), (2, .int (nI m0))]) hx hb dX8_heldInPair_4 rfl hl (by decide) rfl (fun ls hl => ?_)
  refine lv_iconst (v := nI 0) hx hb dX8_heldInPair_5 (by decide) ?_
  refine lv_istore (lv' := [(4, .int (nI 0)), (3, .int (nI (N 3 jq))), (0, .ref (v 0)), (1, .ref (ta jq)), (2, .int (nI m0))]) hx hb dX8_heldInPair_6 hl (by decide) rfl (fun ls hl => ?_)
  have loop8 : ∀ (fuel8 : Nat) (n : Nat) (left : Nat), 40 - n < fuel8 → (n ≤ 40) → (left ≤ 99) → (hol (fun t => drn N jq t / 2) (40 - n) (m0 + n) left + n = hld N jq m0 2) → ∀ ls : Array Slot, lv_has ls 5 [(0, .ref (v 0)), (1, .ref (ta jq)), (2, .int (nI m0)), (3, .int (nI left)), (4, .int (nI n))] → W p l e (rmz 2 0 0) s m args below meth c s.heap [] 0 0 Q (F0 m 8 ls []) := by
    intro fuel8
    induction fuel8 with
    | zero => intro n left hfu; exact absurd hfu (Nat.not_lt_zero _)
    | succ fuel8 ih8 =>
      intro n left hfu hi1 hi2 hi3 ls hl
      refine lv_iload hx hb dX8_heldInPair_8 (lv_at hl 4 rfl) ?_
      refine lv_bipush (v := nI 40) hx hb dX8_heldInPair_10 (by decide) ?_
      refine i_icmp_ge (tgt := 45) hx hb (nT (by omega)) (nT (by decide)) dX8_heldInPair_12 (by decide) (fun c_2 => ?_) (fun c_2 => ?_)
      · refine lv_bipush (v := nI 40) hx hb dX8_heldInPair_45 (by decide) ?_
        refine hret _ _ _ dX8_heldInPair_47 ?_
        rw [← hi3]
        first | (rw [show 40 - n = 0 by omega, hol, Nat.zero_add, show n = 40 by omega]; done) | (rw [show 40 - n = (40 - (n + 1)) + 1 by omega, hol, if_neg (by first | omega | (rw [Nat.div_one]; omega)), Nat.zero_add])
      · refine lv_iload_n hx hb dX8_heldInPair_15 rfl (lv_at hl 3 rfl) ?_
        refine lv_aload_n hx hb dX8_heldInPair_16 rfl (lv_at hl 1 rfl) ?_
        refine lv_aload_n hx hb dX8_heldInPair_17 rfl (lv_at hl 0 rfl) ?_
        refine lv_iload_n hx hb dX8_heldInPair_18 rfl (lv_at hl 2 rfl) ?_
        refine lv_iload hx hb dX8_heldInPair_19 (lv_at hl 4 rfl) ?_
        refine n_iadd hx hb dX8_heldInPair_21 ?_
        refine vp_callSi (ro_runV (c_X8_weightIn l D ka v ta N wf df tf hV hN (m0 + n) (by omega) (by omega)) X wd_358 wd_384 wd_356 wd_357 wd_3 on_X8_weightIn ⟨Nat.le_of_ble_eq_true rfl, Nat.le_of_ble_eq_true rfl⟩ (va_recv hK hP (ci := 8) (q0 := 0) rfl rfl) hP hl.1 rfl (Nat.le_of_ble_eq_true rfl) ⟨(Nat.zero_le _), (Nat.zero_le _)⟩ dX8_heldInPair_22) (fun r_4 hr_4 => ?_)
        subst hr_4
        have hb9_3 := hN.2.1 ((m0 + n) % N 0 0)
        refine tk_drain X (by omega) (hN.2.2.2.2.1 jq) wd_385 hP (kw_tk (a := jq) (by omega)) (kd := N 2 jq) (hN.2.2.1 jq) ⟨Nat.le_of_ble_eq_true rfl, Nat.le_of_ble_eq_true rfl⟩ hl.1 (Nat.le_of_ble_eq_true rfl) ⟨Nat.zero_le _, Nat.zero_le _⟩ dX8_heldInPair_25 ?_
        rw [← drn_0 hL jq (m0 + n)]
        have hd_5 := drn_le hN jq (m0 + n)
        refine lv_iconst (v := nI 2) hx hb dX8_heldInPair_28 (by decide) ?_
        refine n_idiv hx hb (by omega) (by omega) (by omega) dX8_heldInPair_29 ?_
        refine lv_isub hx hb dX8_heldInPair_30 ?_
        refine lv_istore_n (lv' := [(3, .int (nI left - nI ((drn N jq (m0 + n)) / 2))), (0, .ref (v 0)), (1, .ref (ta jq)), (2, .int (nI m0)), (4, .int (nI n))]) hx hb dX8_heldInPair_31 rfl hl (by decide) rfl (fun ls hl => ?_)
        refine lv_iload_n hx hb dX8_heldInPair_32 rfl (lv_at hl 0 rfl) ?_
        refine i_if_ge (tgt := 39) hx hb (pk_sub_toInt (a := left) (b := (drn N jq (m0 + n)) / 2) (by omega) (by omega)) dX8_heldInPair_33 (by decide) (fun c_6 => ?_) (fun c_6 => ?_)
        · have hsb : nI left - nI (drn N jq (m0 + n) / 2) = nI (left - (drn N jq (m0 + n) / 2)) := pk_sub (by omega)
          rw [hsb] at hl
          refine n_iinc (lv' := [(4, .int (nI (n + 1))), (3, .int (nI (left - (drn N jq (m0 + n) / 2)))), (0, .ref (v 0)), (1, .ref (ta jq)), (2, .int (nI m0))]) (k := 4) (d := 1) hx hb dX8_heldInPair_39 hl rfl rfl (by decide) rfl (fun ls hl => ?_)
          refine lv_goto (tgt := 8) hx hb dX8_heldInPair_42 (by decide) ?_
          exact ih8 (n + 1) (left - (drn N jq (m0 + n) / 2)) (by omega) (by omega) (by omega) (by rw [← hi3, show 40 - n = (40 - (n + 1)) + 1 by omega, hol, if_pos (by omega)]; simp only [Nat.add_assoc]; first | omega | (rw [Nat.div_one]; omega)) ls (lv_sub hl [2, 3, 4, 1, 0] rfl)
        · refine lv_iload hx hb dX8_heldInPair_36 (lv_at hl 4 rfl) ?_
          refine hret _ _ _ dX8_heldInPair_38 ?_
          rw [← hi3]
          first | (rw [show 40 - n = 0 by omega, hol, Nat.zero_add, show n = 40 by omega]; done) | (rw [show 40 - n = (40 - (n + 1)) + 1 by omega, hol, if_neg (by first | omega | (rw [Nat.div_one]; omega)), Nat.zero_add])
  exact loop8 _ 0 (N 3 jq) (Nat.lt_succ_self _) (by omega) (by omega) (by simp only [hld, Nat.add_zero, Nat.sub_zero]) ls (lv_sub hl [2, 3, 4, 1, 0] rfl)
set_option maxRecDepth 100000 in
set_option maxHeartbeats 4000000 in
theorem c_X8_heldByTwo (l : Launch) (D : va_G) (ka : Nat → ClassId) (v ta : Nat → Nat) (N : NN) (wf df : Nat → Int32) (tf : Nat → Option Nat) (hV : VR N ta wf df tf) (hN : WF N) (hL : N 0 5 = 0) (jq iq m0 : Nat) (hj : jq < N 0 1) (hi : iq < N 0 1) (hm : m0 < 60) : RO l D ka yX8_heldByTwo cX8_heldByTwo 4 (some .int) 3 [.ref (v 0), .ref (ta jq), .ref (ta iq), .int (nI m0)] (fun H => va_P D vwCl (kw ka v ta N wf df tf) H) (vp_Si (fun r => r = nI (bth N jq iq m0))) := by
  refine RO.ofI (by decide) (Nat.le_of_ble_eq_true rfl) ?_
  intro p e s m args below meth c Q X hP hret ls hl
  obtain ⟨hx, hb, hml, hown, hts, hE⟩ := id X
  have hK := hE.1
  have hl : lv_has ls 4 [(0, .ref (v 0)), (1, .ref (ta jq)), (2, .ref (ta iq)), (3, .int (nI m0))] := hl
  have hN1 := hN.1
  refine lv_aload_n hx hb dX8_heldByTwo_0 rfl (lv_at hl 0 rfl) ?_
  refine lv_aload_n hx hb dX8_heldByTwo_1 rfl (lv_at hl 1 rfl) ?_
  refine lv_iload_n hx hb dX8_heldByTwo_2 rfl (lv_at hl 3 rfl) ?_
  refine vp_callSi (ro_runV (c_X8_heldInPair l D ka v ta N wf df tf hV hN hL jq m0 (by omega) (by omega)) X wd_406 wd_403 wd_404 wd_405 wd_3 on_X8_heldInPair ⟨Nat.le_of_ble_eq_true rfl, Nat.le_of_ble_eq_true rfl⟩ (va_recv hK hP (ci := 8) (q0 := 0) rfl rfl) hP hl.1 rfl (Nat.le_of_ble_eq_true rfl) ⟨(Nat.zero_le _), (Nat.zero_le _)⟩ dX8_heldByTwo_3) (fun r_2 hr_2 => ?_)
  subst hr_2
  have hb9_1 := hld_le N jq m0 2
  refine lv_aload_n hx hb dX8_heldByTwo_6 rfl (lv_at hl 0 rfl) ?_
  refine lv_aload_n hx hb dX8_heldByTwo_7 rfl (lv_at hl 2 rfl) ?_
  refine lv_iload_n hx hb dX8_heldByTwo_8 rfl (lv_at hl 3 rfl) ?_
  refine vp_callSi (ro_runV (c_X8_heldInPair l D ka v ta N wf df tf hV hN hL iq m0 (by omega) (by omega)) X wd_406 wd_403 wd_404 wd_405 wd_3 on_X8_heldInPair ⟨Nat.le_of_ble_eq_true rfl, Nat.le_of_ble_eq_true rfl⟩ (va_recv hK hP (ci := 8) (q0 := 0) rfl rfl) hP hl.1 rfl (Nat.le_of_ble_eq_true rfl) ⟨(Nat.zero_le _), (Nat.zero_le _)⟩ dX8_heldByTwo_9) (fun r_4 hr_4 => ?_)
  subst hr_4
  have hb9_3 := hld_le N iq m0 2
  refine va_mmin hx hb (hml.trans hl.1.symm) hown (hts _ wd_407) (hts _ wd_408) (hts _ wd_12) (hts _ wd_409) (Nat.le_of_ble_eq_true rfl) (Nat.le_of_ble_eq_true rfl) (Nat.zero_le _) (Nat.zero_le _) dX8_heldByTwo_12 ?_
  rw [n_min (a := hld N jq m0 2) (b := hld N iq m0 2) (by omega) (by omega)]
  refine hret _ _ _ dX8_heldByTwo_15 ?_
  rfl
