set_option maxRecDepth 100000 in
set_option maxHeartbeats 4000000 in
theorem c_X10_ofTaker (l : Launch) (D : va_G) (ka : Nat → ClassId) (h : Nat) (A b nb sb : Nat → Nat) (v ta : Nat → Nat) (N : NN) (wf df : Nat → Int32) (tf : Nat → Option Nat) (hV : VR N ta wf df tf) (hN : WF N) (hL : N 0 5 = 0)(k : Int32) (K9 : Int) (hk : k.toInt = K9)(q : Int32) (Q9 : Int) (hq : q.toInt = Q9) (R : va_W) : RO l D ka yX10_ofTaker cX10_ofTaker 4 (some .int) 2 [.ref h, .int k, .int q] (fun H => (va_P D vwCl (([(h, .inr (10, [.ref (A 0), .ref (A 1), .ref (b 0), .ref (nb 0), .ref (sb 0), .ref (A 2), .ref (v 0), .int (nI (N 0 4))]))] : va_W) ++ R) H ∧ va_P D vwCl (kw ka v ta N wf df tf) H)) (vp_Si (fun r => r = (if 0 ≤ K9 ∧ K9 < (N 0 1 : Int) then (if Q9 = 0 then nI (N 2 K9.toNat) else if Q9 = 1 then nI (N 3 K9.toNat) else if Q9 = 2 then nI (N 4 K9.toNat) else -2) else -1))) := by
  refine RO.ofI (by decide) (Nat.le_of_ble_eq_true rfl) ?_
  intro p e s m args below meth c Q X hP hret ls hl
  obtain ⟨hx, hb, hml, hown, hts, hE⟩ := id X
  have hK := hE.1
  have hl : lv_has ls 4 [(0, .ref h), (1, .int k), (2, .int q)] := hl
  obtain ⟨hR9, hP⟩ := hP
  have hN1 := hN.1
  refine lv_aload_n hx hb dX10_ofTaker_0 rfl (lv_at hl 0 rfl) ?_
  refine va_get (D := D) (ci := 10) (v := .ref (v 0)) (C := RX10) (T := TX10) (N := 8) hx hb hts inX10 hown hK hR9 0 rfl rfl 6 (by decide) (hts _ wd_169) (fun _ h9 => h9) rfl dX10_ofTaker_1 ?_
  refine lv_iload_n hx hb dX10_ofTaker_4 rfl (lv_at hl 1 rfl) ?_
  refine va_csq (ro_runV (c_X8_takerAt l D ka v ta N wf df tf hV hN k _ hk) X wd_311 wd_308 wd_309 wd_310 wd_3 on_X8_takerAt ⟨Nat.le_of_ble_eq_true rfl, Nat.le_of_ble_eq_true rfl⟩ (va_recv hK hP (ci := 8) (q0 := 0) rfl rfl) hP hl.1 rfl (Nat.le_of_ble_eq_true rfl) ⟨(Nat.zero_le _), (Nat.zero_le _)⟩ dX10_ofTaker_5) (fun r_1 hr_1 => ?_)
  subst hr_1
  by_cases ct_2 : 0 ≤ K9 ∧ K9 < ((N 0 1 : Nat) : Int)
  · rw [if_pos ct_2]
    obtain ⟨jq, hlt_jq, rfl, rfl⟩ := nat_ofK (n := N 0 1) hk (by omega) (by omega)
    refine W.eq (g2 := F0 m 8 ls [.ref (ta jq)]) rfl ?_
    refine lv_astore_n (lv' := [(3, .ref (ta jq)), (0, .ref h), (1, .int (nI jq)), (2, .int q)]) hx hb dX10_ofTaker_8 rfl hl (by decide) rfl (fun ls hl => ?_)
    refine lv_aload_n hx hb dX10_ofTaker_9 rfl (lv_at hl 0 rfl) ?_
    refine lv_ifnonnull (tgt := 15) hx hb dX10_ofTaker_10 (by decide) ?_
    refine lv_iload_n hx hb dX10_ofTaker_15 rfl (lv_at hl 3 rfl) ?_
    have hT_3 : q.toInt = Q9 := hq
    by_cases cs_4 : Q9 = 0
    · refine lv_tableIn (off := 28) (tgt := 44) hx hb dX10_ofTaker_16 (by rw [hT_3, cs_4]; decide) (by rw [hT_3, cs_4]; decide) (by rw [hT_3, cs_4]; rfl) (by decide) ?_
      refine lv_aload_n hx hb dX10_ofTaker_44 rfl (lv_at hl 0 rfl) ?_
      refine tk_kind X (nu := nI jq) (nv := N 3 jq) (mi := N 4 jq) wd_312 hP (kw_tk (a := jq) (by omega)) (kd := N 2 jq) (hN.2.2.1 jq) ⟨Nat.le_of_ble_eq_true rfl, Nat.le_of_ble_eq_true rfl⟩ hl.1 (Nat.le_of_ble_eq_true rfl) ⟨Nat.zero_le _, Nat.zero_le _⟩ dX10_ofTaker_45 ?_
      refine hret _ _ _ dX10_ofTaker_48 ?_
      (repeat' split) <;> first | rfl | omega
    by_cases cs_5 : Q9 = 1
    · refine lv_tableIn (off := 33) (tgt := 49) hx hb dX10_ofTaker_16 (by rw [hT_3, cs_5]; decide) (by rw [hT_3, cs_5]; decide) (by rw [hT_3, cs_5]; rfl) (by decide) ?_
      refine lv_aload_n hx hb dX10_ofTaker_49 rfl (lv_at hl 0 rfl) ?_
      refine tk_get X hP (kw_tk (a := jq) (by omega)) (kd := N 2 jq) (hN.2.2.1 jq) 1 (by decide) wd_272 (v := .int (nI (N 3 jq))) rfl dX10_ofTaker_50 ?_
      have hv_6 := hN.2.2.2.1 jq
      refine hret _ _ _ dX10_ofTaker_53 ?_
      (repeat' split) <;> first | rfl | omega
    by_cases cs_7 : Q9 = 2
    · refine lv_tableIn (off := 38) (tgt := 54) hx hb dX10_ofTaker_16 (by rw [hT_3, cs_7]; decide) (by rw [hT_3, cs_7]; decide) (by rw [hT_3, cs_7]; rfl) (by decide) ?_
      refine lv_aload_n hx hb dX10_ofTaker_54 rfl (lv_at hl 0 rfl) ?_
      refine tk_get X hP (kw_tk (a := jq) (by omega)) (kd := N 2 jq) (hN.2.2.1 jq) 2 (by decide) wd_279 (v := .int (nI (N 4 jq))) rfl dX10_ofTaker_55 ?_
      have hv_8 := hN.2.2.2.2.1 jq
      refine hret _ _ _ dX10_ofTaker_58 ?_
      (repeat' split) <;> first | rfl | omega
    refine lv_tableOut (tgt := 59) hx hb dX10_ofTaker_16 (by rw [hT_3]; omega) (by decide) ?_
    refine lv_bipush (v := (-2)) hx hb dX10_ofTaker_59 (by decide) ?_
    refine hret _ _ _ dX10_ofTaker_61 ?_
    (repeat' split) <;> first | rfl | omega
  · rw [if_neg ct_2]
    refine W.eq (g2 := F0 m 8 ls [.null]) rfl ?_
    refine lv_astore_nN (lv' := [(3, .null), (0, .ref h), (1, .int k), (2, .int q)]) hx hb dX10_ofTaker_8 rfl hl (by decide) rfl (fun ls hl => ?_)
    refine lv_aload_nN hx hb dX10_ofTaker_9 rfl (lv_at hl 0 rfl) ?_
    refine lv_ifnonnullN hx hb dX10_ofTaker_10 ?_
    refine lv_iconst (v := (-1)) hx hb dX10_ofTaker_13 (by decide) ?_
    refine hret _ _ _ dX10_ofTaker_14 ?_
    (repeat' split) <;> first | rfl | omega
set_option maxRecDepth 100000 in
set_option maxHeartbeats 4000000 in
theorem c_X10_depth (l : Launch) (D : va_G) (ka : Nat → ClassId) (h : Nat) (A b nb sb : Nat → Nat) (v ta : Nat → Nat) (N : NN) (wf df : Nat → Int32) (tf : Nat → Option Nat) (hV : VR N ta wf df tf) (hN : WF N) (hL : N 0 5 = 0)(k : Int32) (K9 : Int) (hk : k.toInt = K9) (R : va_W) : RO l D ka yX10_depth cX10_depth 2 (some .int) 1 [.ref h, .int k] (fun H => (va_P D vwCl (([(h, .inr (10, [.ref (A 0), .ref (A 1), .ref (b 0), .ref (nb 0), .ref (sb 0), .ref (A 2), .ref (v 0), .int (nI (N 0 4))]))] : va_W) ++ R) H ∧ va_P D vwCl (kw ka v ta N wf df tf) H)) (vp_Si (fun r => r = (if 0 ≤ K9 ∧ K9 < (N 0 2 : Int) then nI (N 5 K9.toNat) else -1))) := by
  refine RO.ofI (by decide) (Nat.le_of_ble_eq_true rfl) ?_
  intro p e s m args below meth c Q X hP hret ls hl
  obtain ⟨hx, hb, hml, hown, hts, hE⟩ := id X
  have hK := hE.1
  have hl : lv_has ls 2 [(0, .ref h), (1, .int k)] := hl
  obtain ⟨hR9, hP⟩ := hP
  have hN1 := hN.1
  refine lv_aload_n hx hb dX10_depth_0 rfl (lv_at hl 0 rfl) ?_
  refine va_get (D := D) (ci := 10) (v := .ref (v 0)) (C := RX10) (T := TX10) (N := 8) hx hb hts inX10 hown hK hR9 0 rfl rfl 6 (by decide) (hts _ wd_169) (fun _ h9 => h9) rfl dX10_depth_1 ?_
  refine lv_iload_n hx hb dX10_depth_4 rfl (lv_at hl 1 rfl) ?_
  refine vp_callSi (ro_runV (c_X8_isGood l D ka v ta N wf df tf hV hN k _ hk) X wd_330 wd_327 wd_328 wd_329 wd_3 on_X8_isGood ⟨Nat.le_of_ble_eq_true rfl, Nat.le_of_ble_eq_true rfl⟩ (va_recv hK hP (ci := 8) (q0 := 0) rfl rfl) hP hl.1 rfl (Nat.le_of_ble_eq_true rfl) ⟨(Nat.zero_le _), (Nat.zero_le _)⟩ dX10_depth_5) (fun r_1 hr_1 => ?_)
  subst hr_1
  refine b_if_eq (tgt := 23) hx hb dX10_depth_8 (by decide) (fun c_2 => ?_) (fun c_2 => ?_)
  · refine lv_iconst (v := (-1)) hx hb dX10_depth_23 (by decide) ?_
    refine hret _ _ _ dX10_depth_24 ?_
    (repeat' split) <;> first | rfl | omega
  · obtain ⟨jq, hlt_jq, rfl, rfl⟩ := nat_ofK (n := N 0 2) hk (by omega) (by omega)
    refine lv_aload_n hx hb dX10_depth_11 rfl (lv_at hl 0 rfl) ?_
    refine va_get (D := D) (ci := 10) (v := .ref (v 0)) (C := RX10) (T := TX10) (N := 8) hx hb hts inX10 hown hK hR9 0 rfl rfl 6 (by decide) (hts _ wd_169) (fun _ h9 => h9) rfl dX10_depth_12 ?_
    refine va_get (D := D) (ci := 8) (v := .ref (v 3)) (C := RX8) (T := TX8) (N := 6) hx hb hts inX8 hown hK hP 0 rfl rfl 2 (by decide) (hts _ wd_46) (fun _ h9 => h9) rfl dX10_depth_15 ?_
    refine lv_iload_n hx hb dX10_depth_18 rfl (lv_at hl 1 rfl) ?_
    refine n_iald hx hb hK hP 3 0 rfl rfl (k := jq) (by omega) (by decide) dX10_depth_19 ?_
    rw [hV.2.1 jq (by omega)]
    have hv_3 := hN.2.2.2.2.2.1 jq
    refine lv_goto (tgt := 24) hx hb dX10_depth_20 (by decide) ?_
    refine hret _ _ _ dX10_depth_24 ?_
    (repeat' split) <;> first | rfl | omega
set_option maxRecDepth 100000 in
set_option maxHeartbeats 4000000 in
theorem c_X10_gloom (l : Launch) (D : va_G) (ka : Nat → ClassId) (h : Nat) (A b nb sb : Nat → Nat) (v ta : Nat → Nat) (N : NN) (wf df : Nat → Int32) (tf : Nat → Option Nat) (hV : VR N ta wf df tf) (hN : WF N) (hL : N 0 5 = 0)(k : Int32) (K9 : Int) (hk : k.toInt = K9) (R : va_W) : RO l D ka yX10_gloom cX10_gloom 2 (some .int) 1 [.ref h, .int k] (fun H => (va_P D vwCl (([(h, .inr (10, [.ref (A 0), .ref (A 1), .ref (b 0), .ref (nb 0), .ref (sb 0), .ref (A 2), .ref (v 0), .int (nI (N 0 4))]))] : va_W) ++ R) H ∧ va_P D vwCl (kw ka v ta N wf df tf) H)) (vp_Si (fun r => r = (if 0 ≤ K9 ∧ K9 < (N 0 0 : Int) then nI (N 1 K9.toNat) else -1))) := by
  refine RO.ofI (by decide) (Nat.le_of_ble_eq_true rfl) ?_
  intro p e s m args below meth c Q X hP hret ls hl
  obtain ⟨hx, hb, hml, hown, hts, hE⟩ := id X
  have hK := hE.1
  have hl : lv_has ls 2 [(0, .ref h), (1, .int k)] := hl
  obtain ⟨hR9, hP⟩ := hP
  have hN1 := hN.1
  refine lv_aload_n hx hb dX10_gloom_0 rfl (lv_at hl 0 rfl) ?_
  refine va_get (D := D) (ci := 10) (v := .ref (v 0)) (C := RX10) (T := TX10) (N := 8) hx hb hts inX10 hown hK hR9 0 rfl rfl 6 (by decide) (hts _ wd_169) (fun _ h9 => h9) rfl dX10_gloom_1 ?_
  refine lv_iload_n hx hb dX10_gloom_4 rfl (lv_at hl 1 rfl) ?_
  refine vp_callSi (ro_runV (c_X8_isPlace l D ka v ta N wf df tf hV hN k _ hk) X wd_338 wd_335 wd_336 wd_337 wd_3 on_X8_isPlace ⟨Nat.le_of_ble_eq_true rfl, Nat.le_of_ble_eq_true rfl⟩ (va_recv hK hP (ci := 8) (q0 := 0) rfl rfl) hP hl.1 rfl (Nat.le_of_ble_eq_true rfl) ⟨(Nat.zero_le _), (Nat.zero_le _)⟩ dX10_gloom_5) (fun r_1 hr_1 => ?_)
  subst hr_1
  refine b_if_eq (tgt := 23) hx hb dX10_gloom_8 (by decide) (fun c_2 => ?_) (fun c_2 => ?_)
  · refine lv_iconst (v := (-1)) hx hb dX10_gloom_23 (by decide) ?_
    refine hret _ _ _ dX10_gloom_24 ?_
    (repeat' split) <;> first | rfl | omega
  · obtain ⟨jq, hlt_jq, rfl, rfl⟩ := nat_ofK (n := N 0 0) hk (by omega) (by omega)
    refine lv_aload_n hx hb dX10_gloom_11 rfl (lv_at hl 0 rfl) ?_
    refine va_get (D := D) (ci := 10) (v := .ref (v 0)) (C := RX10) (T := TX10) (N := 8) hx hb hts inX10 hown hK hR9 0 rfl rfl 6 (by decide) (hts _ wd_169) (fun _ h9 => h9) rfl dX10_gloom_12 ?_
    refine va_get (D := D) (ci := 8) (v := .ref (v 1)) (C := RX8) (T := TX8) (N := 6) hx hb hts inX8 hown hK hP 0 rfl rfl 0 (by decide) (hts _ wd_40) (fun _ h9 => h9) rfl dX10_gloom_15 ?_
    refine lv_iload_n hx hb dX10_gloom_18 rfl (lv_at hl 1 rfl) ?_
    refine n_iald hx hb hK hP 1 0 rfl rfl (k := jq) (by omega) (by decide) dX10_gloom_19 ?_
    rw [hV.1 jq (by omega)]
    have hv_3 := hN.2.1 jq
    refine lv_goto (tgt := 24) hx hb dX10_gloom_20 (by decide) ?_
    refine hret _ _ _ dX10_gloom_24 ?_
    (repeat' split) <;> first | rfl | omega
set_option maxRecDepth 100000 in
set_option maxHeartbeats 4000000 in
theorem c_X10_drain (l : Launch) (D : va_G) (ka : Nat → ClassId) (h : Nat) (A b nb sb : Nat → Nat) (v ta : Nat → Nat) (N : NN) (wf df : Nat → Int32) (tf : Nat → Option Nat) (hV : VR N ta wf df tf) (hN : WF N) (hL : N 0 5 = 0)(k : Int32) (K9 : Int) (hk : k.toInt = K9)(q : Int32) (Q9 : Int) (hq : q.toInt = Q9) (R : va_W) : RO l D ka yX10_drain cX10_drain 4 (some .int) 2 [.ref h, .int k, .int q] (fun H => (va_P D vwCl (([(h, .inr (10, [.ref (A 0), .ref (A 1), .ref (b 0), .ref (nb 0), .ref (sb 0), .ref (A 2), .ref (v 0), .int (nI (N 0 4))]))] : va_W) ++ R) H ∧ va_P D vwCl (kw ka v ta N wf df tf) H)) (vp_Si (fun r => r = (if 0 ≤ K9 ∧ K9 < (N 0 1 : Int) then (if 0 ≤ Q9 ∧ Q9 ≤ 99 then nI (drn N K9.toNat Q9.toNat) else -2) else -1))) := by
  refine RO.ofI (by decide) (Nat.le_of_ble_eq_true rfl) ?_
  intro p e s m args below meth c Q X hP hret ls hl
  obtain ⟨hx, hb, hml, hown, hts, hE⟩ := id X
  have hK := hE.1
  have hl : lv_has ls 4 [(0, .ref h), (1, .int k), (2, .int q)] := hl
  obtain ⟨hR9, hP⟩ := hP
  have hN1 := hN.1
  refine lv_aload_n hx hb dX10_drain_0 rfl (lv_at hl 0 rfl) ?_
  refine va_get (D := D) (ci := 10) (v := .ref (v 0)) (C := RX10) (T := TX10) (N := 8) hx hb hts inX10 hown hK hR9 0 rfl rfl 6 (by decide) (hts _ wd_169) (fun _ h9 => h9) rfl dX10_drain_1 ?_
  refine lv_iload_n hx hb dX10_drain_4 rfl (lv_at hl 1 rfl) ?_
  refine va_csq (ro_runV (c_X8_takerAt l D ka v ta N wf df tf hV hN k _ hk) X wd_311 wd_308 wd_309 wd_310 wd_3 on_X8_takerAt ⟨Nat.le_of_ble_eq_true rfl, Nat.le_of_ble_eq_true rfl⟩ (va_recv hK hP (ci := 8) (q0 := 0) rfl rfl) hP hl.1 rfl (Nat.le_of_ble_eq_true rfl) ⟨(Nat.zero_le _), (Nat.zero_le _)⟩ dX10_drain_5) (fun r_1 hr_1 => ?_)
  subst hr_1
  by_cases ct_2 : 0 ≤ K9 ∧ K9 < ((N 0 1 : Nat) : Int)
  · rw [if_pos ct_2]
    obtain ⟨jq, hlt_jq, rfl, rfl⟩ := nat_ofK (n := N 0 1) hk (by omega) (by omega)
    refine W.eq (g2 := F0 m 8 ls [.ref (ta jq)]) rfl ?_
    refine lv_astore_n (lv' := [(3, .ref (ta jq)), (0, .ref h), (1, .int (nI jq)), (2, .int q)]) hx hb dX10_drain_8 rfl hl (by decide) rfl (fun ls hl => ?_)
    refine lv_aload_n hx hb dX10_drain_9 rfl (lv_at hl 0 rfl) ?_
    refine lv_ifnonnull (tgt := 15) hx hb dX10_drain_10 (by decide) ?_
    refine lv_iload_n hx hb dX10_drain_15 rfl (lv_at hl 3 rfl) ?_
    refine i_if_lt (tgt := 25) hx hb hq dX10_drain_16 (by decide) (fun c_3 => ?_) (fun c_3 => ?_)
    · refine lv_bipush (v := (-2)) hx hb dX10_drain_25 (by decide) ?_
      refine hret _ _ _ dX10_drain_27 ?_
      (repeat' split) <;> first | rfl | omega
    · refine lv_iload_n hx hb dX10_drain_19 rfl (lv_at hl 3 rfl) ?_
      refine lv_bipush (v := nI 100) hx hb dX10_drain_20 (by decide) ?_
      refine i_icmp_lt (tgt := 28) hx hb hq (nT (by decide)) dX10_drain_22 (by decide) (fun c_4 => ?_) (fun c_4 => ?_)
      · obtain ⟨mq, hlt_mq, rfl, rfl⟩ := nat_ofK (n := 100) hq (by omega) (by omega)
        refine lv_aload_n hx hb dX10_drain_28 rfl (lv_at hl 0 rfl) ?_
        refine lv_aload_n hx hb dX10_drain_29 rfl (lv_at hl 1 rfl) ?_
        refine va_get (D := D) (ci := 10) (v := .ref (v 0)) (C := RX10) (T := TX10) (N := 8) hx hb hts inX10 hown hK hR9 0 rfl rfl 6 (by decide) (hts _ wd_169) (fun _ h9 => h9) rfl dX10_drain_30 ?_
        refine lv_iload_n hx hb dX10_drain_33 rfl (lv_at hl 3 rfl) ?_
        refine vp_callSi (ro_runV (c_X8_weightIn l D ka v ta N wf df tf hV hN mq (by omega) (by omega)) X wd_358 wd_355 wd_356 wd_357 wd_3 on_X8_weightIn ⟨Nat.le_of_ble_eq_true rfl, Nat.le_of_ble_eq_true rfl⟩ (va_recv hK hP (ci := 8) (q0 := 0) rfl rfl) hP hl.1 rfl (Nat.le_of_ble_eq_true rfl) ⟨(Nat.zero_le _), (Nat.zero_le _)⟩ dX10_drain_34) (fun r_6 hr_6 => ?_)
        subst hr_6
        have hb9_5 := hN.2.1 (mq % N 0 0)
        refine tk_drain X (by omega) (hN.2.2.2.2.1 jq) wd_359 hP (kw_tk (a := jq) (by omega)) (kd := N 2 jq) (hN.2.2.1 jq) ⟨Nat.le_of_ble_eq_true rfl, Nat.le_of_ble_eq_true rfl⟩ hl.1 (Nat.le_of_ble_eq_true rfl) ⟨Nat.zero_le _, Nat.zero_le _⟩ dX10_drain_37 ?_
        rw [← drn_0 hL jq mq]
        have hd_7 := drn_le hN jq mq
        refine hret _ _ _ dX10_drain_40 ?_
        (repeat' split) <;> first | rfl | omega
      · refine lv_bipush (v := (-2)) hx hb dX10_drain_25 (by decide) ?_
        refine hret _ _ _ dX10_drain_27 ?_
        (repeat' split) <;> first | rfl | omega
  · rw [if_neg ct_2]
    refine W.eq (g2 := F0 m 8 ls [.null]) rfl ?_
    refine lv_astore_nN (lv' := [(3, .null), (0, .ref h), (1, .int k), (2, .int q)]) hx hb dX10_drain_8 rfl hl (by decide) rfl (fun ls hl => ?_)
    refine lv_aload_nN hx hb dX10_drain_9 rfl (lv_at hl 0 rfl) ?_
    refine lv_ifnonnullN hx hb dX10_drain_10 ?_
    refine lv_iconst (v := (-1)) hx hb dX10_drain_13 (by decide) ?_
    refine hret _ _ _ dX10_drain_14 ?_
    (repeat' split) <;> first | rfl | omega
set_option maxRecDepth 100000 in
set_option maxHeartbeats 4000000 in
theorem c_X10_holds (l : Launch) (D : va_G) (ka : Nat → ClassId) (h : Nat) (A b nb sb : Nat → Nat) (v ta : Nat → Nat) (N : NN) (wf df : Nat → Int32) (tf : Nat → Option Nat) (hV : VR N ta wf df tf) (hN : WF N) (hL : N 0 5 = 0)(k : Int32) (K9 : Int) (hk : k.toInt = K9)(q : Int32) (Q9 : Int) (hq : q.toInt = Q9) (R : va_W) : RO l D ka yX10_holds cX10_holds 4 (some .int) 3 [.ref h, .int k, .int q] (fun H => (va_P D vwCl (([(h, .inr (10, [.ref (A 0), .ref (A 1), .ref (b 0), .ref (nb 0), .ref (sb 0), .ref (A 2), .ref (v 0), .int (nI (N 0 4))]))] : va_W) ++ R) H ∧ va_P D vwCl (kw ka v ta N wf df tf) H)) (vp_Si (fun r => r = (if 0 ≤ K9 ∧ K9 < (N 0 1 : Int) then (if 0 ≤ Q9 ∧ Q9 ≤ 59 then nI (hld N K9.toNat Q9.toNat 1) else -2) else -1))) := by
  refine RO.ofI (by decide) (Nat.le_of_ble_eq_true rfl) ?_
  intro p e s m args below meth c Q X hP hret ls hl
  obtain ⟨hx, hb, hml, hown, hts, hE⟩ := id X
  have hK := hE.1
  have hl : lv_has ls 4 [(0, .ref h), (1, .int k), (2, .int q)] := hl
  obtain ⟨hR9, hP⟩ := hP
  have hN1 := hN.1
  refine lv_aload_n hx hb dX10_holds_0 rfl (lv_at hl 0 rfl) ?_
  refine va_get (D := D) (ci := 10) (v := .ref (v 0)) (C := RX10) (T := TX10) (N := 8) hx hb hts inX10 hown hK hR9 0 rfl rfl 6 (by decide) (hts _ wd_169) (fun _ h9 => h9) rfl dX10_holds_1 ?_
  refine lv_iload_n hx hb dX10_holds_4 rfl (lv_at hl 1 rfl) ?_
  refine va_csq (ro_runV (c_X8_takerAt l D ka v ta N wf df tf hV hN k _ hk) X wd_311 wd_308 wd_309 wd_310 wd_3 on_X8_takerAt ⟨Nat.le_of_ble_eq_true rfl, Nat.le_of_ble_eq_true rfl⟩ (va_recv hK hP (ci := 8) (q0 := 0) rfl rfl) hP hl.1 rfl (Nat.le_of_ble_eq_true rfl) ⟨(Nat.zero_le _), (Nat.zero_le _)⟩ dX10_holds_5) (fun r_1 hr_1 => ?_)
  subst hr_1
  by_cases ct_2 : 0 ≤ K9 ∧ K9 < ((N 0 1 : Nat) : Int)
  · rw [if_pos ct_2]
    obtain ⟨jq, hlt_jq, rfl, rfl⟩ := nat_ofK (n := N 0 1) hk (by omega) (by omega)
    refine W.eq (g2 := F0 m 8 ls [.ref (ta jq)]) rfl ?_
    refine lv_astore_n (lv' := [(3, .ref (ta jq)), (0, .ref h), (1, .int (nI jq)), (2, .int q)]) hx hb dX10_holds_8 rfl hl (by decide) rfl (fun ls hl => ?_)
    refine lv_aload_n hx hb dX10_holds_9 rfl (lv_at hl 0 rfl) ?_
    refine lv_ifnonnull (tgt := 15) hx hb dX10_holds_10 (by decide) ?_
    refine lv_iload_n hx hb dX10_holds_15 rfl (lv_at hl 3 rfl) ?_
    refine vp_callSi (ro_runS (c_X10_isMinute l D ka q _ hq) X wd_379 wd_377 wd_378 wd_1 on_X10_isMinute ⟨Nat.le_of_ble_eq_true rfl, Nat.le_of_ble_eq_true rfl⟩ trivial hl.1 rfl (Nat.le_of_ble_eq_true rfl) ⟨(Nat.zero_le _), (Nat.zero_le _)⟩ dX10_holds_16) (fun r_3 hr_3 => ?_)
    subst hr_3
    refine b_if_eq (tgt := 34) hx hb dX10_holds_19 (by decide) (fun c_4 => ?_) (fun c_4 => ?_)
    · refine lv_bipush (v := (-2)) hx hb dX10_holds_34 (by decide) ?_
      refine hret _ _ _ dX10_holds_36 ?_
      (repeat' split) <;> first | rfl | omega
    · obtain ⟨mq, hlt_mq, rfl, rfl⟩ := nat_ofK (n := 60) hq (by omega) (by omega)
      refine lv_aload_n hx hb dX10_holds_22 rfl (lv_at hl 1 rfl) ?_
      refine va_get (D := D) (ci := 10) (v := .ref (v 0)) (C := RX10) (T := TX10) (N := 8) hx hb hts inX10 hown hK hR9 0 rfl rfl 6 (by decide) (hts _ wd_169) (fun _ h9 => h9) rfl dX10_holds_23 ?_
      refine lv_aload_n hx hb dX10_holds_26 rfl (lv_at hl 0 rfl) ?_
      refine lv_iload_n hx hb dX10_holds_27 rfl (lv_at hl 3 rfl) ?_
      refine vp_callSi (ro_runV (c_X8_heldAlone l D ka v ta N wf df tf hV hN hL jq mq (by omega) (by omega)) X wd_383 wd_380 wd_381 wd_382 wd_3 on_X8_heldAlone ⟨Nat.le_of_ble_eq_true rfl, Nat.le_of_ble_eq_true rfl⟩ (va_recv hK hP (ci := 8) (q0 := 0) rfl rfl) hP hl.1 rfl (Nat.le_of_ble_eq_true rfl) ⟨(Nat.zero_le _), (Nat.zero_le _)⟩ dX10_holds_28) (fun r_6 hr_6 => ?_)
      subst hr_6
      have hb9_5 := hld_le N jq mq 1
      refine lv_goto (tgt := 36) hx hb dX10_holds_31 (by decide) ?_
      refine hret _ _ _ dX10_holds_36 ?_
      (repeat' split) <;> first | rfl | omega
  · rw [if_neg ct_2]
    refine W.eq (g2 := F0 m 8 ls [.null]) rfl ?_
    refine lv_astore_nN (lv' := [(3, .null), (0, .ref h), (1, .int k), (2, .int q)]) hx hb dX10_holds_8 rfl hl (by decide) rfl (fun ls hl => ?_)
    refine lv_aload_nN hx hb dX10_holds_9 rfl (lv_at hl 0 rfl) ?_
    refine lv_ifnonnullN hx hb dX10_holds_10 ?_
    refine lv_iconst (v := (-1)) hx hb dX10_holds_13 (by decide) ?_
    refine hret _ _ _ dX10_holds_14 ?_
    (repeat' split) <;> first | rfl | omega
set_option maxRecDepth 100000 in
set_option maxHeartbeats 4000000 in
theorem c_X10_best (l : Launch) (D : va_G) (ka : Nat → ClassId) (h : Nat) (A b nb sb : Nat → Nat) (v ta : Nat → Nat) (N : NN) (wf df : Nat → Int32) (tf : Nat → Option Nat) (hV : VR N ta wf df tf) (hN : WF N) (hL : N 0 5 = 0)(k : Int32) (K9 : Int) (hk : k.toInt = K9)(q : Int32) (Q9 : Int) (hq : q.toInt = Q9) (R : va_W) : RO l D ka yX10_best cX10_best 5 (some .int) 4 [.ref h, .int k, .int q] (fun H => (va_P D vwCl (([(h, .inr (10, [.ref (A 0), .ref (A 1), .ref (b 0), .ref (nb 0), .ref (sb 0), .ref (A 2), .ref (v 0), .int (nI (N 0 4))]))] : va_W) ++ R) H ∧ va_P D vwCl (kw ka v ta N wf df tf) H)) (vp_Si (fun r => r = (if 0 ≤ K9 ∧ K9 < (N 0 1 : Int) then (if Q9 = 0 then nI (bst N K9.toNat) else if Q9 = 1 then nI (hld N K9.toNat (bst N K9.toNat) 1) else -2) else -1))) := by
  refine RO.ofI (by decide) (Nat.le_of_ble_eq_true rfl) ?_
  intro p e s m args below meth c Q X hP hret ls hl
  obtain ⟨hx, hb, hml, hown, hts, hE⟩ := id X
  have hK := hE.1
  have hl : lv_has ls 5 [(0, .ref h), (1, .int k), (2, .int q)] := hl
  obtain ⟨hR9, hP⟩ := hP
  have hN1 := hN.1
  refine lv_aload_n hx hb dX10_best_0 rfl (lv_at hl 0 rfl) ?_
  refine va_get (D := D) (ci := 10) (v := .ref (v 0)) (C := RX10) (T := TX10) (N := 8) hx hb hts inX10 hown hK hR9 0 rfl rfl 6 (by decide) (hts _ wd_169) (fun _ h9 => h9) rfl dX10_best_1 ?_
  refine lv_iload_n hx hb dX10_best_4 rfl (lv_at hl 1 rfl) ?_
  refine va_csq (ro_runV (c_X8_takerAt l D ka v ta N wf df tf hV hN k _ hk) X wd_311 wd_308 wd_309 wd_310 wd_3 on_X8_takerAt ⟨Nat.le_of_ble_eq_true rfl, Nat.le_of_ble_eq_true rfl⟩ (va_recv hK hP (ci := 8) (q0 := 0) rfl rfl) hP hl.1 rfl (Nat.le_of_ble_eq_true rfl) ⟨(Nat.zero_le _), (Nat.zero_le _)⟩ dX10_best_5) (fun r_1 hr_1 => ?_)
  subst hr_1
  by_cases ct_2 : 0 ≤ K9 ∧ K9 < ((N 0 1 : Nat) : Int)
  · rw [if_pos ct_2]
    obtain ⟨jq, hlt_jq, rfl, rfl⟩ := nat_ofK (n := N 0 1) hk (by omega) (by omega)
    refine W.eq (g2 := F0 m 8 ls [.ref (ta jq)]) rfl ?_
    refine lv_astore_n (lv' := [(3, .ref (ta jq)), (0, .ref h), (1, .int (nI jq)), (2, .int q)]) hx hb dX10_best_8 rfl hl (by decide) rfl (fun ls hl => ?_)
    refine lv_aload_n hx hb dX10_best_9 rfl (lv_at hl 0 rfl) ?_
    refine lv_ifnonnull (tgt := 15) hx hb dX10_best_10 (by decide) ?_
    refine lv_iload_n hx hb dX10_best_15 rfl (lv_at hl 3 rfl) ?_
    refine i_if_eq (tgt := 27) hx hb hq dX10_best_16 (by decide) (fun c_3 => ?_) (fun c_3 => ?_)
    · refine lv_aload_n hx hb dX10_best_27 rfl (lv_at hl 1 rfl) ?_
      refine va_get (D := D) (ci := 10) (v := .ref (v 0)) (C := RX10) (T := TX10) (N := 8) hx hb hts inX10 hown hK hR9 0 rfl rfl 6 (by decide) (hts _ wd_169) (fun _ h9 => h9) rfl dX10_best_28 ?_
      refine lv_aload_n hx hb dX10_best_31 rfl (lv_at hl 0 rfl) ?_
      refine vp_callSi (ro_runV (c_X8_bestPlace l D ka v ta N wf df tf hV hN hL jq (by omega)) X wd_393 wd_390 wd_391 wd_392 wd_3 on_X8_bestPlace ⟨Nat.le_of_ble_eq_true rfl, Nat.le_of_ble_eq_true rfl⟩ (va_recv hK hP (ci := 8) (q0 := 0) rfl rfl) hP hl.1 rfl (Nat.le_of_ble_eq_true rfl) ⟨(Nat.zero_le _), (Nat.zero_le _)⟩ dX10_best_32) (fun r_5 hr_5 => ?_)
      subst hr_5
      have hb9_4 : bst N jq ≤ N 0 0 - 1 := bstA_le _ _
      refine lv_istore (lv' := [(4, .int (nI (bst N jq))), (3, .ref (ta jq)), (0, .ref h), (1, .int (nI jq)), (2, .int q)]) hx hb dX10_best_35 hl (by decide) rfl (fun ls hl => ?_)
      refine lv_iload_n hx hb dX10_best_37 rfl (lv_at hl 4 rfl) ?_
      refine i_if_ne (tgt := 46) hx hb hq dX10_best_38 (by decide) (fun c_6 => ?_) (fun c_6 => ?_)
      · refine lv_aload_n hx hb dX10_best_46 rfl (lv_at hl 2 rfl) ?_
        refine va_get (D := D) (ci := 10) (v := .ref (v 0)) (C := RX10) (T := TX10) (N := 8) hx hb hts inX10 hown hK hR9 0 rfl rfl 6 (by decide) (hts _ wd_169) (fun _ h9 => h9) rfl dX10_best_47 ?_
        refine lv_aload_n hx hb dX10_best_50 rfl (lv_at hl 1 rfl) ?_
        refine lv_iload hx hb dX10_best_51 (lv_at hl 0 rfl) ?_
        refine vp_callSi (ro_runV (c_X8_heldAlone l D ka v ta N wf df tf hV hN hL jq (bst N jq) (by omega) (by omega)) X wd_383 wd_380 wd_381 wd_382 wd_3 on_X8_heldAlone ⟨Nat.le_of_ble_eq_true rfl, Nat.le_of_ble_eq_true rfl⟩ (va_recv hK hP (ci := 8) (q0 := 0) rfl rfl) hP hl.1 rfl (Nat.le_of_ble_eq_true rfl) ⟨(Nat.zero_le _), (Nat.zero_le _)⟩ dX10_best_53) (fun r_8 hr_8 => ?_)
        subst hr_8
        have hb9_7 := hld_le N jq (bst N jq) 1
        refine hret _ _ _ dX10_best_56 ?_
        (repeat' split) <;> first | rfl | omega
      · refine lv_iload hx hb dX10_best_41 (lv_at hl 0 rfl) ?_
        refine lv_goto (tgt := 56) hx hb dX10_best_43 (by decide) ?_
        refine hret _ _ _ dX10_best_56 ?_
        (repeat' split) <;> first | rfl | omega
    · refine lv_iload_n hx hb dX10_best_19 rfl (lv_at hl 3 rfl) ?_
      refine lv_iconst (v := nI 1) hx hb dX10_best_20 (by decide) ?_
      refine i_icmp_eq (tgt := 27) hx hb hq (nT (by decide)) dX10_best_21 (by decide) (fun c_9 => ?_) (fun c_9 => ?_)
      · refine lv_aload_n hx hb dX10_best_27 rfl (lv_at hl 1 rfl) ?_
        refine va_get (D := D) (ci := 10) (v := .ref (v 0)) (C := RX10) (T := TX10) (N := 8) hx hb hts inX10 hown hK hR9 0 rfl rfl 6 (by decide) (hts _ wd_169) (fun _ h9 => h9) rfl dX10_best_28 ?_
        refine lv_aload_n hx hb dX10_best_31 rfl (lv_at hl 0 rfl) ?_
        refine vp_callSi (ro_runV (c_X8_bestPlace l D ka v ta N wf df tf hV hN hL jq (by omega)) X wd_393 wd_390 wd_391 wd_392 wd_3 on_X8_bestPlace ⟨Nat.le_of_ble_eq_true rfl, Nat.le_of_ble_eq_true rfl⟩ (va_recv hK hP (ci := 8) (q0 := 0) rfl rfl) hP hl.1 rfl (Nat.le_of_ble_eq_true rfl) ⟨(Nat.zero_le _), (Nat.zero_le _)⟩ dX10_best_32) (fun r_11 hr_11 => ?_)
        subst hr_11
        have hb9_10 : bst N jq ≤ N 0 0 - 1 := bstA_le _ _
        refine lv_istore (lv' := [(4, .int (nI (bst N jq))), (3, .ref (ta jq)), (0, .ref h), (1, .int (nI jq)), (2, .int q)]) hx hb dX10_best_35 hl (by decide) rfl (fun ls hl => ?_)
        refine lv_iload_n hx hb dX10_best_37 rfl (lv_at hl 4 rfl) ?_
        refine i_if_ne (tgt := 46) hx hb hq dX10_best_38 (by decide) (fun c_12 => ?_) (fun c_12 => ?_)
        · refine lv_aload_n hx hb dX10_best_46 rfl (lv_at hl 2 rfl) ?_
          refine va_get (D := D) (ci := 10) (v := .ref (v 0)) (C := RX10) (T := TX10) (N := 8) hx hb hts inX10 hown hK hR9 0 rfl rfl 6 (by decide) (hts _ wd_169) (fun _ h9 => h9) rfl dX10_best_47 ?_
          refine lv_aload_n hx hb dX10_best_50 rfl (lv_at hl 1 rfl) ?_
          refine lv_iload hx hb dX10_best_51 (lv_at hl 0 rfl) ?_
          refine vp_callSi (ro_runV (c_X8_heldAlone l D ka v ta N wf df tf hV hN hL jq (bst N jq) (by omega) (by omega)) X wd_383 wd_380 wd_381 wd_382 wd_3 on_X8_heldAlone ⟨Nat.le_of_ble_eq_true rfl, Nat.le_of_ble_eq_true rfl⟩ (va_recv hK hP (ci := 8) (q0 := 0) rfl rfl) hP hl.1 rfl (Nat.le_of_ble_eq_true rfl) ⟨(Nat.zero_le _), (Nat.zero_le _)⟩ dX10_best_53) (fun r_14 hr_14 => ?_)
          subst hr_14
          have hb9_13 := hld_le N jq (bst N jq) 1
          refine hret _ _ _ dX10_best_56 ?_
          (repeat' split) <;> first | rfl | omega
        · refine lv_iload hx hb dX10_best_41 (lv_at hl 0 rfl) ?_
          refine lv_goto (tgt := 56) hx hb dX10_best_43 (by decide) ?_
          refine hret _ _ _ dX10_best_56 ?_
          (repeat' split) <;> first | rfl | omega
      · refine lv_bipush (v := (-2)) hx hb dX10_best_24 (by decide) ?_
        refine hret _ _ _ dX10_best_26 ?_
        (repeat' split) <;> first | rfl | omega
  · rw [if_neg ct_2]
    refine W.eq (g2 := F0 m 8 ls [.null]) rfl ?_
    refine lv_astore_nN (lv' := [(3, .null), (0, .ref h), (1, .int k), (2, .int q)]) hx hb dX10_best_8 rfl hl (by decide) rfl (fun ls hl => ?_)
    refine lv_aload_nN hx hb dX10_best_9 rfl (lv_at hl 0 rfl) ?_
    refine lv_ifnonnullN hx hb dX10_best_10 ?_
    refine lv_iconst (v := (-1)) hx hb dX10_best_13 (by decide) ?_
    refine hret _ _ _ dX10_best_14 ?_
    (repeat' split) <;> first | rfl | omega
set_option maxRecDepth 100000 in
set_option maxHeartbeats 4000000 in
theorem c_X10_together (l : Launch) (D : va_G) (ka : Nat → ClassId) (h : Nat) (A b nb sb : Nat → Nat) (v ta : Nat → Nat) (N : NN) (wf df : Nat → Int32) (tf : Nat → Option Nat) (hV : VR N ta wf df tf) (hN : WF N) (hL : N 0 5 = 0)(k : Int32) (K9 : Int) (hk : k.toInt = K9)(q : Int32) (Q9 : Int) (hq : q.toInt = Q9)(m1 : Int32) (M9 : Int) (hm1 : m1.toInt = M9) (R : va_W) : RO l D ka yX10_together cX10_together 6 (some .int) 4 [.ref h, .int k, .int q, .int m1] (fun H => (va_P D vwCl (([(h, .inr (10, [.ref (A 0), .ref (A 1), .ref (b 0), .ref (nb 0), .ref (sb 0), .ref (A 2), .ref (v 0), .int (nI (N 0 4))]))] : va_W) ++ R) H ∧ va_P D vwCl (kw ka v ta N wf df tf) H)) (vp_Si (fun r => r = (if (0 ≤ K9 ∧ K9 < (N 0 1 : Int)) ∧ (0 ≤ Q9 ∧ Q9 < (N 0 1 : Int)) ∧ K9 ≠ Q9 then (if 0 ≤ M9 ∧ M9 ≤ 59 then nI (bth N K9.toNat Q9.toNat M9.toNat) else -2) else -1))) := by
  refine RO.ofI (by decide) (Nat.le_of_ble_eq_true rfl) ?_
  intro p e s m args below meth c Q X hP hret ls hl
  obtain ⟨hx, hb, hml, hown, hts, hE⟩ := id X
  have hK := hE.1
  have hl : lv_has ls 6 [(0, .ref h), (1, .int k), (2, .int q), (3, .int m1)] := hl
  obtain ⟨hR9, hP⟩ := hP
  have hN1 := hN.1
  refine lv_aload_n hx hb dX10_together_0 rfl (lv_at hl 0 rfl) ?_
  refine va_get (D := D) (ci := 10) (v := .ref (v 0)) (C := RX10) (T := TX10) (N := 8) hx hb hts inX10 hown hK hR9 0 rfl rfl 6 (by decide) (hts _ wd_169) (fun _ h9 => h9) rfl dX10_together_1 ?_
  refine lv_iload_n hx hb dX10_together_4 rfl (lv_at hl 1 rfl) ?_
  refine va_csq (ro_runV (c_X8_takerAt l D ka v ta N wf df tf hV hN k _ hk) X wd_311 wd_308 wd_309 wd_310 wd_3 on_X8_takerAt ⟨Nat.le_of_ble_eq_true rfl, Nat.le_of_ble_eq_true rfl⟩ (va_recv hK hP (ci := 8) (q0 := 0) rfl rfl) hP hl.1 rfl (Nat.le_of_ble_eq_true rfl) ⟨(Nat.zero_le _), (Nat.zero_le _)⟩ dX10_together_5) (fun r_1 hr_1 => ?_)
  subst hr_1
  by_cases ct_2 : 0 ≤ K9 ∧ K9 < ((N 0 1 : Nat) : Int)
  · rw [if_pos ct_2]
    obtain ⟨jq, hlt_jq, rfl, rfl⟩ := nat_ofK (n := N 0 1) hk (by omega) (by omega)
    refine W.eq (g2 := F0 m 8 ls [.ref (ta jq)]) rfl ?_
    refine lv_astore (lv' := [(4, .ref (ta jq)), (0, .ref h), (1, .int (nI jq)), (2, .int q), (3, .int m1)]) hx hb dX10_together_8 hl (by decide) rfl (fun ls hl => ?_)
    refine lv_aload_n hx hb dX10_together_10 rfl (lv_at hl 1 rfl) ?_
    refine va_get (D := D) (ci := 10) (v := .ref (v 0)) (C := RX10) (T := TX10) (N := 8) hx hb hts inX10 hown hK hR9 0 rfl rfl 6 (by decide) (hts _ wd_169) (fun _ h9 => h9) rfl dX10_together_11 ?_
    refine lv_iload_n hx hb dX10_together_14 rfl (lv_at hl 3 rfl) ?_
    refine va_csq (ro_runV (c_X8_takerAt l D ka v ta N wf df tf hV hN q _ hq) X wd_311 wd_308 wd_309 wd_310 wd_3 on_X8_takerAt ⟨Nat.le_of_ble_eq_true rfl, Nat.le_of_ble_eq_true rfl⟩ (va_recv hK hP (ci := 8) (q0 := 0) rfl rfl) hP hl.1 rfl (Nat.le_of_ble_eq_true rfl) ⟨(Nat.zero_le _), (Nat.zero_le _)⟩ dX10_together_15) (fun r_3 hr_3 => ?_)
    subst hr_3
    by_cases ct_4 : 0 ≤ Q9 ∧ Q9 < ((N 0 1 : Nat) : Int)
    · rw [if_pos ct_4]
      obtain ⟨iq, hlt_iq, rfl, rfl⟩ := nat_ofK (n := N 0 1) hq (by omega) (by omega)
      refine W.eq (g2 := F0 m 18 ls [.ref (ta iq)]) rfl ?_
      refine lv_astore (lv' := [(5, .ref (ta iq)), (4, .ref (ta jq)), (0, .ref h), (1, .int (nI jq)), (2, .int (nI iq)), (3, .int m1)]) hx hb dX10_together_18 hl (by decide) rfl (fun ls hl => ?_)
      refine lv_aload hx hb dX10_together_20 (lv_at hl 1 rfl) ?_
      refine lv_ifnull hx hb dX10_together_22 ?_
      refine lv_aload hx hb dX10_together_25 (lv_at hl 0 rfl) ?_
      refine lv_ifnull hx hb dX10_together_27 ?_
      refine lv_iload_n hx hb dX10_together_30 rfl (lv_at hl 3 rfl) ?_
      refine lv_iload_n hx hb dX10_together_31 rfl (lv_at hl 4 rfl) ?_
      refine i_icmp_ne (tgt := 37) hx hb (nT (by omega)) (nT (by omega)) dX10_together_32 (by decide) (fun c_5 => ?_) (fun c_5 => ?_)
      · refine lv_iload_n hx hb dX10_together_37 rfl (lv_at hl 5 rfl) ?_
        refine vp_callSi (ro_runS (c_X10_isMinute l D ka m1 _ hm1) X wd_379 wd_377 wd_378 wd_1 on_X10_isMinute ⟨Nat.le_of_ble_eq_true rfl, Nat.le_of_ble_eq_true rfl⟩ trivial hl.1 rfl (Nat.le_of_ble_eq_true rfl) ⟨(Nat.zero_le _), (Nat.zero_le _)⟩ dX10_together_38) (fun r_6 hr_6 => ?_)
        subst hr_6
        refine b_if_eq (tgt := 59) hx hb dX10_together_41 (by decide) (fun c_7 => ?_) (fun c_7 => ?_)
        · refine lv_bipush (v := (-2)) hx hb dX10_together_59 (by decide) ?_
          refine hret _ _ _ dX10_together_61 ?_
          (repeat' split) <;> first | rfl | omega
        · obtain ⟨mq, hlt_mq, rfl, rfl⟩ := nat_ofK (n := 60) hm1 (by omega) (by omega)
          refine lv_aload_n hx hb dX10_together_44 rfl (lv_at hl 2 rfl) ?_
          refine va_get (D := D) (ci := 10) (v := .ref (v 0)) (C := RX10) (T := TX10) (N := 8) hx hb hts inX10 hown hK hR9 0 rfl rfl 6 (by decide) (hts _ wd_169) (fun _ h9 => h9) rfl dX10_together_45 ?_
          refine lv_aload hx hb dX10_together_48 (lv_at hl 1 rfl) ?_
          refine lv_aload hx hb dX10_together_50 (lv_at hl 0 rfl) ?_
          refine lv_iload_n hx hb dX10_together_52 rfl (lv_at hl 5 rfl) ?_
          refine vp_callSi (ro_runV (c_X8_heldByTwo l D ka v ta N wf df tf hV hN hL jq iq mq (by omega) (by omega) (by omega)) X wd_402 wd_399 wd_400 wd_401 wd_3 on_X8_heldByTwo ⟨Nat.le_of_ble_eq_true rfl, Nat.le_of_ble_eq_true rfl⟩ (va_recv hK hP (ci := 8) (q0 := 0) rfl rfl) hP hl.1 rfl (Nat.le_of_ble_eq_true rfl) ⟨(Nat.zero_le _), (Nat.zero_le _)⟩ dX10_together_53) (fun r_9 hr_9 => ?_)
          subst hr_9
          have hb9_8 := bth_le N jq iq mq
          refine lv_goto (tgt := 61) hx hb dX10_together_56 (by decide) ?_
          refine hret _ _ _ dX10_together_61 ?_
          (repeat' split) <;> first | rfl | omega
      · refine lv_iconst (v := (-1)) hx hb dX10_together_35 (by decide) ?_
        refine hret _ _ _ dX10_together_36 ?_
        (repeat' split) <;> first | rfl | omega
    · rw [if_neg ct_4]
      refine W.eq (g2 := F0 m 18 ls [.null]) rfl ?_
      refine lv_astoreN (lv' := [(5, .null), (4, .ref (ta jq)), (0, .ref h), (1, .int (nI jq)), (2, .int q), (3, .int m1)]) hx hb dX10_together_18 hl (by decide) rfl (fun ls hl => ?_)
      refine lv_aload hx hb dX10_together_20 (lv_at hl 1 rfl) ?_
      refine lv_ifnull hx hb dX10_together_22 ?_
      refine lv_aloadN hx hb dX10_together_25 (lv_at hl 0 rfl) ?_
      refine lv_ifnullN (tgt := 35) hx hb dX10_together_27 (by decide) ?_
      refine lv_iconst (v := (-1)) hx hb dX10_together_35 (by decide) ?_
      refine hret _ _ _ dX10_together_36 ?_
      (repeat' split) <;> first | rfl | omega
  · rw [if_neg ct_2]
    refine W.eq (g2 := F0 m 8 ls [.null]) rfl ?_
    refine lv_astoreN (lv' := [(4, .null), (0, .ref h), (1, .int k), (2, .int q), (3, .int m1)]) hx hb dX10_together_8 hl (by decide) rfl (fun ls hl => ?_)
    refine lv_aload_n hx hb dX10_together_10 rfl (lv_at hl 1 rfl) ?_
    refine va_get (D := D) (ci := 10) (v := .ref (v 0)) (C := RX10) (T := TX10) (N := 8) hx hb hts inX10 hown hK hR9 0 rfl rfl 6 (by decide) (hts _ wd_169) (fun _ h9 => h9) rfl dX10_together_11 ?_
    refine lv_iload_n hx hb dX10_together_14 rfl (lv_at hl 3 rfl) ?_
    refine va_csq (ro_runV (c_X8_takerAt l D ka v ta N wf df tf hV hN q _ hq) X wd_311 wd_308 wd_309 wd_310 wd_3 on_X8_takerAt ⟨Nat.le_of_ble_eq_true rfl, Nat.le_of_ble_eq_true rfl⟩ (va_recv hK hP (ci := 8) (q0 := 0) rfl rfl) hP hl.1 rfl (Nat.le_of_ble_eq_true rfl) ⟨(Nat.zero_le _), (Nat.zero_le _)⟩ dX10_together_15) (fun r_10 hr_10 => ?_)
    subst hr_10
    by_cases ct_11 : 0 ≤ Q9 ∧ Q9 < ((N 0 1 : Nat) : Int)
    · rw [if_pos ct_11]
      obtain ⟨iq, hlt_iq, rfl, rfl⟩ := nat_ofK (n := N 0 1) hq (by omega) (by omega)
      refine W.eq (g2 := F0 m 18 ls [.ref (ta iq)]) rfl ?_
      refine lv_astore (lv' := [(5, .ref (ta iq)), (4, .null), (0, .ref h), (1, .int k), (2, .int (nI iq)), (3, .int m1)]) hx hb dX10_together_18 hl (by decide) rfl (fun ls hl => ?_)
      refine lv_aloadN hx hb dX10_together_20 (lv_at hl 1 rfl) ?_
      refine lv_ifnullN (tgt := 35) hx hb dX10_together_22 (by decide) ?_
      refine lv_iconst (v := (-1)) hx hb dX10_together_35 (by decide) ?_
      refine hret _ _ _ dX10_together_36 ?_
      (repeat' split) <;> first | rfl | omega
    · rw [if_neg ct_11]
      refine W.eq (g2 := F0 m 18 ls [.null]) rfl ?_
      refine lv_astoreN (lv' := [(5, .null), (4, .null), (0, .ref h), (1, .int k), (2, .int q), (3, .int m1)]) hx hb dX10_together_18 hl (by decide) rfl (fun ls hl => ?_)
      refine lv_aloadN hx hb dX10_together_20 (lv_at hl 1 rfl) ?_
      refine lv_ifnullN (tgt := 35) hx hb dX10_together_22 (by decide) ?_
      refine lv_iconst (v := (-1)) hx hb dX10_together_35 (by decide) ?_
      refine hret _ _ _ dX10_together_36 ?_
      (repeat' split) <;> first | rfl | omega
set_option maxRecDepth 100000 in
set_option maxHeartbeats 4000000 in
theorem c_X10_friend (l : Launch) (D : va_G) (ka : Nat → ClassId) (h : Nat) (A b nb sb : Nat → Nat) (v ta : Nat → Nat) (N : NN) (wf df : Nat → Int32) (tf : Nat → Option Nat) (hV : VR N ta wf df tf) (hN : WF N) (hL : N 0 5 = 0)(k : Int32) (K9 : Int) (hk : k.toInt = K9)(q : Int32) (Q9 : Int) (hq : q.toInt = Q9) (R : va_W) : RO l D ka yX10_friend cX10_friend 4 (some .int) 5 [.ref h, .int k, .int q] (fun H => (va_P D vwCl (([(h, .inr (10, [.ref (A 0), .ref (A 1), .ref (b 0), .ref (nb 0), .ref (sb 0), .ref (A 2), .ref (v 0), .int (nI (N 0 4))]))] : va_W) ++ R) H ∧ va_P D vwCl (kw ka v ta N wf df tf) H)) (vp_Si (fun r => r = (if 0 ≤ K9 ∧ K9 < (N 0 1 : Int) then (if 0 ≤ Q9 ∧ Q9 ≤ 59 then fno (frd (fun b => bth N K9.toNat b Q9.toNat) K9.toNat (N 0 1)) else -2) else -1))) := by
  refine RO.ofI (by decide) (Nat.le_of_ble_eq_true rfl) ?_
  intro p e s m args below meth c Q X hP hret ls hl
  obtain ⟨hx, hb, hml, hown, hts, hE⟩ := id X
  have hK := hE.1
  have hl : lv_has ls 4 [(0, .ref h), (1, .int k), (2, .int q)] := hl
  obtain ⟨hR9, hP⟩ := hP
  have hN1 := hN.1
  refine lv_aload_n hx hb dX10_friend_0 rfl (lv_at hl 0 rfl) ?_
  refine va_get (D := D) (ci := 10) (v := .ref (v 0)) (C := RX10) (T := TX10) (N := 8) hx hb hts inX10 hown hK hR9 0 rfl rfl 6 (by decide) (hts _ wd_169) (fun _ h9 => h9) rfl dX10_friend_1 ?_
  refine lv_iload_n hx hb dX10_friend_4 rfl (lv_at hl 1 rfl) ?_
  refine va_csq (ro_runV (c_X8_takerAt l D ka v ta N wf df tf hV hN k _ hk) X wd_311 wd_308 wd_309 wd_310 wd_3 on_X8_takerAt ⟨Nat.le_of_ble_eq_true rfl, Nat.le_of_ble_eq_true rfl⟩ (va_recv hK hP (ci := 8) (q0 := 0) rfl rfl) hP hl.1 rfl (Nat.le_of_ble_eq_true rfl) ⟨(Nat.zero_le _), (Nat.zero_le _)⟩ dX10_friend_5) (fun r_1 hr_1 => ?_)
  subst hr_1
  by_cases ct_2 : 0 ≤ K9 ∧ K9 < ((N 0 1 : Nat) : Int)
  · rw [if_pos ct_2]
    obtain ⟨jq, hlt_jq, rfl, rfl⟩ := nat_ofK (n := N 0 1) hk (by omega) (by omega)
    refine W.eq (g2 := F0 m 8 ls [.ref (ta jq)]) rfl ?_
    refine lv_astore_n (lv' := [(3, .ref (ta jq)), (0, .ref h), (1, .int (nI jq)), (2, .int q)]) hx hb dX10_friend_8 rfl hl (by decide) rfl (fun ls hl => ?_)
    refine lv_aload_n hx hb dX10_friend_9 rfl (lv_at hl 0 rfl) ?_
    refine lv_ifnonnull (tgt := 15) hx hb dX10_friend_10 (by decide) ?_
    refine lv_iload_n hx hb dX10_friend_15 rfl (lv_at hl 3 rfl) ?_
    refine vp_callSi (ro_runS (c_X10_isMinute l D ka q _ hq) X wd_379 wd_377 wd_378 wd_1 on_X10_isMinute ⟨Nat.le_of_ble_eq_true rfl, Nat.le_of_ble_eq_true rfl⟩ trivial hl.1 rfl (Nat.le_of_ble_eq_true rfl) ⟨(Nat.zero_le _), (Nat.zero_le _)⟩ dX10_friend_16) (fun r_3 hr_3 => ?_)
    subst hr_3
    refine b_if_eq (tgt := 34) hx hb dX10_friend_19 (by decide) (fun c_4 => ?_) (fun c_4 => ?_)
    · refine lv_bipush (v := (-2)) hx hb dX10_friend_34 (by decide) ?_
      refine hret _ _ _ dX10_friend_36 ?_
      (repeat' split) <;> first | rfl | omega
    · obtain ⟨mq, hlt_mq, rfl, rfl⟩ := nat_ofK (n := 60) hq (by omega) (by omega)
      refine lv_aload_n hx hb dX10_friend_22 rfl (lv_at hl 1 rfl) ?_
      refine va_get (D := D) (ci := 10) (v := .ref (v 0)) (C := RX10) (T := TX10) (N := 8) hx hb hts inX10 hown hK hR9 0 rfl rfl 6 (by decide) (hts _ wd_169) (fun _ h9 => h9) rfl dX10_friend_23 ?_
      refine lv_aload_n hx hb dX10_friend_26 rfl (lv_at hl 0 rfl) ?_
      refine lv_iload_n hx hb dX10_friend_27 rfl (lv_at hl 3 rfl) ?_
      refine vp_callSi (ro_runV (c_X8_bestFriend l D ka v ta N wf df tf hV hN hL jq mq (by omega) (by omega)) X wd_417 wd_414 wd_415 wd_416 wd_3 on_X8_bestFriend ⟨Nat.le_of_ble_eq_true rfl, Nat.le_of_ble_eq_true rfl⟩ (va_recv hK hP (ci := 8) (q0 := 0) rfl rfl) hP hl.1 rfl (Nat.le_of_ble_eq_true rfl) ⟨(Nat.zero_le _), (Nat.zero_le _)⟩ dX10_friend_28) (fun r_5 hr_5 => ?_)
      subst hr_5
      refine lv_goto (tgt := 36) hx hb dX10_friend_31 (by decide) ?_
      refine hret _ _ _ dX10_friend_36 ?_
      (repeat' split) <;> first | rfl | omega
  · rw [if_neg ct_2]
    refine W.eq (g2 := F0 m 8 ls [.null]) rfl ?_
    refine lv_astore_nN (lv' := [(3, .null), (0, .ref h), (1, .int k), (2, .int q)]) hx hb dX10_friend_8 rfl hl (by decide) rfl (fun ls hl => ?_)
    refine lv_aload_nN hx hb dX10_friend_9 rfl (lv_at hl 0 rfl) ?_
    refine lv_ifnonnullN hx hb dX10_friend_10 ?_
    refine lv_iconst (v := (-1)) hx hb dX10_friend_13 (by decide) ?_
    refine hret _ _ _ dX10_friend_14 ?_
    (repeat' split) <;> first | rfl | omega
set_option maxRecDepth 100000 in
set_option maxHeartbeats 4000000 in
theorem c_X10_gets (l : Launch) (D : va_G) (ka : Nat → ClassId) (h : Nat) (A b nb sb : Nat → Nat) (v ta : Nat → Nat) (N : NN) (wf df : Nat → Int32) (tf : Nat → Option Nat) (hV : VR N ta wf df tf) (hN : WF N) (hL : N 0 5 = 0)(k : Int32) (K9 : Int) (hk : k.toInt = K9)(q : Int32) (Q9 : Int) (hq : q.toInt = Q9) (R : va_W) : RO l D ka yX10_gets cX10_gets 4 (some .int) 4 [.ref h, .int k, .int q] (fun H => (va_P D vwCl (([(h, .inr (10, [.ref (A 0), .ref (A 1), .ref (b 0), .ref (nb 0), .ref (sb 0), .ref (A 2), .ref (v 0), .int (nI (N 0 4))]))] : va_W) ++ R) H ∧ va_P D vwCl (kw ka v ta N wf df tf) H)) (vp_Si (fun r => r = (if 0 ≤ K9 ∧ K9 < (N 0 1 : Int) then (if 0 ≤ Q9 ∧ Q9 ≤ 59 then nI (gts N K9.toNat Q9.toNat) else -2) else -1))) := by
  refine RO.ofI (by decide) (Nat.le_of_ble_eq_true rfl) ?_
  intro p e s m args below meth c Q X hP hret ls hl
  obtain ⟨hx, hb, hml, hown, hts, hE⟩ := id X
  have hK := hE.1
  have hl : lv_has ls 4 [(0, .ref h), (1, .int k), (2, .int q)] := hl
  obtain ⟨hR9, hP⟩ := hP
  have hN1 := hN.1
  refine lv_aload_n hx hb dX10_gets_0 rfl (lv_at hl 0 rfl) ?_
  refine va_get (D := D) (ci := 10) (v := .ref (v 0)) (C := RX10) (T := TX10) (N := 8) hx hb hts inX10 hown hK hR9 0 rfl rfl 6 (by decide) (hts _ wd_169) (fun _ h9 => h9) rfl dX10_gets_1 ?_
  refine lv_iload_n hx hb dX10_gets_4 rfl (lv_at hl 1 rfl) ?_
  refine va_csq (ro_runV (c_X8_takerAt l D ka v ta N wf df tf hV hN k _ hk) X wd_311 wd_308 wd_309 wd_310 wd_3 on_X8_takerAt ⟨Nat.le_of_ble_eq_true rfl, Nat.le_of_ble_eq_true rfl⟩ (va_recv hK hP (ci := 8) (q0 := 0) rfl rfl) hP hl.1 rfl (Nat.le_of_ble_eq_true rfl) ⟨(Nat.zero_le _), (Nat.zero_le _)⟩ dX10_gets_5) (fun r_1 hr_1 => ?_)
  subst hr_1
  by_cases ct_2 : 0 ≤ K9 ∧ K9 < ((N 0 1 : Nat) : Int)
  · rw [if_pos ct_2]
    obtain ⟨jq, hlt_jq, rfl, rfl⟩ := nat_ofK (n := N 0 1) hk (by omega) (by omega)
    refine W.eq (g2 := F0 m 8 ls [.ref (ta jq)]) rfl ?_
    refine lv_astore_n (lv' := [(3, .ref (ta jq)), (0, .ref h), (1, .int (nI jq)), (2, .int q)]) hx hb dX10_gets_8 rfl hl (by decide) rfl (fun ls hl => ?_)
    refine lv_aload_n hx hb dX10_gets_9 rfl (lv_at hl 0 rfl) ?_
    refine lv_ifnonnull (tgt := 15) hx hb dX10_gets_10 (by decide) ?_
    refine lv_iload_n hx hb dX10_gets_15 rfl (lv_at hl 3 rfl) ?_
    refine vp_callSi (ro_runS (c_X10_isMinute l D ka q _ hq) X wd_379 wd_377 wd_378 wd_1 on_X10_isMinute ⟨Nat.le_of_ble_eq_true rfl, Nat.le_of_ble_eq_true rfl⟩ trivial hl.1 rfl (Nat.le_of_ble_eq_true rfl) ⟨(Nat.zero_le _), (Nat.zero_le _)⟩ dX10_gets_16) (fun r_3 hr_3 => ?_)
    subst hr_3
    refine b_if_eq (tgt := 34) hx hb dX10_gets_19 (by decide) (fun c_4 => ?_) (fun c_4 => ?_)
    · refine lv_bipush (v := (-2)) hx hb dX10_gets_34 (by decide) ?_
      refine hret _ _ _ dX10_gets_36 ?_
      (repeat' split) <;> first | rfl | omega
    · obtain ⟨mq, hlt_mq, rfl, rfl⟩ := nat_ofK (n := 60) hq (by omega) (by omega)
      refine lv_aload_n hx hb dX10_gets_22 rfl (lv_at hl 1 rfl) ?_
      refine va_get (D := D) (ci := 10) (v := .ref (v 0)) (C := RX10) (T := TX10) (N := 8) hx hb hts inX10 hown hK hR9 0 rfl rfl 6 (by decide) (hts _ wd_169) (fun _ h9 => h9) rfl dX10_gets_23 ?_
      refine lv_aload_n hx hb dX10_gets_26 rfl (lv_at hl 0 rfl) ?_
      refine lv_iload_n hx hb dX10_gets_27 rfl (lv_at hl 3 rfl) ?_
      refine vp_callSi (ro_runV (c_X8_goodsGot l D ka v ta N wf df tf hV hN hL jq mq (by omega) (by omega)) X wd_478 wd_475 wd_476 wd_477 wd_3 on_X8_goodsGot ⟨Nat.le_of_ble_eq_true rfl, Nat.le_of_ble_eq_true rfl⟩ (va_recv hK hP (ci := 8) (q0 := 0) rfl rfl) hP hl.1 rfl (Nat.le_of_ble_eq_true rfl) ⟨(Nat.zero_le _), (Nat.zero_le _)⟩ dX10_gets_28) (fun r_6 hr_6 => ?_)
      subst hr_6
      have hb9_5 := gts_lt N jq mq (by omega)
      refine lv_goto (tgt := 36) hx hb dX10_gets_31 (by decide) ?_
      refine hret _ _ _ dX10_gets_36 ?_
      (repeat' split) <;> first | rfl | omega
  · rw [if_neg ct_2]
    refine W.eq (g2 := F0 m 8 ls [.null]) rfl ?_
    refine lv_astore_nN (lv' := [(3, .null), (0, .ref h), (1, .int k), (2, .int q)]) hx hb dX10_gets_8 rfl hl (by decide) rfl (fun ls hl => ?_)
    refine lv_aload_nN hx hb dX10_gets_9 rfl (lv_at hl 0 rfl) ?_
    refine lv_ifnonnullN hx hb dX10_gets_10 ?_
    refine lv_iconst (v := (-1)) hx hb dX10_gets_13 (by decide) ?_
    refine hret _ _ _ dX10_gets_14 ?_
    (repeat' split) <;> first | rfl | omega
set_option maxRecDepth 100000 in
set_option maxHeartbeats 4000000 in
theorem c_X10_fault (l : Launch) (D : va_G) (ka : Nat → ClassId) (h : Nat) (A b nb sb : Nat → Nat) (v ta : Nat → Nat) (N : NN) (wf df : Nat → Int32) (tf : Nat → Option Nat) (hV : VR N ta wf df tf) (hN : WF N) (hL : N 0 5 = 0) (R : va_W) : RO l D ka yX10_fault cX10_fault 1 (some .int) 0 [.ref h] (fun H => (va_P D vwCl (([(h, .inr (10, [.ref (A 0), .ref (A 1), .ref (b 0), .ref (nb 0), .ref (sb 0), .ref (A 2), .ref (v 0), .int (nI (N 0 4))]))] : va_W) ++ R) H ∧ va_P D vwCl (kw ka v ta N wf df tf) H)) (vp_Si (fun r => r = nI (N 0 4))) := by
  refine RO.ofI (by decide) (Nat.le_of_ble_eq_true rfl) ?_
  intro p e s m args below meth c Q X hP hret ls hl
  obtain ⟨hx, hb, hml, hown, hts, hE⟩ := id X
  have hK := hE.1
  have hl : lv_has ls 1 [(0, .ref h)] := hl
  obtain ⟨hR9, hP⟩ := hP
  have hN1 := hN.1
  refine lv_aload_n hx hb dX10_fault_0 rfl (lv_at hl 0 rfl) ?_
  refine va_get (D := D) (ci := 10) (v := .int (nI (N 0 4))) (C := RX10) (T := TX10) (N := 8) hx hb hts inX10 hown hK hR9 0 rfl rfl 7 (by decide) (hts _ wd_170) (fun _ h9 => h9) rfl dX10_fault_1 ?_
  refine hret _ _ _ dX10_fault_4 ?_
  rfl
set_option maxRecDepth 100000 in
set_option maxHeartbeats 4000000 in
theorem c_X10_trace (l : Launch) (D : va_G) (ka : Nat → ClassId) (h : Nat) (A b nb sb : Nat → Nat) (v ta : Nat → Nat) (N : NN) (wf df : Nat → Int32) (tf : Nat → Option Nat) (hV : VR N ta wf df tf) (hN : WF N) (hL : N 0 5 = 0) (tv : Int32) (R : va_W) : RO l D ka yX10_trace cX10_trace 1 (some .int) 0 [.ref h] (fun H => (va_P D vwCl (([(h, .inr (10, [.ref (A 0), .ref (A 1), .ref (b 0), .ref (nb 0), .ref (sb 0), .ref (A 2), .ref (v 0), .int (nI (N 0 4))])), ((A 2), .inr (7, [.int tv]))] : va_W) ++ R) H ∧ va_P D vwCl (kw ka v ta N wf df tf) H)) (vp_Si (fun r => r = tv)) := by
  refine RO.ofI (by decide) (Nat.le_of_ble_eq_true rfl) ?_
  intro p e s m args below meth c Q X hP hret ls hl
  obtain ⟨hx, hb, hml, hown, hts, hE⟩ := id X
  have hK := hE.1
  have hl : lv_has ls 1 [(0, .ref h)] := hl
  obtain ⟨hR9, hP⟩ := hP
  have hN1 := hN.1
  refine lv_aload_n hx hb dX10_trace_0 rfl (lv_at hl 0 rfl) ?_
  refine va_get (D := D) (ci := 10) (v := .ref (A 2)) (C := RX10) (T := TX10) (N := 8) hx hb hts inX10 hown hK hR9 0 rfl rfl 5 (by decide) (hts _ wd_168) (fun _ h9 => h9) rfl dX10_trace_1 ?_
  refine va_get (D := D) (ci := 7) (v := .int tv) (C := RX7) (T := TX7) (N := 1) hx hb hts inX7 hown hK hR9 1 rfl rfl 0 (by decide) (hts _ wd_157) (fun _ h9 => h9) rfl dX10_trace_4 ?_
  refine hret _ _ _ dX10_trace_7 ?_
  rfl
set_option maxRecDepth 100000 in
set_option maxHeartbeats 4000000 in
theorem c_X10_many (l : Launch) (D : va_G) (ka : Nat → ClassId) (h : Nat) (A b nb sb : Nat → Nat) (v ta : Nat → Nat) (N : NN) (wf df : Nat → Int32) (tf : Nat → Option Nat) (hV : VR N ta wf df tf) (hN : WF N) (hL : N 0 5 = 0)(k : Int32) (K9 : Int) (hk : k.toInt = K9) (R : va_W) : RO l D ka yX10_many cX10_many 2 (some .int) 0 [.ref h, .int k] (fun H => (va_P D vwCl (([(h, .inr (10, [.ref (A 0), .ref (A 1), .ref (b 0), .ref (nb 0), .ref (sb 0), .ref (A 2), .ref (v 0), .int (nI (N 0 4))])), ((b 0), .inr (2, [.ref (b 1), .ref (b 2), .ref (b 3), .int (nI (N 0 3))]))] : va_W) ++ R) H ∧ va_P D vwCl (kw ka v ta N wf df tf) H)) (vp_Si (fun r => r = (if K9 = 0 then nI (N 0 1) else if K9 = 1 then nI (N 0 2) else if K9 = 2 then nI (N 0 0) else if K9 = 3 then nI (N 0 3) else -2))) := by
  refine RO.ofI (by decide) (Nat.le_of_ble_eq_true rfl) ?_
  intro p e s m args below meth c Q X hP hret ls hl
  obtain ⟨hx, hb, hml, hown, hts, hE⟩ := id X
  have hK := hE.1
  have hl : lv_has ls 2 [(0, .ref h), (1, .int k)] := hl
  obtain ⟨hR9, hP⟩ := hP
  have hN1 := hN.1
  refine lv_iload_n hx hb dX10_many_0 rfl (lv_at hl 1 rfl) ?_
  have hT_1 : k.toInt = K9 := hk
  by_cases cs_2 : K9 = 0
  · refine lv_tableIn (off := 31) (tgt := 32) hx hb dX10_many_1 (by rw [hT_1, cs_2]; decide) (by rw [hT_1, cs_2]; decide) (by rw [hT_1, cs_2]; rfl) (by decide) ?_
    refine lv_aload_n hx hb dX10_many_32 rfl (lv_at hl 0 rfl) ?_
    refine va_get (D := D) (ci := 10) (v := .ref (v 0)) (C := RX10) (T := TX10) (N := 8) hx hb hts inX10 hown hK hR9 0 rfl rfl 6 (by decide) (hts _ wd_169) (fun _ h9 => h9) rfl dX10_many_33 ?_
    refine va_get (D := D) (ci := 8) (v := .int (nI (N 0 1))) (C := RX8) (T := TX8) (N := 6) hx hb hts inX8 hown hK hP 0 rfl rfl 4 (by decide) (hts _ wd_54) (fun _ h9 => h9) rfl dX10_many_36 ?_
    refine hret _ _ _ dX10_many_39 ?_
    (repeat' split) <;> first | rfl | omega
  by_cases cs_3 : K9 = 1
  · refine lv_tableIn (off := 39) (tgt := 40) hx hb dX10_many_1 (by rw [hT_1, cs_3]; decide) (by rw [hT_1, cs_3]; decide) (by rw [hT_1, cs_3]; rfl) (by decide) ?_
    refine lv_aload_n hx hb dX10_many_40 rfl (lv_at hl 0 rfl) ?_
    refine va_get (D := D) (ci := 10) (v := .ref (v 0)) (C := RX10) (T := TX10) (N := 8) hx hb hts inX10 hown hK hR9 0 rfl rfl 6 (by decide) (hts _ wd_169) (fun _ h9 => h9) rfl dX10_many_41 ?_
    refine va_get (D := D) (ci := 8) (v := .int (nI (N 0 2))) (C := RX8) (T := TX8) (N := 6) hx hb hts inX8 hown hK hP 0 rfl rfl 5 (by decide) (hts _ wd_59) (fun _ h9 => h9) rfl dX10_many_44 ?_
    refine hret _ _ _ dX10_many_47 ?_
    (repeat' split) <;> first | rfl | omega
  by_cases cs_4 : K9 = 2
  · refine lv_tableIn (off := 47) (tgt := 48) hx hb dX10_many_1 (by rw [hT_1, cs_4]; decide) (by rw [hT_1, cs_4]; decide) (by rw [hT_1, cs_4]; rfl) (by decide) ?_
    refine lv_aload_n hx hb dX10_many_48 rfl (lv_at hl 0 rfl) ?_
    refine va_get (D := D) (ci := 10) (v := .ref (v 0)) (C := RX10) (T := TX10) (N := 8) hx hb hts inX10 hown hK hR9 0 rfl rfl 6 (by decide) (hts _ wd_169) (fun _ h9 => h9) rfl dX10_many_49 ?_
    refine va_get (D := D) (ci := 8) (v := .int (nI (N 0 0))) (C := RX8) (T := TX8) (N := 6) hx hb hts inX8 hown hK hP 0 rfl rfl 3 (by decide) (hts _ wd_51) (fun _ h9 => h9) rfl dX10_many_52 ?_
    refine hret _ _ _ dX10_many_55 ?_
    (repeat' split) <;> first | rfl | omega
  by_cases cs_5 : K9 = 3
  · refine lv_tableIn (off := 55) (tgt := 56) hx hb dX10_many_1 (by rw [hT_1, cs_5]; decide) (by rw [hT_1, cs_5]; decide) (by rw [hT_1, cs_5]; rfl) (by decide) ?_
    refine lv_aload_n hx hb dX10_many_56 rfl (lv_at hl 0 rfl) ?_
    refine va_get (D := D) (ci := 10) (v := .ref (b 0)) (C := RX10) (T := TX10) (N := 8) hx hb hts inX10 hown hK hR9 0 rfl rfl 2 (by decide) (hts _ wd_165) (fun _ h9 => h9) rfl dX10_many_57 ?_
    refine va_get (D := D) (ci := 2) (v := .int (nI (N 0 3))) (C := RX2) (T := TX2) (N := 4) hx hb hts inX2 hown hK hR9 1 rfl rfl 3 (by decide) (hts _ wd_106) (fun _ h9 => h9) rfl dX10_many_60 ?_
    refine hret _ _ _ dX10_many_63 ?_
    (repeat' split) <;> first | rfl | omega
  refine lv_tableOut (tgt := 64) hx hb dX10_many_1 (by rw [hT_1]; omega) (by decide) ?_
  refine lv_bipush (v := (-2)) hx hb dX10_many_64 (by decide) ?_
  refine hret _ _ _ dX10_many_66 ?_
  (repeat' split) <;> first | rfl | omega
set_option maxRecDepth 100000 in
set_option maxHeartbeats 4000000 in
theorem c_X10_odds (l : Launch) (D : va_G) (ka : Nat → ClassId) (h : Nat) (A b nb sb : Nat → Nat) (v ta : Nat → Nat) (N : NN) (wf df : Nat → Int32) (tf : Nat → Option Nat) (hV : VR N ta wf df tf) (hN : WF N) (hL : N 0 5 = 0)(k : Int32) (K9 : Int) (hk : k.toInt = K9)(q : Int32) (Q9 : Int) (hq : q.toInt = Q9)(m1 : Int32) (M9 : Int) (hm1 : m1.toInt = M9) (R : va_W) : RO l D ka yX10_odds cX10_odds 8 (some .long) 4 [.ref h, .int k, .int q, .int m1] (fun H => (va_P D vwCl (([(h, .inr (10, [.ref (A 0), .ref (A 1), .ref (b 0), .ref (nb 0), .ref (sb 0), .ref (A 2), .ref (v 0), .int (nI (N 0 4))]))] : va_W) ++ R) H ∧ va_P D vwCl (kw ka v ta N wf df tf) H)) (vp_Sl (fun r => r = (if (0 ≤ K9 ∧ K9 < (N 0 1 : Int)) ∧ (0 ≤ Q9 ∧ Q9 ≤ 40) ∧ (0 ≤ M9 ∧ M9 ≤ 1) then lt_ (ocnt N K9.toNat Q9.toNat) (2 ^ N 0 0) M9 else LOSTV))) := by
  refine RO.ofL (by decide) (Nat.le_of_ble_eq_true rfl) ?_
  intro p e s m args below meth c Q X hP hret ls hl
  obtain ⟨hx, hb, hml, hown, hts, hE⟩ := id X
  have hK := hE.1
  have hl : lv_has ls 8 [(0, .ref h), (1, .int k), (2, .int q), (3, .int m1)] := hl
  obtain ⟨hR9, hP⟩ := hP
  have hN1 := hN.1
  refine lv_aload_n hx hb dX10_odds_0 rfl (lv_at hl 0 rfl) ?_
  refine va_get (D := D) (ci := 10) (v := .ref (v 0)) (C := RX10) (T := TX10) (N := 8) hx hb hts inX10 hown hK hR9 0 rfl rfl 6 (by decide) (hts _ wd_169) (fun _ h9 => h9) rfl dX10_odds_1 ?_
  refine lv_iload_n hx hb dX10_odds_4 rfl (lv_at hl 1 rfl) ?_
  refine va_csq (ro_runV (c_X8_takerAt l D ka v ta N wf df tf hV hN k _ hk) X wd_311 wd_308 wd_309 wd_310 wd_3 on_X8_takerAt ⟨Nat.le_of_ble_eq_true rfl, Nat.le_of_ble_eq_true rfl⟩ (va_recv hK hP (ci := 8) (q0 := 0) rfl rfl) hP hl.1 rfl (Nat.le_of_ble_eq_true rfl) ⟨(Nat.zero_le _), (Nat.zero_le _)⟩ dX10_odds_5) (fun r_1 hr_1 => ?_)
  subst hr_1
  by_cases ct_2 : 0 ≤ K9 ∧ K9 < ((N 0 1 : Nat) : Int)
  · rw [if_pos ct_2]
    obtain ⟨jq, hlt_jq, rfl, rfl⟩ := nat_ofK (n := N 0 1) hk (by omega) (by omega)
    refine W.eq (g2 := F0 m 8 ls [.ref (ta jq)]) rfl ?_
    refine lv_astore (lv' := [(4, .ref (ta jq)), (0, .ref h), (1, .int (nI jq)), (2, .int q), (3, .int m1)]) hx hb dX10_odds_8 hl (by decide) rfl (fun ls hl => ?_)
    refine lv_aload hx hb dX10_odds_10 (lv_at hl 0 rfl) ?_
    refine lv_ifnull hx hb dX10_odds_12 ?_
    refine lv_iload_n hx hb dX10_odds_15 rfl (lv_at hl 3 rfl) ?_
    refine i_if_lt (tgt := 34) hx hb hq dX10_odds_16 (by decide) (fun c_3 => ?_) (fun c_3 => ?_)
    · refine lv_ldc2 (v := (-9223372036854775808 : Int64)) hx hb hown (hts _ wd_549) dX10_odds_34 ?_
      refine hret _ _ _ dX10_odds_37 ?_
      rw [if_neg (by omega)]
    · refine lv_iload_n hx hb dX10_odds_19 rfl (lv_at hl 3 rfl) ?_
      refine lv_bipush (v := nI 40) hx hb dX10_odds_20 (by decide) ?_
      refine i_icmp_gt (tgt := 34) hx hb hq (nT (by decide)) dX10_odds_22 (by decide) (fun c_4 => ?_) (fun c_4 => ?_)
      · refine lv_ldc2 (v := (-9223372036854775808 : Int64)) hx hb hown (hts _ wd_549) dX10_odds_34 ?_
        refine hret _ _ _ dX10_odds_37 ?_
        rw [if_neg (by omega)]
      · refine lv_iload_n hx hb dX10_odds_25 rfl (lv_at hl 4 rfl) ?_
        refine i_if_lt (tgt := 34) hx hb hm1 dX10_odds_26 (by decide) (fun c_5 => ?_) (fun c_5 => ?_)
        · refine lv_ldc2 (v := (-9223372036854775808 : Int64)) hx hb hown (hts _ wd_549) dX10_odds_34 ?_
          refine hret _ _ _ dX10_odds_37 ?_
          rw [if_neg (by omega)]
        · refine lv_iload_n hx hb dX10_odds_29 rfl (lv_at hl 4 rfl) ?_
          refine lv_iconst (v := nI 1) hx hb dX10_odds_30 (by decide) ?_
          refine i_icmp_le (tgt := 38) hx hb hm1 (nT (by decide)) dX10_odds_31 (by decide) (fun c_6 => ?_) (fun c_6 => ?_)
          · obtain ⟨nq, hlt_nq, rfl, rfl⟩ := nat_ofK (n := 41) hq (by omega) (by omega)
            refine lv_aload_n hx hb dX10_odds_38 rfl (lv_at hl 1 rfl) ?_
            refine va_get (D := D) (ci := 10) (v := .ref (v 0)) (C := RX10) (T := TX10) (N := 8) hx hb hts inX10 hown hK hR9 0 rfl rfl 6 (by decide) (hts _ wd_169) (fun _ h9 => h9) rfl dX10_odds_39 ?_
            refine lv_aload hx hb dX10_odds_42 (lv_at hl 0 rfl) ?_
            refine lv_iload_n hx hb dX10_odds_44 rfl (lv_at hl 3 rfl) ?_
            refine vp_callSi (ro_runV (c_X8_setsHeld l D ka v ta N wf df tf hV hN jq nq (by omega) (by omega)) X wd_553 wd_550 wd_551 wd_552 wd_3 on_X8_setsHeld ⟨Nat.le_of_ble_eq_true rfl, Nat.le_of_ble_eq_true rfl⟩ (va_recv hK hP (ci := 8) (q0 := 0) rfl rfl) hP hl.1 rfl (Nat.le_of_ble_eq_true rfl) ⟨(Nat.zero_le _), (Nat.zero_le _)⟩ dX10_odds_45) (fun r_8 hr_8 => ?_)
            subst hr_8
            have hb9_7 := cntA_le (fun s => decide (di N s jq nq ≤ N 3 jq)) (2 ^ N 0 0)
            have hpw := pow_le64 (p := N 0 0) (by omega)
            refine lv_istore (lv' := [(5, .int (nI (cntA (fun s => decide (di N s jq nq ≤ N 3 jq)) (2 ^ N 0 0)))), (4, .ref (ta jq)), (0, .ref h), (1, .int (nI jq)), (2, .int (nI nq)), (3, .int m1)]) hx hb dX10_odds_48 hl (by decide) rfl (fun ls hl => ?_)
            refine lv_iconst (v := nI 1) hx hb dX10_odds_50 (by decide) ?_
            refine lv_aload_n hx hb dX10_odds_51 rfl (lv_at hl 2 rfl) ?_
            refine va_get (D := D) (ci := 10) (v := .ref (v 0)) (C := RX10) (T := TX10) (N := 8) hx hb hts inX10 hown hK hR9 0 rfl rfl 6 (by decide) (hts _ wd_169) (fun _ h9 => h9) rfl dX10_odds_52 ?_
            refine va_get (D := D) (ci := 8) (v := .int (nI (N 0 0))) (C := RX8) (T := TX8) (N := 6) hx hb hts inX8 hown hK hP 0 rfl rfl 3 (by decide) (hts _ wd_51) (fun _ h9 => h9) rfl dX10_odds_55 ?_
            refine lv_ishl hx hb dX10_odds_58 ?_
            rw [n_shl (a := 1) (k := N 0 0) (by omega) (by omega), Nat.one_mul]
            refine lv_istore (lv' := [(6, .int (nI (2 ^ (N 0 0)))), (5, .int (nI (cntA (fun s => decide (di N s jq nq ≤ N 3 jq)) (2 ^ N 0 0)))), (4, .ref (ta jq)), (0, .ref h), (1, .int (nI jq)), (2, .int (nI nq)), (3, .int m1)]) hx hb dX10_odds_59 hl (by decide) rfl (fun ls hl => ?_)
            refine lv_iconst (v := nI 0) hx hb dX10_odds_61 (by decide) ?_
            refine lv_istore (lv' := [(7, .int (nI 0)), (6, .int (nI (2 ^ (N 0 0)))), (5, .int (nI (cntA (fun s => decide (di N s jq nq ≤ N 3 jq)) (2 ^ N 0 0)))), (4, .ref (ta jq)), (0, .ref h), (1, .int (nI jq)), (2, .int (nI nq)), (3, .int m1)]) hx hb dX10_odds_62 hl (by decide) rfl (fun ls hl => ?_)
            have loop64 : ∀ (fuel64 : Nat) (uq : Nat) (kq : Nat), N 0 0 - kq < fuel64 → (uq ≤ 64) → (kq ≤ N 0 0) → (lt_ uq (2 ^ (N 0 0 - kq)) M9 = lt_ (cntA (fun s => decide (di N s jq nq ≤ N 3 jq)) (2 ^ N 0 0)) (2 ^ N 0 0) M9) → ∀ ls : Array Slot, lv_has ls 8 [(0, .ref h), (1, .int (nI jq)), (2, .int (nI nq)), (3, .int m1), (4, .ref (ta jq)), (5, .int (nI uq)), (6, .int (nI (2 ^ (N 0 0 - kq)))), (7, .int (nI kq))] → W p l e (rmz 4 0 0) s m args below meth c s.heap [] 0 0 Q (F0 m 64 ls []) := by
              intro fuel64
              induction fuel64 with
              | zero => intro uq kq hfu; exact absurd hfu (Nat.not_lt_zero _)
              | succ fuel64 ih64 =>
                intro uq kq hfu huq hkq hlt ls hl
                have hkp := pow_le64 (p := N 0 0 - kq) (by omega)
                have hkz : N 0 0 ≤ kq → 2 ^ (N 0 0 - kq) = 1 := fun q => by rw [Nat.sub_eq_zero_of_le q]
                have hke : kq < N 0 0 → 2 ^ (N 0 0 - kq) = 2 * 2 ^ (N 0 0 - (kq + 1)) := fun q => by rw [show N 0 0 - kq = (N 0 0 - (kq + 1)) + 1 by omega, Nat.pow_succ, Nat.mul_comm]
                refine lv_iload hx hb dX10_odds_64 (lv_at hl 7 rfl) ?_
                refine lv_aload_n hx hb dX10_odds_66 rfl (lv_at hl 0 rfl) ?_
                refine va_get (D := D) (ci := 10) (v := .ref (v 0)) (C := RX10) (T := TX10) (N := 8) hx hb hts inX10 hown hK hR9 0 rfl rfl 6 (by decide) (hts _ wd_169) (fun _ h9 => h9) rfl dX10_odds_67 ?_
                refine va_get (D := D) (ci := 8) (v := .int (nI (N 0 0))) (C := RX8) (T := TX8) (N := 6) hx hb hts inX8 hown hK hP 0 rfl rfl 3 (by decide) (hts _ wd_51) (fun _ h9 => h9) rfl dX10_odds_70 ?_
                refine i_icmp_ge (tgt := 101) hx hb (nT (by omega)) (nT (by omega)) dX10_odds_73 (by decide) (fun c_9 => ?_) (fun c_9 => ?_)
                · refine lv_iload_n hx hb dX10_odds_101 rfl (lv_at hl 3 rfl) ?_
                  refine i_if_ne (tgt := 111) hx hb hm1 dX10_odds_102 (by decide) (fun c_10 => ?_) (fun c_10 => ?_)
                  · refine lv_iload hx hb dX10_odds_111 (lv_at hl 6 rfl) ?_
                    refine lv_i2l (v := lN (2 ^ (N 0 0 - kq))) hx hb dX10_odds_113 (nI_l (by omega)) ?_
                    refine hret _ _ _ dX10_odds_114 ?_
                    rw [if_pos (by omega)]
                    show _ = lt_ (ocnt N jq nq) (2 ^ N 0 0) M9
                    rw [← sets_ocnt (by omega) (by omega) (by omega), ← hlt, lt_end (by omega), if_neg (by omega)]
                  · refine lv_iload hx hb dX10_odds_105 (lv_at hl 5 rfl) ?_
                    refine lv_i2l (v := lN uq) hx hb dX10_odds_107 (nI_l (by omega)) ?_
                    refine lv_goto (tgt := 114) hx hb dX10_odds_108 (by decide) ?_
                    refine hret _ _ _ dX10_odds_114 ?_
                    rw [if_pos (by omega)]
                    show _ = lt_ (ocnt N jq nq) (2 ^ N 0 0) M9
                    rw [← sets_ocnt (by omega) (by omega) (by omega), ← hlt, lt_end (by omega), if_pos (by omega)]
                · refine lv_iload hx hb dX10_odds_76 (lv_at hl 5 rfl) ?_
                  refine lv_iconst (v := nI 2) hx hb dX10_odds_78 (by decide) ?_
                  refine n_irem hx hb (by omega) (by omega) (by omega) dX10_odds_79 ?_
                  refine i_if_ne (tgt := 101) hx hb (nT (by omega)) dX10_odds_80 (by decide) (fun c_11 => ?_) (fun c_11 => ?_)
                  · refine lv_iload_n hx hb dX10_odds_101 rfl (lv_at hl 3 rfl) ?_
                    refine i_if_ne (tgt := 111) hx hb hm1 dX10_odds_102 (by decide) (fun c_12 => ?_) (fun c_12 => ?_)
                    · refine lv_iload hx hb dX10_odds_111 (lv_at hl 6 rfl) ?_
                      refine lv_i2l (v := lN (2 ^ (N 0 0 - kq))) hx hb dX10_odds_113 (nI_l (by omega)) ?_
                      refine hret _ _ _ dX10_odds_114 ?_
                      rw [if_pos (by omega)]
                      show _ = lt_ (ocnt N jq nq) (2 ^ N 0 0) M9
                      rw [← sets_ocnt (by omega) (by omega) (by omega), ← hlt, lt_end (by omega), if_neg (by omega)]
                    · refine lv_iload hx hb dX10_odds_105 (lv_at hl 5 rfl) ?_
                      refine lv_i2l (v := lN uq) hx hb dX10_odds_107 (nI_l (by omega)) ?_
                      refine lv_goto (tgt := 114) hx hb dX10_odds_108 (by decide) ?_
                      refine hret _ _ _ dX10_odds_114 ?_
                      rw [if_pos (by omega)]
                      show _ = lt_ (ocnt N jq nq) (2 ^ N 0 0) M9
                      rw [← sets_ocnt (by omega) (by omega) (by omega), ← hlt, lt_end (by omega), if_pos (by omega)]
                  · refine lv_iload hx hb dX10_odds_83 (lv_at hl 5 rfl) ?_
                    refine lv_iconst (v := nI 2) hx hb dX10_odds_85 (by decide) ?_
                    refine n_idiv hx hb (by omega) (by omega) (by omega) dX10_odds_86 ?_
                    refine lv_istore (lv' := [(5, .int (nI (uq / 2))), (0, .ref h), (1, .int (nI jq)), (2, .int (nI nq)), (3, .int m1), (4, .ref (ta jq)), (6, .int (nI (2 ^ (N 0 0 - kq)))), (7, .int (nI kq))]) hx hb dX10_odds_87 hl (by decide) rfl (fun ls hl => ?_)
                    refine lv_iload hx hb dX10_odds_89 (lv_at hl 6 rfl) ?_
                    refine lv_iconst (v := nI 2) hx hb dX10_odds_91 (by decide) ?_
                    refine n_idiv hx hb (by omega) (by omega) (by omega) dX10_odds_92 ?_
                    refine lv_istore (lv' := [(6, .int (nI ((2 ^ (N 0 0 - kq)) / 2))), (5, .int (nI (uq / 2))), (0, .ref h), (1, .int (nI jq)), (2, .int (nI nq)), (3, .int m1), (4, .ref (ta jq)), (7, .int (nI kq))]) hx hb dX10_odds_93 hl (by decide) rfl (fun ls hl => ?_)
                    have hk1 : kq < N 0 0 := by omega
                    have hk2 : 2 ^ (N 0 0 - kq) / 2 = 2 ^ (N 0 0 - (kq + 1)) := by have := hke hk1; omega
                    have hk3 : 2 ^ (N 0 0 - kq) % 2 = 0 := by have := hke hk1; omega
                    rw [hk2] at hl
                    refine n_iinc (lv' := [(7, .int (nI (kq + 1))), (6, .int (nI (2 ^ (N 0 0 - (kq + 1))))), (5, .int (nI (uq / 2))), (0, .ref h), (1, .int (nI jq)), (2, .int (nI nq)), (3, .int m1), (4, .ref (ta jq))]) (k := 7) (d := 1) hx hb dX10_odds_95 hl rfl rfl (by decide) rfl (fun ls hl => ?_)
                    refine lv_goto (tgt := 64) hx hb dX10_odds_98 (by decide) ?_
                    exact ih64 (uq / 2) (kq + 1) (by omega) (by omega) (by omega) (by rw [← hlt, ← hk2]; exact lt_half (by omega) (by omega) (Nat.two_pow_pos _)) ls (lv_sub hl [3, 4, 5, 6, 7, 2, 1, 0] rfl)
            exact loop64 _ (cntA (fun s => decide (di N s jq nq ≤ N 3 jq)) (2 ^ N 0 0)) 0 (Nat.lt_succ_self _) (by omega) (Nat.zero_le _) rfl ls (lv_sub hl [4, 5, 6, 7, 3, 2, 1, 0] rfl)
          · refine lv_ldc2 (v := (-9223372036854775808 : Int64)) hx hb hown (hts _ wd_549) dX10_odds_34 ?_
            refine hret _ _ _ dX10_odds_37 ?_
            rw [if_neg (by omega)]
  · rw [if_neg ct_2]
    refine W.eq (g2 := F0 m 8 ls [.null]) rfl ?_
    refine lv_astoreN (lv' := [(4, .null), (0, .ref h), (1, .int k), (2, .int q), (3, .int m1)]) hx hb dX10_odds_8 hl (by decide) rfl (fun ls hl => ?_)
    refine lv_aloadN hx hb dX10_odds_10 (lv_at hl 0 rfl) ?_
    refine lv_ifnullN (tgt := 34) hx hb dX10_odds_12 (by decide) ?_
    refine lv_ldc2 (v := (-9223372036854775808 : Int64)) hx hb hown (hts _ wd_549) dX10_odds_34 ?_
    refine hret _ _ _ dX10_odds_37 ?_
    rw [if_neg (by omega)]
