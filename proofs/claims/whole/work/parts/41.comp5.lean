set_option maxRecDepth 100000 in
set_option maxHeartbeats 4000000 in
theorem c_X0_answer (l : Launch) (D : va_G) (ka : Nat → ClassId) (b : Nat → Nat) (cnt : Nat) (tq bq eq : Nat → Int32) (Aq Mq Zq : Nat → Nat) (hA : ∀ p, p < cnt → tq p = nI (Aq p) ∧ Aq p < 5) (hM : ∀ p, p < cnt → bq p = nI (Mq p) ∧ Mq p < 60) (hE9 : ∀ p, p < cnt → eq p = nI (Mq p + Zq p) ∧ Zq p ≤ 40) (hct : cnt ≤ 20) (v ta : Nat → Nat) (N : NN) (wf df : Nat → Int32) (tf : Nat → Option Nat) (hV : VR N ta wf df tf) (hN : WF N) (w2 : Int32) (W9 : Int) (hw2 : w2.toInt = W9) (hok : (0 ≤ W9 ∧ W9 ≤ 3) ∨ (10 ≤ W9 ∧ W9 ≤ 14)) : RO l D ka yX0_answer cX0_answer 4 (some .int) 2 [.ref (b 0), .ref (v 0), .int w2] (fun H => (va_P D vwCl (([(b 0, .inr (0, [.ref (b 1), .ref (b 2), .ref (b 3), .int (nI cnt)])), (b 1, .inl (ka 0, 20, .inl (tq))), (b 2, .inl (ka 0, 20, .inl (bq))), (b 3, .inl (ka 0, 20, .inl (eq)))] : va_W) ++ ([] : va_W)) H ∧ va_P D vwCl (kw ka v ta N wf df tf) H)) (vp_Si (fun r => r = nightZ (N 0 1) Aq Mq Zq cnt W9)) := by
  refine RO.ofI (by decide) (Nat.le_of_ble_eq_true rfl) ?_
  intro p e s m args below meth c Q X hP hret ls hl
  obtain ⟨hx, hb, hml, hown, hts, hE⟩ := id X
  have hK := hE.1
  have hl : lv_has ls 4 [(0, .ref (b 0)), (1, .ref (v 0)), (2, .int w2)] := hl
  obtain ⟨hR9, hP⟩ := hP
  have hN1 := hN.1
  refine lv_aload_n hx hb dX0_answer_0 rfl (lv_at hl 0 rfl) ?_
  refine vp_callSi (ro_runV (c_X0_firstWrong l D ka b cnt tq bq eq Aq Mq Zq hA hM hE9 hct) X wd_445 wd_442 wd_443 wd_444 wd_5 on_X0_firstWrong ⟨Nat.le_of_ble_eq_true rfl, Nat.le_of_ble_eq_true rfl⟩ (va_recv hK hR9 (ci := 0) (q0 := 0) rfl rfl) hR9 hl.1 rfl (Nat.le_of_ble_eq_true rfl) ⟨(Nat.zero_le _), (Nat.zero_le _)⟩ dX0_answer_1) (fun r_1 hr_1 => ?_)
  subst hr_1
  cases hf : fw (wrg Aq Mq Zq) cnt with
  | none =>
    refine W.eq (g2 := F0 m 4 ls [.int (-9)]) rfl ?_
    refine lv_istore_n (lv' := [(3, .int (-9)), (0, .ref (b 0)), (1, .ref (v 0)), (2, .int w2)]) hx hb dX0_answer_4 rfl hl (by decide) rfl (fun ls hl => ?_)
    refine lv_iload_n hx hb dX0_answer_5 rfl (lv_at hl 3 rfl) ?_
    refine lv_iconst (v := nI 1) hx hb dX0_answer_6 (by decide) ?_
    refine i_icmp_ne (tgt := 12) hx hb hw2 (nT (by decide)) dX0_answer_7 (by decide) (fun c_2 => ?_) (fun c_2 => ?_)
    · refine lv_iload_n hx hb dX0_answer_12 rfl (lv_at hl 0 rfl) ?_
      refine lv_bipush (v := (-9)) hx hb dX0_answer_13 (by decide) ?_
      refine i_icmp_eq (tgt := 23) hx hb ng9 ng9 dX0_answer_15 (by decide) (fun c_3 => ?_) (fun c_3 => absurd rfl c_3)
      refine lv_iload_n hx hb dX0_answer_23 rfl (lv_at hl 3 rfl) ?_
      have hT_4 : w2.toInt = W9 := hw2
      by_cases cs_5 : W9 = 0
      · refine lv_tableIn (off := 32) (tgt := 56) hx hb dX0_answer_24 (by rw [hT_4, cs_5]; decide) (by rw [hT_4, cs_5]; decide) (by rw [hT_4, cs_5]; rfl) (by decide) ?_
        refine lv_aload_n hx hb dX0_answer_56 rfl (lv_at hl 1 rfl) ?_
        refine vp_callSi (ro_runV (c_X0_minutesOfAll l D ka b cnt tq bq eq Aq Mq Zq hA hM hE9 hct) X wd_453 wd_450 wd_451 wd_452 wd_5 on_X0_minutesOfAll ⟨Nat.le_of_ble_eq_true rfl, Nat.le_of_ble_eq_true rfl⟩ (va_recv hK hR9 (ci := 0) (q0 := 0) rfl rfl) hR9 hl.1 rfl (Nat.le_of_ble_eq_true rfl) ⟨(Nat.zero_le _), (Nat.zero_le _)⟩ dX0_answer_57) (fun r_6 hr_6 => ?_)
        subst hr_6
        refine hret _ _ _ dX0_answer_60 ?_
        unfold nightZ
        rw [if_neg (by omega), hf]
        show _ = nAns _ _ _ _ _ _
        unfold nAns
        rw [if_pos (by omega)]
      by_cases cs_8 : W9 = 2
      · refine lv_tableIn (off := 37) (tgt := 61) hx hb dX0_answer_24 (by rw [hT_4, cs_8]; decide) (by rw [hT_4, cs_8]; decide) (by rw [hT_4, cs_8]; rfl) (by decide) ?_
        refine lv_aload_n hx hb dX0_answer_61 rfl (lv_at hl 1 rfl) ?_
        refine vp_callSi (ro_runV (c_X0_latestEnd l D ka b cnt tq bq eq Aq Mq Zq hA hM hE9 hct) X wd_457 wd_454 wd_455 wd_456 wd_5 on_X0_latestEnd ⟨Nat.le_of_ble_eq_true rfl, Nat.le_of_ble_eq_true rfl⟩ (va_recv hK hR9 (ci := 0) (q0 := 0) rfl rfl) hR9 hl.1 rfl (Nat.le_of_ble_eq_true rfl) ⟨(Nat.zero_le _), (Nat.zero_le _)⟩ dX0_answer_62) (fun r_9 hr_9 => ?_)
        subst hr_9
        refine hret _ _ _ dX0_answer_65 ?_
        unfold nightZ
        rw [if_neg (by omega), hf]
        show _ = nAns _ _ _ _ _ _
        unfold nAns
        rw [if_neg (by omega), if_pos (by omega)]
      by_cases cs_10 : W9 = 3
      · refine lv_tableIn (off := 42) (tgt := 66) hx hb dX0_answer_24 (by rw [hT_4, cs_10]; decide) (by rw [hT_4, cs_10]; decide) (by rw [hT_4, cs_10]; rfl) (by decide) ?_
        refine lv_aload_n hx hb dX0_answer_66 rfl (lv_at hl 1 rfl) ?_
        refine vp_callSi (ro_runV (c_X0_mostAtOnce l D ka b cnt tq bq eq Aq Mq Zq hA hM hE9 hct) X wd_462 wd_459 wd_460 wd_461 wd_5 on_X0_mostAtOnce ⟨Nat.le_of_ble_eq_true rfl, Nat.le_of_ble_eq_true rfl⟩ (va_recv hK hR9 (ci := 0) (q0 := 0) rfl rfl) hR9 hl.1 rfl (Nat.le_of_ble_eq_true rfl) ⟨(Nat.zero_le _), (Nat.zero_le _)⟩ dX0_answer_67) (fun r_11 hr_11 => ?_)
        subst hr_11
        refine hret _ _ _ dX0_answer_70 ?_
        unfold nightZ
        rw [if_neg (by omega), hf]
        show _ = nAns _ _ _ _ _ _
        unfold nAns
        rw [if_neg (by omega), if_neg (by omega), if_pos (by omega)]
      refine lv_tableOut (tgt := 71) hx hb dX0_answer_24 (by rw [hT_4]; omega) (by decide) ?_
      obtain ⟨wq, hwl, hwq, hWq⟩ := nat_ofK (n := 15) hw2 (by omega) (by omega)
      refine lv_aload_n hx hb dX0_answer_71 rfl (lv_at hl 2 rfl) ?_
      refine lv_iload_n hx hb dX0_answer_72 rfl (lv_at hl 3 rfl) ?_
      refine lv_bipush (v := nI 10) hx hb dX0_answer_73 (by decide) ?_
      refine lv_isub hx hb dX0_answer_75 ?_
      rw [show w2 - nI 10 = nI (wq - 10) by rw [hwq, pk_sub (by omega)]]
      refine va_csq (ro_runV (c_X8_takerAt l D ka v ta N wf df tf hV hN (nI (wq - 10)) _ (nT (by omega))) X wd_311 wd_435 wd_309 wd_310 wd_3 on_X8_takerAt ⟨Nat.le_of_ble_eq_true rfl, Nat.le_of_ble_eq_true rfl⟩ (va_recv hK hP (ci := 8) (q0 := 0) rfl rfl) hP hl.1 rfl (Nat.le_of_ble_eq_true rfl) ⟨(Nat.zero_le _), (Nat.zero_le _)⟩ dX0_answer_76) (fun r_12 hr_12 => ?_)
      subst hr_12
      by_cases cw : wq - 10 < N 0 1
      · rw [if_pos (by omega)]
        refine W.eq (g2 := F0 m 79 ls [.ref (ta (wq - 10))]) rfl ?_
        refine lv_ifnonnull (tgt := 87) hx hb dX0_answer_79 (by decide) ?_
        refine lv_aload_n hx hb dX0_answer_87 rfl (lv_at hl 1 rfl) ?_
        refine lv_iload_n hx hb dX0_answer_88 rfl (lv_at hl 3 rfl) ?_
        refine lv_bipush (v := nI 10) hx hb dX0_answer_89 (by decide) ?_
        refine lv_isub hx hb dX0_answer_91 ?_
        rw [show w2 - nI 10 = nI (wq - 10) by rw [hwq, pk_sub (by omega)]]
        refine vp_callSi (ro_runV (c_X0_minutesOf l D ka b cnt tq bq eq Aq Mq Zq hA hM hE9 hct (wq - 10) (by omega)) X wd_470 wd_467 wd_468 wd_469 wd_5 on_X0_minutesOf ⟨Nat.le_of_ble_eq_true rfl, Nat.le_of_ble_eq_true rfl⟩ (va_recv hK hR9 (ci := 0) (q0 := 0) rfl rfl) hR9 hl.1 rfl (Nat.le_of_ble_eq_true rfl) ⟨(Nat.zero_le _), (Nat.zero_le _)⟩ dX0_answer_92) (fun r_13 hr_13 => ?_)
        subst hr_13
        refine hret _ _ _ dX0_answer_95 ?_
        unfold nightZ
        rw [if_neg (by omega), hf]
        show _ = nAns _ _ _ _ _ _
        unfold nAns
        rw [if_neg (by omega), if_neg (by omega), if_neg (by omega), if_pos (by omega), show (W9 - 10).toNat = wq - 10 by omega]
      · rw [if_neg (by omega)]
        refine W.eq (g2 := F0 m 79 ls [.null]) rfl ?_
        refine lv_ifnonnullN hx hb dX0_answer_79 ?_
        refine lv_bipush (v := (-9)) hx hb dX0_answer_82 (by decide) ?_
        refine lv_goto (tgt := 95) hx hb dX0_answer_84 (by decide) ?_
        refine hret _ _ _ dX0_answer_95 ?_
        unfold nightZ
        rw [if_neg (by omega), hf]
        show _ = nAns _ _ _ _ _ _
        unfold nAns
        rw [if_neg (by omega), if_neg (by omega), if_neg (by omega), if_neg (by omega)]
    · refine lv_iload_n hx hb dX0_answer_10 rfl (lv_at hl 0 rfl) ?_
      refine hret _ _ _ dX0_answer_11 ?_
      unfold nightZ
      rw [if_pos (by omega), hf]; rfl
  | some px =>
    refine W.eq (g2 := F0 m 4 ls [.int (nI px)]) rfl ?_
    have hpx := fw_lt hf
    refine lv_istore_n (lv' := [(3, .int (nI px)), (0, .ref (b 0)), (1, .ref (v 0)), (2, .int w2)]) hx hb dX0_answer_4 rfl hl (by decide) rfl (fun ls hl => ?_)
    refine lv_iload_n hx hb dX0_answer_5 rfl (lv_at hl 3 rfl) ?_
    refine lv_iconst (v := nI 1) hx hb dX0_answer_6 (by decide) ?_
    refine i_icmp_ne (tgt := 12) hx hb hw2 (nT (by decide)) dX0_answer_7 (by decide) (fun c_14 => ?_) (fun c_14 => ?_)
    · refine lv_iload_n hx hb dX0_answer_12 rfl (lv_at hl 0 rfl) ?_
      refine lv_bipush (v := (-9)) hx hb dX0_answer_13 (by decide) ?_
      refine i_icmp_eq (tgt := 23) hx hb (nT (by omega)) ng9 dX0_answer_15 (by decide) (fun c_15 => by omega) (fun c_15 => ?_)
      refine lv_bipush (v := (-100)) hx hb dX0_answer_18 (by decide) ?_
      refine lv_iload_n hx hb dX0_answer_20 rfl (lv_at hl 0 rfl) ?_
      refine lv_isub hx hb dX0_answer_21 ?_
      refine hret _ _ _ dX0_answer_22 ?_
      unfold nightZ
      rw [if_neg (by omega), hf]
    · refine lv_iload_n hx hb dX0_answer_10 rfl (lv_at hl 0 rfl) ?_
      refine hret _ _ _ dX0_answer_11 ?_
      unfold nightZ
      rw [if_pos (by omega), hf]; rfl
set_option maxRecDepth 100000 in
set_option maxHeartbeats 4000000 in
theorem c_X4_isFree (l : Launch) (D : va_G) (ka : Nat → ClassId) (b mr : Nat → Nat) (Mf : Nat → Nat → Nat) (Gf : Nat → Nat) (hMf : ∀ i j, Mf i j ≤ 1000) (hGf : ∀ i, Gf i < 32)  (aq gq tk : Nat) (haq : aq < 5) (hgq : gq < 5) (htk : tk < 32) : RO l D ka yX4_isFree cX4_isFree 4 (some .boolean) 0 [.ref (b 0), .int (nI aq), .int (nI gq), .int (nI tk)] (fun H => va_P D vwCl (sdw ka b mr Mf Gf) H) (vp_Si (fun r => r = bI (Gf aq / 2 ^ gq % 2 = 1 ∧ tk / 2 ^ gq % 2 = 0))) := by
  refine RO.ofZ (by decide) (Nat.le_of_ble_eq_true rfl) ?_
  intro p e s m args below meth c Q X hP hret ls hl
  obtain ⟨hx, hb, hml, hown, hts, hE⟩ := id X
  have hK := hE.1
  have hl : lv_has ls 4 [(0, .ref (b 0)), (1, .int (nI aq)), (2, .int (nI gq)), (3, .int (nI tk))] := hl
  refine lv_aload_n hx hb dX4_isFree_0 rfl (lv_at hl 0 rfl) ?_
  refine va_get (D := D) (ci := 4) (v := .ref (b 2)) (C := RX4) (T := TX4) (N := 2) hx hb hts inX4 hown hK hP 0 rfl rfl 1 (by decide) (hts _ wd_144) (fun _ h9 => h9) rfl dX4_isFree_1 ?_
  refine lv_iload_n hx hb dX4_isFree_4 rfl (lv_at hl 1 rfl) ?_
  refine n_iald hx hb hK hP 2 0 rfl rfl (k := aq) (by omega) (by decide) dX4_isFree_5 ?_
  have hv_1 := hGf aq
  refine lv_iload_n hx hb dX4_isFree_6 rfl (lv_at hl 3 rfl) ?_
  refine lv_iconst (v := (-1)) hx hb dX4_isFree_7 (by decide) ?_
  refine lv_ixor hx hb dX4_isFree_8 ?_
  refine lv_iand hx hb dX4_isFree_9 ?_
  refine lv_iconst (v := nI 1) hx hb dX4_isFree_10 (by decide) ?_
  refine lv_iload_n hx hb dX4_isFree_11 rfl (lv_at hl 2 rfl) ?_
  refine lv_ishl hx hb dX4_isFree_12 ?_
  rw [n_shl (a := 1) (k := gq) (by omega) (Nat.lt_of_le_of_lt (by rw [Nat.one_mul]; exact Nat.pow_le_pow_right (by decide) (show gq ≤ 31 by omega)) (by decide))]
  refine lv_iand hx hb dX4_isFree_13 ?_
  refine i_if_eq (tgt := 21) hx hb rfl dX4_isFree_14 (by decide) (fun c_2 => ?_) (fun c_2 => ?_)
  · refine lv_iconst (v := nI 0) hx hb dX4_isFree_21 (by decide) ?_
    refine hret _ _ _ dX4_isFree_22 (by decide) ?_
    have hfb := free_bits (Gf aq) (hGf aq) tk htk gq hgq
    exact (bI_f (hfb.mp (ii_eq.mpr c_2))).symm
  · refine lv_iconst (v := nI 1) hx hb dX4_isFree_17 (by decide) ?_
    refine lv_goto (tgt := 22) hx hb dX4_isFree_18 (by decide) ?_
    refine hret _ _ _ dX4_isFree_22 (by decide) ?_
    have hfb := free_bits (Gf aq) (hGf aq) tk htk gq hgq
    exact (bI_t (Decidable.not_not.mp (fun q => c_2 (ii_eq.mp (hfb.mpr q))))).symm
set_option maxRecDepth 100000 in
set_option maxHeartbeats 4000000 in
theorem c_X4_withGood (l : Launch) (D : va_G) (ka : Nat → ClassId) (b mr : Nat → Nat) (Mf : Nat → Nat → Nat) (Gf : Nat → Nat) (hMf : ∀ i j, Mf i j ≤ 1000) (hGf : ∀ i, Gf i < 32) (v ta : Nat → Nat) (N : NN) (wf df : Nat → Int32) (tf : Nat → Option Nat) (hV : VR N ta wf df tf) (hN : WF N) (aq gq tk : Nat) (haq : aq < 5) (hgq : gq < 5) (hg2 : gq < N 0 2) (htk : tk < 32) : RO l D ka yX4_withGood cX4_withGood 5 (some .int) 0 [.ref (b 0), .ref (v 0), .int (nI aq), .int (nI gq), .int (nI tk)] (fun H => (va_P D vwCl (sdw ka b mr Mf Gf) H ∧ va_P D vwCl (kw ka v ta N wf df tf) H)) (vp_Si (fun r => r = nI (N 5 gq + Mf (aq + 1) (tk ||| 2 ^ gq)))) := by
  refine RO.ofI (by decide) (Nat.le_of_ble_eq_true rfl) ?_
  intro p e s m args below meth c Q X hP hret ls hl
  obtain ⟨hx, hb, hml, hown, hts, hE⟩ := id X
  have hK := hE.1
  have hl : lv_has ls 5 [(0, .ref (b 0)), (1, .ref (v 0)), (2, .int (nI aq)), (3, .int (nI gq)), (4, .int (nI tk))] := hl
  obtain ⟨hR9, hP⟩ := hP
  have hN1 := hN.1
  refine lv_aload_n hx hb dX4_withGood_0 rfl (lv_at hl 1 rfl) ?_
  refine va_get (D := D) (ci := 8) (v := .ref (v 3)) (C := RX8) (T := TX8) (N := 6) hx hb hts inX8 hown hK hP 0 rfl rfl 2 (by decide) (hts _ wd_47) (fun _ h9 => h9) rfl dX4_withGood_1 ?_
  refine lv_iload_n hx hb dX4_withGood_4 rfl (lv_at hl 3 rfl) ?_
  refine n_iald hx hb hK hP 3 0 rfl rfl (k := gq) (by omega) (by decide) dX4_withGood_5 ?_
  rw [hV.2.1 gq (by omega)]
  have hv_1 := hN.2.2.2.2.2.1 gq
  refine lv_aload_n hx hb dX4_withGood_6 rfl (lv_at hl 0 rfl) ?_
  refine va_get (D := D) (ci := 4) (v := .ref (b 1)) (C := RX4) (T := TX4) (N := 2) hx hb hts inX4 hown hK hR9 0 rfl rfl 0 (by decide) (hts _ wd_143) (fun _ h9 => h9) rfl dX4_withGood_7 ?_
  refine lv_iload_n hx hb dX4_withGood_10 rfl (lv_at hl 2 rfl) ?_
  refine lv_iconst (v := nI 1) hx hb dX4_withGood_11 (by decide) ?_
  refine n_iadd hx hb dX4_withGood_12 ?_
  refine n_aaldA hx hb hK hR9 1 3 rfl rfl (k := aq + 1) (by omega) (by decide) dX4_withGood_13 ?_
  rw [if_pos (show aq + 1 < 6 by omega)]
  refine W.eq (g2 := F0 m 14 ls [.ref (mr (aq + 1)), .int (nI (N 5 gq))]) rfl ?_
  refine lv_iload hx hb dX4_withGood_14 (lv_at hl 4 rfl) ?_
  refine lv_iconst (v := nI 1) hx hb dX4_withGood_16 (by decide) ?_
  refine lv_iload_n hx hb dX4_withGood_17 rfl (lv_at hl 3 rfl) ?_
  refine lv_ishl hx hb dX4_withGood_18 ?_
  rw [n_shl (a := 1) (k := gq) (by omega) (Nat.lt_of_le_of_lt (by rw [Nat.one_mul]; exact Nat.pow_le_pow_right (by decide) (show gq ≤ 31 by omega)) (by decide))]
  refine lv_ior hx hb dX4_withGood_19 ?_
  rw [n_or tk (1 * 2 ^ gq)]
  have hor := or_lt32 htk hgq
  refine n_iald hx hb hK hR9 (3 + (aq + 1)) 0 (sdw_at (a := aq + 1) (by omega)) rfl (k := tk ||| (1 * 2 ^ gq)) (by omega) (by decide) dX4_withGood_20 ?_
  have hv_2 := hMf (aq + 1) (tk ||| (1 * 2 ^ gq))
  refine n_iadd hx hb dX4_withGood_21 ?_
  refine hret _ _ _ dX4_withGood_22 ?_
  rw [Nat.one_mul]
set_option maxRecDepth 100000 in
set_option maxHeartbeats 4000000 in
theorem c_X4_mostWith (l : Launch) (D : va_G) (ka : Nat → ClassId) (b mr : Nat → Nat) (Mf : Nat → Nat → Nat) (Gf : Nat → Nat) (hMf : ∀ i j, Mf i j ≤ 1000) (hGf : ∀ i, Gf i < 32) (v ta : Nat → Nat) (N : NN) (wf df : Nat → Int32) (tf : Nat → Option Nat) (hV : VR N ta wf df tf) (hN : WF N) (aq tk : Nat) (haq : aq < 5) (htk : tk < 32) : RO l D ka yX4_mostWith cX4_mostWith 6 (some .int) 1 [.ref (b 0), .ref (v 0), .int (nI aq), .int (nI tk)] (fun H => (va_P D vwCl (sdw ka b mr Mf Gf) H ∧ va_P D vwCl (kw ka v ta N wf df tf) H)) (vp_Si (fun r => r = nI (mxg (opt Gf (N 5) aq tk (Mf (aq + 1))) (N 0 2) (Mf (aq + 1) tk)))) := by
  refine RO.ofI (by decide) (Nat.le_of_ble_eq_true rfl) ?_
  intro p e s m args below meth c Q X hP hret ls hl
  obtain ⟨hx, hb, hml, hown, hts, hE⟩ := id X
  have hK := hE.1
  have hl : lv_has ls 6 [(0, .ref (b 0)), (1, .ref (v 0)), (2, .int (nI aq)), (3, .int (nI tk))] := hl
  obtain ⟨hR9, hP⟩ := hP
  have hN1 := hN.1
  refine lv_aload_n hx hb dX4_mostWith_0 rfl (lv_at hl 0 rfl) ?_
  refine va_get (D := D) (ci := 4) (v := .ref (b 1)) (C := RX4) (T := TX4) (N := 2) hx hb hts inX4 hown hK hR9 0 rfl rfl 0 (by decide) (hts _ wd_143) (fun _ h9 => h9) rfl dX4_mostWith_1 ?_
  refine lv_iload_n hx hb dX4_mostWith_4 rfl (lv_at hl 2 rfl) ?_
  refine lv_iconst (v := nI 1) hx hb dX4_mostWith_5 (by decide) ?_
  refine n_iadd hx hb dX4_mostWith_6 ?_
  refine n_aaldA hx hb hK hR9 1 3 rfl rfl (k := aq + 1) (by omega) (by decide) dX4_mostWith_7 ?_
  rw [if_pos (show aq + 1 < 6 by omega)]
  refine W.eq (g2 := F0 m 8 ls [.ref (mr (aq + 1))]) rfl ?_
  refine lv_iload_n hx hb dX4_mostWith_8 rfl (lv_at hl 3 rfl) ?_
  refine n_iald hx hb hK hR9 (3 + (aq + 1)) 0 (sdw_at (a := aq + 1) (by omega)) rfl (k := tk) (by omega) (by decide) dX4_mostWith_9 ?_
  have hv_1 := hMf (aq + 1) tk
  refine lv_istore (lv' := [(4, .int (nI (Mf (aq + 1) tk))), (0, .ref (b 0)), (1, .ref (v 0)), (2, .int (nI aq)), (3, .int (nI tk))]) hx hb dX4_mostWith_10 hl (by decide) rfl (fun ls hl => ?_)
  refine lv_iconst (v := nI 0) hx hb dX4_mostWith_12 (by decide) ?_
  refine lv_istore (lv' := [(5, .int (nI 0)), (4, .int (nI (Mf (aq + 1) tk))), (0, .ref (b 0)), (1, .ref (v 0)), (2, .int (nI aq)), (3, .int (nI tk))]) hx hb dX4_mostWith_13 hl (by decide) rfl (fun ls hl => ?_)
  have loop15 : ∀ (fuel15 : Nat) (gq : Nat) (mq : Nat), N 0 2 - gq < fuel15 → (gq ≤ N 0 2) → (mq = mxg (opt Gf (N 5) aq tk (Mf (aq + 1))) gq (Mf (aq + 1) tk)) → ∀ ls : Array Slot, lv_has ls 6 [(0, .ref (b 0)), (1, .ref (v 0)), (2, .int (nI aq)), (3, .int (nI tk)), (4, .int (nI mq)), (5, .int (nI gq))] → W p l e (rmz 1 0 0) s m args below meth c s.heap [] 0 0 Q (F0 m 15 ls []) := by
    intro fuel15
    induction fuel15 with
    | zero => intro gq mq hfu; exact absurd hfu (Nat.not_lt_zero _)
    | succ fuel15 ih15 =>
      intro gq mq hfu hgq hmq ls hl
      have hmb : mq ≤ 1009 := by rw [hmq]; exact mxg_le (fun g v hv => by unfold opt at hv; split at hv; (· cases hv; have := hMf (aq + 1) (tk ||| 2 ^ g); have := hN.2.2.2.2.2.1 g; omega); (· cases hv)) (Nat.le_trans (hMf _ _) (by decide))
      refine lv_iload hx hb dX4_mostWith_15 (lv_at hl 5 rfl) ?_
      refine lv_aload_n hx hb dX4_mostWith_17 rfl (lv_at hl 1 rfl) ?_
      refine va_get (D := D) (ci := 8) (v := .int (nI (N 0 2))) (C := RX8) (T := TX8) (N := 6) hx hb hts inX8 hown hK hP 0 rfl rfl 5 (by decide) (hts _ wd_57) (fun _ h9 => h9) rfl dX4_mostWith_18 ?_
      refine i_icmp_ge (tgt := 57) hx hb (nT (by omega)) (nT (by omega)) dX4_mostWith_21 (by decide) (fun c_2 => ?_) (fun c_2 => ?_)
      · refine lv_iload hx hb dX4_mostWith_57 (lv_at hl 4 rfl) ?_
        refine hret _ _ _ dX4_mostWith_59 ?_
        rw [hmq, show gq = N 0 2 by omega]
      · refine lv_aload_n hx hb dX4_mostWith_24 rfl (lv_at hl 0 rfl) ?_
        refine lv_iload_n hx hb dX4_mostWith_25 rfl (lv_at hl 2 rfl) ?_
        refine lv_iload hx hb dX4_mostWith_26 (lv_at hl 5 rfl) ?_
        refine lv_iload_n hx hb dX4_mostWith_28 rfl (lv_at hl 3 rfl) ?_
        refine vp_callSi (ro_runV (c_X4_isFree l D ka b mr Mf Gf hMf hGf aq gq tk (by omega) (by omega) (by omega)) X wd_496 wd_493 wd_494 wd_495 wd_6 on_X4_isFree ⟨Nat.le_of_ble_eq_true rfl, Nat.le_of_ble_eq_true rfl⟩ (va_recv hK hR9 (ci := 4) (q0 := 0) rfl rfl) hR9 hl.1 rfl (Nat.le_of_ble_eq_true rfl) ⟨(Nat.zero_le _), (Nat.zero_le _)⟩ dX4_mostWith_29) (fun r_3 hr_3 => ?_)
        subst hr_3
        refine b_if_eq (tgt := 51) hx hb dX4_mostWith_32 (by decide) (fun c_4 => ?_) (fun c_4 => ?_)
        · refine n_iinc (lv' := [(5, .int (nI (gq + 1))), (0, .ref (b 0)), (1, .ref (v 0)), (2, .int (nI aq)), (3, .int (nI tk)), (4, .int (nI mq))]) (k := 5) (d := 1) hx hb dX4_mostWith_51 hl rfl rfl (by decide) rfl (fun ls hl => ?_)
          refine lv_goto (tgt := 15) hx hb dX4_mostWith_54 (by decide) ?_
          exact ih15 (gq + 1) mq (by omega) (by omega) (by first | (rw [hmq]; exact mxg_s (if_pos (by omega))) | (rw [hmq]; exact mxg_n (if_neg (by omega)))) ls (lv_sub hl [1, 2, 3, 4, 5, 0] rfl)
        · refine lv_iload hx hb dX4_mostWith_35 (lv_at hl 4 rfl) ?_
          refine lv_aload_n hx hb dX4_mostWith_37 rfl (lv_at hl 0 rfl) ?_
          refine lv_aload_n hx hb dX4_mostWith_38 rfl (lv_at hl 1 rfl) ?_
          refine lv_iload_n hx hb dX4_mostWith_39 rfl (lv_at hl 2 rfl) ?_
          refine lv_iload hx hb dX4_mostWith_40 (lv_at hl 5 rfl) ?_
          refine lv_iload_n hx hb dX4_mostWith_42 rfl (lv_at hl 3 rfl) ?_
          refine vp_callSi (ro_runV (c_X4_withGood l D ka b mr Mf Gf hMf hGf v ta N wf df tf hV hN aq gq tk (by omega) (by omega) (by omega) (by omega)) X wd_500 wd_497 wd_498 wd_499 wd_6 on_X4_withGood ⟨Nat.le_of_ble_eq_true rfl, Nat.le_of_ble_eq_true rfl⟩ (va_recv hK hR9 (ci := 4) (q0 := 0) rfl rfl) ⟨hR9, hP⟩ hl.1 rfl (Nat.le_of_ble_eq_true rfl) ⟨(Nat.zero_le _), (Nat.zero_le _)⟩ dX4_mostWith_43) (fun r_6 hr_6 => ?_)
          subst hr_6
          have hb9_5 := hMf (aq + 1) (tk ||| 2 ^ gq)
          have hb9_5d := hN.2.2.2.2.2.1 gq
          refine va_mmax hx hb (hml.trans hl.1.symm) hown (hts _ wd_501) (hts _ wd_367) (hts _ wd_12) (hts _ wd_368) (Nat.le_of_ble_eq_true rfl) (Nat.le_of_ble_eq_true rfl) (Nat.zero_le _) (Nat.zero_le _) dX4_mostWith_46 ?_
          rw [n_max (a := mq) (b := N 5 gq + Mf (aq + 1) (tk ||| 2 ^ gq)) (by omega) (by omega)]
          refine lv_istore (lv' := [(4, .int (nI (max mq (N 5 gq + Mf (aq + 1) (tk ||| 2 ^ gq))))), (0, .ref (b 0)), (1, .ref (v 0)), (2, .int (nI aq)), (3, .int (nI tk)), (5, .int (nI gq))]) hx hb dX4_mostWith_49 hl (by decide) rfl (fun ls hl => ?_)
          refine n_iinc (lv' := [(5, .int (nI (gq + 1))), (4, .int (nI (max mq (N 5 gq + Mf (aq + 1) (tk ||| 2 ^ gq))))), (0, .ref (b 0)), (1, .ref (v 0)), (2, .int (nI aq)), (3, .int (nI tk))]) (k := 5) (d := 1) hx hb dX4_mostWith_51 hl rfl rfl (by decide) rfl (fun ls hl => ?_)
          refine lv_goto (tgt := 15) hx hb dX4_mostWith_54 (by decide) ?_
          exact ih15 (gq + 1) (max mq (N 5 gq + Mf (aq + 1) (tk ||| 2 ^ gq))) (by omega) (by omega) (by first | (rw [hmq]; exact mxg_s (if_pos (by omega))) | (rw [hmq]; exact mxg_n (if_neg (by omega)))) ls (lv_sub hl [2, 3, 4, 5, 1, 0] rfl)
  exact loop15 _ 0 (Mf (aq + 1) tk) (Nat.lt_succ_self _) (by omega) rfl ls (lv_sub hl [2, 3, 4, 5, 1, 0] rfl)
set_option maxRecDepth 100000 in
set_option maxHeartbeats 4000000 in
theorem c_X4_most (l : Launch) (D : va_G) (ka : Nat → ClassId) (b mr : Nat → Nat) (Mf : Nat → Nat → Nat) (Gf : Nat → Nat) (hMf : ∀ i j, Mf i j ≤ 1000) (hGf : ∀ i, Gf i < 32)  : RO l D ka yX4_most cX4_most 1 (some .int) 0 [.ref (b 0)] (fun H => va_P D vwCl (sdw ka b mr Mf Gf) H) (vp_Si (fun r => r = nI (Mf 0 0))) := by
  refine RO.ofI (by decide) (Nat.le_of_ble_eq_true rfl) ?_
  intro p e s m args below meth c Q X hP hret ls hl
  obtain ⟨hx, hb, hml, hown, hts, hE⟩ := id X
  have hK := hE.1
  have hl : lv_has ls 1 [(0, .ref (b 0))] := hl
  refine lv_aload_n hx hb dX4_most_0 rfl (lv_at hl 0 rfl) ?_
  refine va_get (D := D) (ci := 4) (v := .ref (b 1)) (C := RX4) (T := TX4) (N := 2) hx hb hts inX4 hown hK hP 0 rfl rfl 0 (by decide) (hts _ wd_143) (fun _ h9 => h9) rfl dX4_most_1 ?_
  refine lv_iconst (v := nI 0) hx hb dX4_most_4 (by decide) ?_
  refine n_aaldA hx hb hK hP 1 3 rfl rfl (k := 0) (by omega) (by decide) dX4_most_5 ?_
  rw [if_pos (show 0 < 6 by omega)]
  refine W.eq (g2 := F0 m 6 ls [.ref (mr 0)]) rfl ?_
  refine lv_iconst (v := nI 0) hx hb dX4_most_6 (by decide) ?_
  refine n_iald hx hb hK hP (3 + 0) 0 (sdw_at (a := 0) (by omega)) rfl (k := 0) (by omega) (by decide) dX4_most_7 ?_
  have hv_1 := hMf 0 0
  refine hret _ _ _ dX4_most_8 ?_
  rfl
set_option maxRecDepth 100000 in
set_option maxHeartbeats 4000000 in
theorem c_X4_firstGood (l : Launch) (D : va_G) (ka : Nat → ClassId) (b mr : Nat → Nat) (Mf : Nat → Nat → Nat) (Gf : Nat → Nat) (hMf : ∀ i j, Mf i j ≤ 1000) (hGf : ∀ i, Gf i < 32) (v ta : Nat → Nat) (N : NN) (wf df : Nat → Int32) (tf : Nat → Option Nat) (hV : VR N ta wf df tf) (hN : WF N) (aq tk : Nat) (haq : aq < 5) (htk : tk < 32) : RO l D ka yX4_firstGood cX4_firstGood 5 (some .int) 1 [.ref (b 0), .ref (v 0), .int (nI aq), .int (nI tk)] (fun H => (va_P D vwCl (sdw ka b mr Mf Gf) H ∧ va_P D vwCl (kw ka v ta N wf df tf) H)) (vp_Si (fun r => r = gno (N 0 2) (fgd Gf (N 5) Mf (N 0 2) aq tk))) := by
  refine RO.ofI (by decide) (Nat.le_of_ble_eq_true rfl) ?_
  intro p e s m args below meth c Q X hP hret ls hl
  obtain ⟨hx, hb, hml, hown, hts, hE⟩ := id X
  have hK := hE.1
  have hl : lv_has ls 5 [(0, .ref (b 0)), (1, .ref (v 0)), (2, .int (nI aq)), (3, .int (nI tk))] := hl
  obtain ⟨hR9, hP⟩ := hP
  have hN1 := hN.1
  refine lv_iconst (v := nI 0) hx hb dX4_firstGood_0 (by decide) ?_
  refine lv_istore (lv' := [(4, .int (nI 0)), (0, .ref (b 0)), (1, .ref (v 0)), (2, .int (nI aq)), (3, .int (nI tk))]) hx hb dX4_firstGood_1 hl (by decide) rfl (fun ls hl => ?_)
  have loop3 : ∀ (fuel3 : Nat) (gq : Nat), N 0 2 - gq < fuel3 → (gq ≤ N 0 2) → (∀ j, j < gq → (fgp Gf (N 5) Mf aq tk) j = false) → ∀ ls : Array Slot, lv_has ls 5 [(0, .ref (b 0)), (1, .ref (v 0)), (2, .int (nI aq)), (3, .int (nI tk)), (4, .int (nI gq))] → W p l e (rmz 1 0 0) s m args below meth c s.heap [] 0 0 Q (F0 m 3 ls []) := by
    intro fuel3
    induction fuel3 with
    | zero => intro gq hfu; exact absurd hfu (Nat.not_lt_zero _)
    | succ fuel3 ih3 =>
      intro gq hfu hgq hno9 ls hl
      refine lv_iload hx hb dX4_firstGood_3 (lv_at hl 4 rfl) ?_
      refine lv_aload_n hx hb dX4_firstGood_5 rfl (lv_at hl 1 rfl) ?_
      refine va_get (D := D) (ci := 8) (v := .int (nI (N 0 2))) (C := RX8) (T := TX8) (N := 6) hx hb hts inX8 hown hK hP 0 rfl rfl 5 (by decide) (hts _ wd_57) (fun _ h9 => h9) rfl dX4_firstGood_6 ?_
      refine i_icmp_ge (tgt := 52) hx hb (nT (by omega)) (nT (by omega)) dX4_firstGood_9 (by decide) (fun c_1 => ?_) (fun c_1 => ?_)
      · refine lv_bipush (v := (-9)) hx hb dX4_firstGood_52 (by decide) ?_
        refine hret _ _ _ dX4_firstGood_54 ?_
        unfold fgd gno
        rw [show gq = N 0 2 by omega] at hno9
        rw [fdx_none hno9, if_neg (Nat.lt_irrefl _)]
      · refine lv_aload_n hx hb dX4_firstGood_12 rfl (lv_at hl 0 rfl) ?_
        refine lv_iload_n hx hb dX4_firstGood_13 rfl (lv_at hl 2 rfl) ?_
        refine lv_iload hx hb dX4_firstGood_14 (lv_at hl 4 rfl) ?_
        refine lv_iload_n hx hb dX4_firstGood_16 rfl (lv_at hl 3 rfl) ?_
        refine vp_callSi (ro_runV (c_X4_isFree l D ka b mr Mf Gf hMf hGf aq gq tk (by omega) (by omega) (by omega)) X wd_496 wd_493 wd_494 wd_495 wd_6 on_X4_isFree ⟨Nat.le_of_ble_eq_true rfl, Nat.le_of_ble_eq_true rfl⟩ (va_recv hK hR9 (ci := 4) (q0 := 0) rfl rfl) hR9 hl.1 rfl (Nat.le_of_ble_eq_true rfl) ⟨(Nat.zero_le _), (Nat.zero_le _)⟩ dX4_firstGood_17) (fun r_2 hr_2 => ?_)
        subst hr_2
        refine b_if_eq (tgt := 46) hx hb dX4_firstGood_20 (by decide) (fun c_3 => ?_) (fun c_3 => ?_)
        · refine n_iinc (lv' := [(4, .int (nI (gq + 1))), (0, .ref (b 0)), (1, .ref (v 0)), (2, .int (nI aq)), (3, .int (nI tk))]) (k := 4) (d := 1) hx hb dX4_firstGood_46 hl rfl rfl (by decide) rfl (fun ls hl => ?_)
          refine lv_goto (tgt := 3) hx hb dX4_firstGood_49 (by decide) ?_
          exact ih3 (gq + 1) (by omega) (by omega) (fun j hj => by
                rcases Nat.lt_or_ge j gq with q | q
                · exact hno9 j q
                · have : j = gq := by omega
                  subst this
                  unfold fgp opt
                  first | (rw [if_neg (by assumption)]; rfl) | (rw [if_pos (by assumption)]; simp; omega)) ls (lv_sub hl [1, 2, 3, 4, 0] rfl)
        · refine lv_aload_n hx hb dX4_firstGood_23 rfl (lv_at hl 0 rfl) ?_
          refine lv_aload_n hx hb dX4_firstGood_24 rfl (lv_at hl 1 rfl) ?_
          refine lv_iload_n hx hb dX4_firstGood_25 rfl (lv_at hl 2 rfl) ?_
          refine lv_iload hx hb dX4_firstGood_26 (lv_at hl 4 rfl) ?_
          refine lv_iload_n hx hb dX4_firstGood_28 rfl (lv_at hl 3 rfl) ?_
          refine vp_callSi (ro_runV (c_X4_withGood l D ka b mr Mf Gf hMf hGf v ta N wf df tf hV hN aq gq tk (by omega) (by omega) (by omega) (by omega)) X wd_500 wd_497 wd_498 wd_499 wd_6 on_X4_withGood ⟨Nat.le_of_ble_eq_true rfl, Nat.le_of_ble_eq_true rfl⟩ (va_recv hK hR9 (ci := 4) (q0 := 0) rfl rfl) ⟨hR9, hP⟩ hl.1 rfl (Nat.le_of_ble_eq_true rfl) ⟨(Nat.zero_le _), (Nat.zero_le _)⟩ dX4_firstGood_29) (fun r_5 hr_5 => ?_)
          subst hr_5
          have hb9_4 := hMf (aq + 1) (tk ||| 2 ^ gq)
          have hb9_4d := hN.2.2.2.2.2.1 gq
          refine lv_aload_n hx hb dX4_firstGood_32 rfl (lv_at hl 0 rfl) ?_
          refine va_get (D := D) (ci := 4) (v := .ref (b 1)) (C := RX4) (T := TX4) (N := 2) hx hb hts inX4 hown hK hR9 0 rfl rfl 0 (by decide) (hts _ wd_143) (fun _ h9 => h9) rfl dX4_firstGood_33 ?_
          refine lv_iload_n hx hb dX4_firstGood_36 rfl (lv_at hl 2 rfl) ?_
          refine n_aaldA hx hb hK hR9 1 3 rfl rfl (k := aq) (by omega) (by decide) dX4_firstGood_37 ?_
          rw [if_pos (show aq < 6 by omega)]
          refine W.eq (g2 := F0 m 38 ls [.ref (mr aq), .int (nI (N 5 gq + Mf (aq + 1) (tk ||| 2 ^ gq)))]) rfl ?_
          refine lv_iload_n hx hb dX4_firstGood_38 rfl (lv_at hl 3 rfl) ?_
          refine n_iald hx hb hK hR9 (3 + aq) 0 (sdw_at (a := aq) (by omega)) rfl (k := tk) (by omega) (by decide) dX4_firstGood_39 ?_
          have hv_6 := hMf aq tk
          refine i_icmp_ne (tgt := 46) hx hb (nT (by omega)) (nT (by omega)) dX4_firstGood_40 (by decide) (fun c_7 => ?_) (fun c_7 => ?_)
          · refine n_iinc (lv' := [(4, .int (nI (gq + 1))), (0, .ref (b 0)), (1, .ref (v 0)), (2, .int (nI aq)), (3, .int (nI tk))]) (k := 4) (d := 1) hx hb dX4_firstGood_46 hl rfl rfl (by decide) rfl (fun ls hl => ?_)
            refine lv_goto (tgt := 3) hx hb dX4_firstGood_49 (by decide) ?_
            exact ih3 (gq + 1) (by omega) (by omega) (fun j hj => by
                  rcases Nat.lt_or_ge j gq with q | q
                  · exact hno9 j q
                  · have : j = gq := by omega
                    subst this
                    unfold fgp opt
                    first | (rw [if_neg (by assumption)]; rfl) | (rw [if_pos (by assumption)]; simp; omega)) ls (lv_sub hl [1, 2, 3, 4, 0] rfl)
          · refine lv_iload hx hb dX4_firstGood_43 (lv_at hl 4 rfl) ?_
            refine hret _ _ _ dX4_firstGood_45 ?_
            unfold fgd gno
            have hy9 : (fgp Gf (N 5) Mf aq tk) gq = true := by unfold fgp opt; rw [if_pos (by assumption)]; simp; omega
            rw [fdx_first (by omega) hy9 hno9, if_pos (by omega)]
  exact loop3 _ 0 (Nat.lt_succ_self _) (by omega) (fun j hj => absurd hj (Nat.not_lt_zero _)) ls (lv_sub hl [1, 2, 3, 4, 0] rfl)
set_option maxRecDepth 100000 in
set_option maxHeartbeats 4000000 in
theorem c_X4_goodOf (l : Launch) (D : va_G) (ka : Nat → ClassId) (b mr : Nat → Nat) (Mf : Nat → Nat → Nat) (Gf : Nat → Nat) (hMf : ∀ i j, Mf i j ≤ 1000) (hGf : ∀ i, Gf i < 32) (v ta : Nat → Nat) (N : NN) (wf df : Nat → Int32) (tf : Nat → Option Nat) (hV : VR N ta wf df tf) (hN : WF N) (kq : Nat) (hkq : kq < 5) : RO l D ka yX4_goodOf cX4_goodOf 6 (some .int) 2 [.ref (b 0), .ref (v 0), .int (nI kq)] (fun H => (va_P D vwCl (sdw ka b mr Mf Gf) H ∧ va_P D vwCl (kw ka v ta N wf df tf) H)) (vp_Si (fun r => r = gdo Gf (N 5) Mf (N 0 2) (N 0 1) kq)) := by
  refine RO.ofI (by decide) (Nat.le_of_ble_eq_true rfl) ?_
  intro p e s m args below meth c Q X hP hret ls hl
  obtain ⟨hx, hb, hml, hown, hts, hE⟩ := id X
  have hK := hE.1
  have hl : lv_has ls 6 [(0, .ref (b 0)), (1, .ref (v 0)), (2, .int (nI kq))] := hl
  obtain ⟨hR9, hP⟩ := hP
  have hN1 := hN.1
  refine lv_iconst (v := nI 0) hx hb dX4_goodOf_0 (by decide) ?_
  refine lv_istore_n (lv' := [(3, .int (nI 0)), (0, .ref (b 0)), (1, .ref (v 0)), (2, .int (nI kq))]) hx hb dX4_goodOf_1 rfl hl (by decide) rfl (fun ls hl => ?_)
  refine lv_bipush (v := (-9)) hx hb dX4_goodOf_2 (by decide) ?_
  refine lv_istore (lv' := [(4, .int (-9)), (3, .int (nI 0)), (0, .ref (b 0)), (1, .ref (v 0)), (2, .int (nI kq))]) hx hb dX4_goodOf_4 hl (by decide) rfl (fun ls hl => ?_)
  refine lv_iconst (v := nI 0) hx hb dX4_goodOf_6 (by decide) ?_
  refine lv_istore (lv' := [(5, .int (nI 0)), (4, .int (-9)), (3, .int (nI 0)), (0, .ref (b 0)), (1, .ref (v 0)), (2, .int (nI kq))]) hx hb dX4_goodOf_7 hl (by decide) rfl (fun ls hl => ?_)
  have loop9 : ∀ (fuel9 : Nat) (aq : Nat) (tk : Nat) (gd : Int32), kq + 1 - aq < fuel9 → (aq ≤ kq + 1) → (tk = tkn Gf (N 5) Mf (N 0 2) (N 0 1) aq) → (0 < aq → gd = gdo Gf (N 5) Mf (N 0 2) (N 0 1) (aq - 1)) → ∀ ls : Array Slot, lv_has ls 6 [(0, .ref (b 0)), (1, .ref (v 0)), (2, .int (nI kq)), (3, .int (nI tk)), (4, .int gd), (5, .int (nI aq))] → W p l e (rmz 2 0 0) s m args below meth c s.heap [] 0 0 Q (F0 m 9 ls []) := by
    intro fuel9
    induction fuel9 with
    | zero => intro aq tk gd hfu; exact absurd hfu (Nat.not_lt_zero _)
    | succ fuel9 ih9 =>
      intro aq tk gd hfu haq htk hgd ls hl
      have htl : tk < 32 := by rw [htk]; exact tkn_lt (by omega) aq
      refine lv_iload hx hb dX4_goodOf_9 (lv_at hl 5 rfl) ?_
      refine lv_iload_n hx hb dX4_goodOf_11 rfl (lv_at hl 2 rfl) ?_
      refine i_icmp_gt (tgt := 63) hx hb (nT (by omega)) (nT (by omega)) dX4_goodOf_12 (by decide) (fun c_1 => ?_) (fun c_1 => ?_)
      · refine lv_iload hx hb dX4_goodOf_63 (lv_at hl 4 rfl) ?_
        refine hret _ _ _ dX4_goodOf_65 ?_
        rw [hgd (by omega), show aq - 1 = kq by omega]
      · refine lv_iload hx hb dX4_goodOf_15 (lv_at hl 5 rfl) ?_
        refine lv_aload_n hx hb dX4_goodOf_17 rfl (lv_at hl 1 rfl) ?_
        refine va_get (D := D) (ci := 8) (v := .int (nI (N 0 1))) (C := RX8) (T := TX8) (N := 6) hx hb hts inX8 hown hK hP 0 rfl rfl 4 (by decide) (hts _ wd_53) (fun _ h9 => h9) rfl dX4_goodOf_18 ?_
        refine i_icmp_ge (tgt := 35) hx hb (nT (by omega)) (nT (by omega)) dX4_goodOf_21 (by decide) (fun c_2 => ?_) (fun c_2 => ?_)
        · refine lv_bipush (v := (-9)) hx hb dX4_goodOf_35 (by decide) ?_
          refine lv_istore (lv' := [(4, .int (-9)), (0, .ref (b 0)), (1, .ref (v 0)), (2, .int (nI kq)), (3, .int (nI tk)), (5, .int (nI aq))]) hx hb dX4_goodOf_37 hl (by decide) rfl (fun ls hl => ?_)
          refine lv_iload_n hx hb dX4_goodOf_39 rfl (lv_at hl 4 rfl) ?_
          refine lv_iload hx hb dX4_goodOf_40 (lv_at hl 0 rfl) ?_
          refine lv_bipush (v := (-9)) hx hb dX4_goodOf_42 (by decide) ?_
          refine i_icmp_ne (tgt := 51) hx hb ng9 ng9 dX4_goodOf_44 (by decide) (fun c_3 => absurd rfl c_3) (fun c_3 => ?_)
          refine lv_iconst (v := nI 0) hx hb dX4_goodOf_47 (by decide) ?_
          refine lv_goto (tgt := 55) hx hb dX4_goodOf_48 (by decide) ?_
          refine lv_ior hx hb dX4_goodOf_55 ?_
          rw [n_or tk 0]
          refine lv_istore_n (lv' := [(3, .int (nI (tk ||| 0))), (4, .int (-9)), (0, .ref (b 0)), (1, .ref (v 0)), (2, .int (nI kq)), (5, .int (nI aq))]) hx hb dX4_goodOf_56 rfl hl (by decide) rfl (fun ls hl => ?_)
          refine n_iinc (lv' := [(5, .int (nI (aq + 1))), (3, .int (nI (tk ||| 0))), (4, .int (-9)), (0, .ref (b 0)), (1, .ref (v 0)), (2, .int (nI kq))]) (k := 5) (d := 1) hx hb dX4_goodOf_57 hl rfl rfl (by decide) rfl (fun ls hl => ?_)
          refine lv_goto (tgt := 9) hx hb dX4_goodOf_60 (by decide) ?_
          exact ih9 (aq + 1) (tk ||| 0) (-9) (by omega) (by omega) (by rw [tkn, ← htk]; first | (rw [if_neg (by omega), Nat.or_zero]) | (rw [if_pos (by omega)]; unfold ntk; first | (rw [if_pos (by assumption), Nat.one_mul]) | (rw [if_neg (by assumption), Nat.or_zero]))) (fun _ => by rw [Nat.add_sub_cancel]; unfold gdo; first | (rw [if_neg (by omega)]) | (rw [if_pos (by omega), ← htk]; unfold gno; first | (rw [if_pos (by assumption)]) | (rw [if_neg (by assumption)]))) ls (lv_sub hl [3, 4, 5, 1, 2, 0] rfl)
        · refine lv_aload_n hx hb dX4_goodOf_24 rfl (lv_at hl 0 rfl) ?_
          refine lv_aload_n hx hb dX4_goodOf_25 rfl (lv_at hl 1 rfl) ?_
          refine lv_iload hx hb dX4_goodOf_26 (lv_at hl 5 rfl) ?_
          refine lv_iload_n hx hb dX4_goodOf_28 rfl (lv_at hl 3 rfl) ?_
          refine vp_callSi (ro_runV (c_X4_firstGood l D ka b mr Mf Gf hMf hGf v ta N wf df tf hV hN aq tk (by omega) (by omega)) X wd_513 wd_510 wd_511 wd_512 wd_6 on_X4_firstGood ⟨Nat.le_of_ble_eq_true rfl, Nat.le_of_ble_eq_true rfl⟩ (va_recv hK hR9 (ci := 4) (q0 := 0) rfl rfl) ⟨hR9, hP⟩ hl.1 rfl (Nat.le_of_ble_eq_true rfl) ⟨(Nat.zero_le _), (Nat.zero_le _)⟩ dX4_goodOf_29) (fun r_4 hr_4 => ?_)
          subst hr_4
          by_cases cg : fgd Gf (N 5) Mf (N 0 2) aq tk < N 0 2
          · rw [show gno (N 0 2) (fgd Gf (N 5) Mf (N 0 2) aq tk) = nI (fgd Gf (N 5) Mf (N 0 2) aq tk) from if_pos cg]
            refine lv_goto (tgt := 37) hx hb dX4_goodOf_32 (by decide) ?_
            refine lv_istore (lv' := [(4, .int (nI (fgd Gf (N 5) Mf (N 0 2) aq tk))), (0, .ref (b 0)), (1, .ref (v 0)), (2, .int (nI kq)), (3, .int (nI tk)), (5, .int (nI aq))]) hx hb dX4_goodOf_37 hl (by decide) rfl (fun ls hl => ?_)
            refine lv_iload_n hx hb dX4_goodOf_39 rfl (lv_at hl 4 rfl) ?_
            refine lv_iload hx hb dX4_goodOf_40 (lv_at hl 0 rfl) ?_
            refine lv_bipush (v := (-9)) hx hb dX4_goodOf_42 (by decide) ?_
            refine i_icmp_ne (tgt := 51) hx hb (nT (by omega)) ng9 dX4_goodOf_44 (by decide) (fun c_5 => ?_) (fun c_5 => by omega)
            refine lv_iconst (v := nI 1) hx hb dX4_goodOf_51 (by decide) ?_
            refine lv_iload hx hb dX4_goodOf_52 (lv_at hl 0 rfl) ?_
            refine lv_ishl hx hb dX4_goodOf_54 ?_
            rw [n_shl (a := 1) (k := fgd Gf (N 5) Mf (N 0 2) aq tk) (by omega) (Nat.lt_of_le_of_lt (by rw [Nat.one_mul]; exact Nat.pow_le_pow_right (by decide) (show fgd Gf (N 5) Mf (N 0 2) aq tk ≤ 31 by omega)) (by decide))]
            refine lv_ior hx hb dX4_goodOf_55 ?_
            rw [n_or tk (1 * 2 ^ (fgd Gf (N 5) Mf (N 0 2) aq tk))]
            refine lv_istore_n (lv' := [(3, .int (nI (tk ||| (1 * 2 ^ (fgd Gf (N 5) Mf (N 0 2) aq tk))))), (4, .int (nI (fgd Gf (N 5) Mf (N 0 2) aq tk))), (0, .ref (b 0)), (1, .ref (v 0)), (2, .int (nI kq)), (5, .int (nI aq))]) hx hb dX4_goodOf_56 rfl hl (by decide) rfl (fun ls hl => ?_)
            refine n_iinc (lv' := [(5, .int (nI (aq + 1))), (3, .int (nI (tk ||| (1 * 2 ^ (fgd Gf (N 5) Mf (N 0 2) aq tk))))), (4, .int (nI (fgd Gf (N 5) Mf (N 0 2) aq tk))), (0, .ref (b 0)), (1, .ref (v 0)), (2, .int (nI kq))]) (k := 5) (d := 1) hx hb dX4_goodOf_57 hl rfl rfl (by decide) rfl (fun ls hl => ?_)
            refine lv_goto (tgt := 9) hx hb dX4_goodOf_60 (by decide) ?_
            exact ih9 (aq + 1) (tk ||| (1 * 2 ^ (fgd Gf (N 5) Mf (N 0 2) aq tk))) (nI (fgd Gf (N 5) Mf (N 0 2) aq tk)) (by omega) (by omega) (by rw [tkn, ← htk]; first | (rw [if_neg (by omega), Nat.or_zero]) | (rw [if_pos (by omega)]; unfold ntk; first | (rw [if_pos (by assumption), Nat.one_mul]) | (rw [if_neg (by assumption), Nat.or_zero]))) (fun _ => by rw [Nat.add_sub_cancel]; unfold gdo; first | (rw [if_neg (by omega)]) | (rw [if_pos (by omega), ← htk]; unfold gno; first | (rw [if_pos (by assumption)]) | (rw [if_neg (by assumption)]))) ls (lv_sub hl [3, 4, 5, 1, 2, 0] rfl)
          · rw [show gno (N 0 2) (fgd Gf (N 5) Mf (N 0 2) aq tk) = -9 from if_neg cg]
            refine lv_goto (tgt := 37) hx hb dX4_goodOf_32 (by decide) ?_
            refine lv_istore (lv' := [(4, .int (-9)), (0, .ref (b 0)), (1, .ref (v 0)), (2, .int (nI kq)), (3, .int (nI tk)), (5, .int (nI aq))]) hx hb dX4_goodOf_37 hl (by decide) rfl (fun ls hl => ?_)
            refine lv_iload_n hx hb dX4_goodOf_39 rfl (lv_at hl 4 rfl) ?_
            refine lv_iload hx hb dX4_goodOf_40 (lv_at hl 0 rfl) ?_
            refine lv_bipush (v := (-9)) hx hb dX4_goodOf_42 (by decide) ?_
            refine i_icmp_ne (tgt := 51) hx hb ng9 ng9 dX4_goodOf_44 (by decide) (fun c_6 => absurd rfl c_6) (fun c_6 => ?_)
            refine lv_iconst (v := nI 0) hx hb dX4_goodOf_47 (by decide) ?_
            refine lv_goto (tgt := 55) hx hb dX4_goodOf_48 (by decide) ?_
            refine lv_ior hx hb dX4_goodOf_55 ?_
            rw [n_or tk 0]
            refine lv_istore_n (lv' := [(3, .int (nI (tk ||| 0))), (4, .int (-9)), (0, .ref (b 0)), (1, .ref (v 0)), (2, .int (nI kq)), (5, .int (nI aq))]) hx hb dX4_goodOf_56 rfl hl (by decide) rfl (fun ls hl => ?_)
            refine n_iinc (lv' := [(5, .int (nI (aq + 1))), (3, .int (nI (tk ||| 0))), (4, .int (-9)), (0, .ref (b 0)), (1, .ref (v 0)), (2, .int (nI kq))]) (k := 5) (d := 1) hx hb dX4_goodOf_57 hl rfl rfl (by decide) rfl (fun ls hl => ?_)
            refine lv_goto (tgt := 9) hx hb dX4_goodOf_60 (by decide) ?_
            exact ih9 (aq + 1) (tk ||| 0) (-9) (by omega) (by omega) (by rw [tkn, ← htk]; first | (rw [if_neg (by omega), Nat.or_zero]) | (rw [if_pos (by omega)]; unfold ntk; first | (rw [if_pos (by assumption), Nat.one_mul]) | (rw [if_neg (by assumption), Nat.or_zero]))) (fun _ => by rw [Nat.add_sub_cancel]; unfold gdo; first | (rw [if_neg (by omega)]) | (rw [if_pos (by omega), ← htk]; unfold gno; first | (rw [if_pos (by assumption)]) | (rw [if_neg (by assumption)]))) ls (lv_sub hl [3, 4, 5, 1, 2, 0] rfl)
  exact loop9 _ 0 0 (-9) (Nat.lt_succ_self _) (by omega) rfl (fun q => absurd q (Nat.lt_irrefl _)) ls (lv_sub hl [3, 4, 5, 2, 1, 0] rfl)
