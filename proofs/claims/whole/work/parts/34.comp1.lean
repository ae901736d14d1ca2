set_option maxRecDepth 100000 in
set_option maxHeartbeats 4000000 in
theorem c_X10_isSheet (l : Launch) (D : va_G) (ka : Nat → ClassId) (v : Int32) (V9 : Int) (hv : v.toInt = V9) : RO l D ka yX10_isSheet cX10_isSheet 1 (some .boolean) 0 [.int v] (fun H => True) (vp_Si (fun r => r = bI (0 ≤ V9 ∧ V9 ≤ 3))) := by
  refine RO.ofZ (by decide) (Nat.le_of_ble_eq_true rfl) ?_
  intro p e s m args below meth c Q X hP hret ls hl
  obtain ⟨hx, hb, hml, hown, hts, hE⟩ := id X
  have hK := hE.1
  have hl : lv_has ls 1 [(0, .int v)] := hl
  refine lv_iload_n hx hb dX10_isSheet_0 rfl (lv_at hl 0 rfl) ?_
  refine i_if_lt (tgt := 13) hx hb hv dX10_isSheet_1 (by decide) (fun c_1 => ?_) (fun c_1 => ?_)
  · refine lv_iconst (v := nI 0) hx hb dX10_isSheet_13 (by decide) ?_
    refine hret _ _ _ dX10_isSheet_14 (by decide) ?_
    exact (bI_f (by omega)).symm
  · refine lv_iload_n hx hb dX10_isSheet_4 rfl (lv_at hl 0 rfl) ?_
    refine lv_iconst (v := nI 4) hx hb dX10_isSheet_5 (by decide) ?_
    refine i_icmp_ge (tgt := 13) hx hb hv (nT (by decide)) dX10_isSheet_6 (by decide) (fun c_2 => ?_) (fun c_2 => ?_)
    · refine lv_iconst (v := nI 0) hx hb dX10_isSheet_13 (by decide) ?_
      refine hret _ _ _ dX10_isSheet_14 (by decide) ?_
      exact (bI_f (by omega)).symm
    · refine lv_iconst (v := nI 1) hx hb dX10_isSheet_9 (by decide) ?_
      refine lv_goto (tgt := 14) hx hb dX10_isSheet_10 (by decide) ?_
      refine hret _ _ _ dX10_isSheet_14 (by decide) ?_
      exact (bI_t (by omega)).symm
set_option maxRecDepth 100000 in
set_option maxHeartbeats 4000000 in
theorem c_X10_isLane (l : Launch) (D : va_G) (ka : Nat → ClassId) (v : Int32) (V9 : Int) (hv : v.toInt = V9) : RO l D ka yX10_isLane cX10_isLane 1 (some .boolean) 0 [.int v] (fun H => True) (vp_Si (fun r => r = bI (0 ≤ V9 ∧ V9 ≤ 2))) := by
  refine RO.ofZ (by decide) (Nat.le_of_ble_eq_true rfl) ?_
  intro p e s m args below meth c Q X hP hret ls hl
  obtain ⟨hx, hb, hml, hown, hts, hE⟩ := id X
  have hK := hE.1
  have hl : lv_has ls 1 [(0, .int v)] := hl
  refine lv_iload_n hx hb dX10_isLane_0 rfl (lv_at hl 0 rfl) ?_
  refine i_if_lt (tgt := 13) hx hb hv dX10_isLane_1 (by decide) (fun c_1 => ?_) (fun c_1 => ?_)
  · refine lv_iconst (v := nI 0) hx hb dX10_isLane_13 (by decide) ?_
    refine hret _ _ _ dX10_isLane_14 (by decide) ?_
    exact (bI_f (by omega)).symm
  · refine lv_iload_n hx hb dX10_isLane_4 rfl (lv_at hl 0 rfl) ?_
    refine lv_iconst (v := nI 2) hx hb dX10_isLane_5 (by decide) ?_
    refine i_icmp_gt (tgt := 13) hx hb hv (nT (by decide)) dX10_isLane_6 (by decide) (fun c_2 => ?_) (fun c_2 => ?_)
    · refine lv_iconst (v := nI 0) hx hb dX10_isLane_13 (by decide) ?_
      refine hret _ _ _ dX10_isLane_14 (by decide) ?_
      exact (bI_f (by omega)).symm
    · refine lv_iconst (v := nI 1) hx hb dX10_isLane_9 (by decide) ?_
      refine lv_goto (tgt := 14) hx hb dX10_isLane_10 (by decide) ?_
      refine hret _ _ _ dX10_isLane_14 (by decide) ?_
      exact (bI_t (by omega)).symm
set_option maxRecDepth 100000 in
set_option maxHeartbeats 4000000 in
theorem c_X10_isMinute (l : Launch) (D : va_G) (ka : Nat → ClassId) (v : Int32) (V9 : Int) (hv : v.toInt = V9) : RO l D ka yX10_isMinute cX10_isMinute 1 (some .boolean) 0 [.int v] (fun H => True) (vp_Si (fun r => r = bI (0 ≤ V9 ∧ V9 ≤ 59))) := by
  refine RO.ofZ (by decide) (Nat.le_of_ble_eq_true rfl) ?_
  intro p e s m args below meth c Q X hP hret ls hl
  obtain ⟨hx, hb, hml, hown, hts, hE⟩ := id X
  have hK := hE.1
  have hl : lv_has ls 1 [(0, .int v)] := hl
  refine lv_iload_n hx hb dX10_isMinute_0 rfl (lv_at hl 0 rfl) ?_
  refine i_if_lt (tgt := 14) hx hb hv dX10_isMinute_1 (by decide) (fun c_1 => ?_) (fun c_1 => ?_)
  · refine lv_iconst (v := nI 0) hx hb dX10_isMinute_14 (by decide) ?_
    refine hret _ _ _ dX10_isMinute_15 (by decide) ?_
    exact (bI_f (by omega)).symm
  · refine lv_iload_n hx hb dX10_isMinute_4 rfl (lv_at hl 0 rfl) ?_
    refine lv_bipush (v := nI 60) hx hb dX10_isMinute_5 (by decide) ?_
    refine i_icmp_ge (tgt := 14) hx hb hv (nT (by decide)) dX10_isMinute_7 (by decide) (fun c_2 => ?_) (fun c_2 => ?_)
    · refine lv_iconst (v := nI 0) hx hb dX10_isMinute_14 (by decide) ?_
      refine hret _ _ _ dX10_isMinute_15 (by decide) ?_
      exact (bI_f (by omega)).symm
    · refine lv_iconst (v := nI 1) hx hb dX10_isMinute_10 (by decide) ?_
      refine lv_goto (tgt := 15) hx hb dX10_isMinute_11 (by decide) ?_
      refine hret _ _ _ dX10_isMinute_15 (by decide) ?_
      exact (bI_t (by omega)).symm
set_option maxRecDepth 100000 in
set_option maxHeartbeats 4000000 in
theorem c_X1_isDigit (l : Launch) (D : va_G) (ka : Nat → ClassId) (v : Int32) (V9 : Int) (hv : v.toInt = V9) : RO l D ka yX1_isDigit cX1_isDigit 1 (some .boolean) 0 [.int v] (fun H => True) (vp_Si (fun r => r = bI (48 ≤ V9 ∧ V9 ≤ 57))) := by
  refine RO.ofZ (by decide) (Nat.le_of_ble_eq_true rfl) ?_
  intro p e s m args below meth c Q X hP hret ls hl
  obtain ⟨hx, hb, hml, hown, hts, hE⟩ := id X
  have hK := hE.1
  have hl : lv_has ls 1 [(0, .int v)] := hl
  refine lv_iload_n hx hb dX1_isDigit_0 rfl (lv_at hl 0 rfl) ?_
  refine lv_bipush (v := nI 48) hx hb dX1_isDigit_1 (by decide) ?_
  refine i_icmp_lt (tgt := 16) hx hb hv (nT (by decide)) dX1_isDigit_3 (by decide) (fun c_1 => ?_) (fun c_1 => ?_)
  · refine lv_iconst (v := nI 0) hx hb dX1_isDigit_16 (by decide) ?_
    refine hret _ _ _ dX1_isDigit_17 (by decide) ?_
    exact (bI_f (by omega)).symm
  · refine lv_iload_n hx hb dX1_isDigit_6 rfl (lv_at hl 0 rfl) ?_
    refine lv_bipush (v := nI 57) hx hb dX1_isDigit_7 (by decide) ?_
    refine i_icmp_gt (tgt := 16) hx hb hv (nT (by decide)) dX1_isDigit_9 (by decide) (fun c_2 => ?_) (fun c_2 => ?_)
    · refine lv_iconst (v := nI 0) hx hb dX1_isDigit_16 (by decide) ?_
      refine hret _ _ _ dX1_isDigit_17 (by decide) ?_
      exact (bI_f (by omega)).symm
    · refine lv_iconst (v := nI 1) hx hb dX1_isDigit_12 (by decide) ?_
      refine lv_goto (tgt := 17) hx hb dX1_isDigit_13 (by decide) ?_
      refine hret _ _ _ dX1_isDigit_17 (by decide) ?_
      exact (bI_t (by omega)).symm
set_option maxRecDepth 100000 in
set_option maxHeartbeats 4000000 in
theorem c_X0_tells (l : Launch) (D : va_G) (ka : Nat → ClassId) (v : Int32) (V9 : Int) (hv : v.toInt = V9) : RO l D ka yX0_tells cX0_tells 1 (some .boolean) 0 [.int v] (fun H => True) (vp_Si (fun r => r = bI ((0 ≤ V9 ∧ V9 ≤ 3) ∨ (10 ≤ V9 ∧ V9 ≤ 14)))) := by
  refine RO.ofZ (by decide) (Nat.le_of_ble_eq_true rfl) ?_
  intro p e s m args below meth c Q X hP hret ls hl
  obtain ⟨hx, hb, hml, hown, hts, hE⟩ := id X
  have hK := hE.1
  have hl : lv_has ls 1 [(0, .int v)] := hl
  refine lv_iload_n hx hb dX0_tells_0 rfl (lv_at hl 0 rfl) ?_
  refine i_if_lt (tgt := 9) hx hb hv dX0_tells_1 (by decide) (fun c_1 => ?_) (fun c_1 => ?_)
  · refine lv_iload_n hx hb dX0_tells_9 rfl (lv_at hl 0 rfl) ?_
    refine lv_bipush (v := nI 10) hx hb dX0_tells_10 (by decide) ?_
    refine i_icmp_lt (tgt := 25) hx hb hv (nT (by decide)) dX0_tells_12 (by decide) (fun c_2 => ?_) (fun c_2 => ?_)
    · refine lv_iconst (v := nI 0) hx hb dX0_tells_25 (by decide) ?_
      refine hret _ _ _ dX0_tells_26 (by decide) ?_
      exact (bI_f (by omega)).symm
    · refine lv_iload_n hx hb dX0_tells_15 rfl (lv_at hl 0 rfl) ?_
      refine lv_bipush (v := nI 14) hx hb dX0_tells_16 (by decide) ?_
      refine i_icmp_gt (tgt := 25) hx hb hv (nT (by decide)) dX0_tells_18 (by decide) (fun c_3 => ?_) (fun c_3 => ?_)
      · refine lv_iconst (v := nI 0) hx hb dX0_tells_25 (by decide) ?_
        refine hret _ _ _ dX0_tells_26 (by decide) ?_
        exact (bI_f (by omega)).symm
      · refine lv_iconst (v := nI 1) hx hb dX0_tells_21 (by decide) ?_
        refine lv_goto (tgt := 26) hx hb dX0_tells_22 (by decide) ?_
        refine hret _ _ _ dX0_tells_26 (by decide) ?_
        exact (bI_t (by omega)).symm
  · refine lv_iload_n hx hb dX0_tells_4 rfl (lv_at hl 0 rfl) ?_
    refine lv_iconst (v := nI 3) hx hb dX0_tells_5 (by decide) ?_
    refine i_icmp_le (tgt := 21) hx hb hv (nT (by decide)) dX0_tells_6 (by decide) (fun c_4 => ?_) (fun c_4 => ?_)
    · refine lv_iconst (v := nI 1) hx hb dX0_tells_21 (by decide) ?_
      refine lv_goto (tgt := 26) hx hb dX0_tells_22 (by decide) ?_
      refine hret _ _ _ dX0_tells_26 (by decide) ?_
      exact (bI_t (by omega)).symm
    · refine lv_iload_n hx hb dX0_tells_9 rfl (lv_at hl 0 rfl) ?_
      refine lv_bipush (v := nI 10) hx hb dX0_tells_10 (by decide) ?_
      refine i_icmp_lt (tgt := 25) hx hb hv (nT (by decide)) dX0_tells_12 (by decide) (fun c_5 => ?_) (fun c_5 => ?_)
      · refine lv_iconst (v := nI 0) hx hb dX0_tells_25 (by decide) ?_
        refine hret _ _ _ dX0_tells_26 (by decide) ?_
        exact (bI_f (by omega)).symm
      · refine lv_iload_n hx hb dX0_tells_15 rfl (lv_at hl 0 rfl) ?_
        refine lv_bipush (v := nI 14) hx hb dX0_tells_16 (by decide) ?_
        refine i_icmp_gt (tgt := 25) hx hb hv (nT (by decide)) dX0_tells_18 (by decide) (fun c_6 => ?_) (fun c_6 => ?_)
        · refine lv_iconst (v := nI 0) hx hb dX0_tells_25 (by decide) ?_
          refine hret _ _ _ dX0_tells_26 (by decide) ?_
          exact (bI_f (by omega)).symm
        · refine lv_iconst (v := nI 1) hx hb dX0_tells_21 (by decide) ?_
          refine lv_goto (tgt := 26) hx hb dX0_tells_22 (by decide) ?_
          refine hret _ _ _ dX0_tells_26 (by decide) ?_
          exact (bI_t (by omega)).symm
set_option maxRecDepth 100000 in
set_option maxHeartbeats 4000000 in
theorem c_X3_hasCells (l : Launch) (D : va_G) (ka : Nat → ClassId) (ra ca la n1 : Nat) (cf : Nat → Int32) (R : va_W) (i n : Int32) (I9 M9 : Int) (hi : i.toInt = I9) (hn : n.toInt = M9) (hn1 : n1 ≤ 60) : RO l D ka yX3_hasCells cX3_hasCells 3 (some .boolean) 0 [.ref ra, .int i, .int n] (fun H => va_P D vwCl (([(ra, .inr (3, [.int (nI la), .ref ca])), (ca, .inl (ka 0, n1, .inl (cf)))] : va_W) ++ R) H) (vp_Si (fun r => r = bI (0 ≤ I9 ∧ I9 ≤ (n1 : Int) ∧ 0 ≤ M9 ∧ M9 ≤ (n1 : Int) - I9))) := by
  refine RO.ofZ (by decide) (Nat.le_of_ble_eq_true rfl) ?_
  intro p e s m args below meth c Q X hP hret ls hl
  obtain ⟨hx, hb, hml, hown, hts, hE⟩ := id X
  have hK := hE.1
  have hl : lv_has ls 3 [(0, .ref ra), (1, .int i), (2, .int n)] := hl
  refine lv_iload_n hx hb dX3_hasCells_0 rfl (lv_at hl 1 rfl) ?_
  refine i_if_lt (tgt := 32) hx hb hi dX3_hasCells_1 (by decide) (fun c_1 => ?_) (fun c_1 => ?_)
  · refine lv_iconst (v := nI 0) hx hb dX3_hasCells_32 (by decide) ?_
    refine hret _ _ _ dX3_hasCells_33 (by decide) ?_
    exact (bI_f (by omega)).symm
  · refine lv_iload_n hx hb dX3_hasCells_4 rfl (lv_at hl 1 rfl) ?_
    refine lv_aload_n hx hb dX3_hasCells_5 rfl (lv_at hl 0 rfl) ?_
    refine va_get (D := D) (ci := 3) (v := .ref ca) (C := RX3) (T := TX3) (N := 2) hx hb hts inX3 hown hK hP 0 rfl rfl 1 (by decide) (hts _ wd_570) (fun _ h9 => h9) rfl dX3_hasCells_6 ?_
    refine va_alen hx hb hK hP 1 0 rfl (ty := .int) rfl (v := nI n1) rfl dX3_hasCells_9 ?_
    refine i_icmp_gt (tgt := 32) hx hb hi (nT (by omega)) dX3_hasCells_10 (by decide) (fun c_2 => ?_) (fun c_2 => ?_)
    · refine lv_iconst (v := nI 0) hx hb dX3_hasCells_32 (by decide) ?_
      refine hret _ _ _ dX3_hasCells_33 (by decide) ?_
      exact (bI_f (by omega)).symm
    · refine lv_iload_n hx hb dX3_hasCells_13 rfl (lv_at hl 2 rfl) ?_
      refine i_if_lt (tgt := 32) hx hb hn dX3_hasCells_14 (by decide) (fun c_3 => ?_) (fun c_3 => ?_)
      · refine lv_iconst (v := nI 0) hx hb dX3_hasCells_32 (by decide) ?_
        refine hret _ _ _ dX3_hasCells_33 (by decide) ?_
        exact (bI_f (by omega)).symm
      · obtain ⟨jq, hjq, hij⟩ : ∃ j : Nat, j < n1 + 1 ∧ i = nI j := nat_of (by omega) (by omega)
        have hjT : (nI jq).toInt = (jq : Int) := nT (by omega)
        rw [← hij, hi] at hjT
        refine lv_iload_n hx hb dX3_hasCells_17 rfl (lv_at hl 2 rfl) ?_
        refine lv_aload_n hx hb dX3_hasCells_18 rfl (lv_at hl 0 rfl) ?_
        refine va_get (D := D) (ci := 3) (v := .ref ca) (C := RX3) (T := TX3) (N := 2) hx hb hts inX3 hown hK hP 0 rfl rfl 1 (by decide) (hts _ wd_570) (fun _ h9 => h9) rfl dX3_hasCells_19 ?_
        refine va_alen hx hb hK hP 1 0 rfl (ty := .int) rfl (v := nI n1) rfl dX3_hasCells_22 ?_
        refine lv_iload_n hx hb dX3_hasCells_23 rfl (lv_at hl 1 rfl) ?_
        refine lv_isub hx hb dX3_hasCells_24 ?_
        refine i_icmp_gt (tgt := 32) hx hb hn (show (nI n1 - i).toInt = ((n1 : Int) - I9) by rw [hij, pk_sub (by omega), nT (by omega)]; omega) dX3_hasCells_25 (by decide) (fun c_4 => ?_) (fun c_4 => ?_)
        · refine lv_iconst (v := nI 0) hx hb dX3_hasCells_32 (by decide) ?_
          refine hret _ _ _ dX3_hasCells_33 (by decide) ?_
          exact (bI_f (by omega)).symm
        · refine lv_iconst (v := nI 1) hx hb dX3_hasCells_28 (by decide) ?_
          refine lv_goto (tgt := 33) hx hb dX3_hasCells_29 (by decide) ?_
          refine hret _ _ _ dX3_hasCells_33 (by decide) ?_
          exact (bI_t (by omega)).symm
set_option maxRecDepth 100000 in
set_option maxHeartbeats 4000000 in
theorem c_X3_cut (l : Launch) (D : va_G) (ka : Nat → ClassId) (ra ca la n1 : Nat) (cf : Nat → Int32) (R : va_W) (v : Int32) (hla : la ≤ 2) : RO l D ka yX3_cut cX3_cut 2 (some .int) 0 [.ref ra, .int v] (fun H => va_P D vwCl (([(ra, .inr (3, [.int (nI la), .ref ca])), (ca, .inl (ka 0, n1, .inl (cf)))] : va_W) ++ R) H) (vp_Si (fun r => r = cutv la v)) := by
  refine RO.ofI (by decide) (Nat.le_of_ble_eq_true rfl) ?_
  intro p e s m args below meth c Q X hP hret ls hl
  obtain ⟨hx, hb, hml, hown, hts, hE⟩ := id X
  have hK := hE.1
  have hl : lv_has ls 2 [(0, .ref ra), (1, .int v)] := hl
  refine lv_aload_n hx hb dX3_cut_0 rfl (lv_at hl 0 rfl) ?_
  refine va_get (D := D) (ci := 3) (v := .int (nI la)) (C := RX3) (T := TX3) (N := 2) hx hb hts inX3 hown hK hP 0 rfl rfl 0 (by decide) (hts _ wd_568) (fun _ h9 => h9) rfl dX3_cut_1 ?_
  have hT_1 : (nI la).toInt = ((la : Nat) : Int) := (nT (by omega))
  by_cases cs_2 : ((la : Nat) : Int) = 0
  · refine lv_lookup (off := 28) (tgt := 32) hx hb dX3_cut_4 (by decide) (by rw [hT_1, cs_2]; rfl) (by decide) ?_
    refine lv_iload_n hx hb dX3_cut_32 rfl (lv_at hl 1 rfl) ?_
    refine lv_i2b (v := v.toInt8.toInt32) hx hb dX3_cut_33 rfl ?_
    refine hret _ _ _ dX3_cut_34 ?_
    unfold cutv
    (repeat' split) <;> first | rfl | omega
  by_cases cs_3 : ((la : Nat) : Int) = 1
  · refine lv_lookup (off := 31) (tgt := 35) hx hb dX3_cut_4 (by decide) (by rw [hT_1, cs_3]; rfl) (by decide) ?_
    refine lv_iload_n hx hb dX3_cut_35 rfl (lv_at hl 1 rfl) ?_
    refine lv_i2s (v := v.toInt16.toInt32) hx hb dX3_cut_36 rfl ?_
    refine hret _ _ _ dX3_cut_37 ?_
    unfold cutv
    (repeat' split) <;> first | rfl | omega
  have cs_4 : ((la : Nat) : Int) = 2 := by omega
  refine lv_lookup (off := 34) (tgt := 38) hx hb dX3_cut_4 (by decide) (by rw [hT_1, cs_4]; rfl) (by decide) ?_
  refine lv_iload_n hx hb dX3_cut_38 rfl (lv_at hl 1 rfl) ?_
  refine hret _ _ _ dX3_cut_39 ?_
  unfold cutv
  (repeat' split) <;> first | rfl | omega
set_option maxRecDepth 100000 in
set_option maxHeartbeats 4000000 in
theorem c_X7_leave (l : Launch) (D : va_G) (ka : Nat → ClassId) (z : Nat) (tr : Nat) (tv : Int32) (R : va_W) (k : Nat) : MU l D ka z yX7_leave cX7_leave 2 none 0 0 0 [.ref tr, .int (nI k)] (([(tr, .inr (7, [.int tv]))] : va_W) ++ R) (Qv D z (fun w => w = ([(tr, .inr (7, [.int (bg tv k)]))] : va_W) ++ R)) := by
  refine MU.ofV (by decide) (Nat.le_of_ble_eq_true rfl) ?_
  intro p e s m args below meth c Q X hin hw hS hret ls hl
  obtain ⟨hx, hb, hml, hown, hts, hE⟩ := id X
  have hK := hE.1
  have hz0 := hw.1
  have hl : lv_has ls 2 [(0, .ref tr), (1, .int (nI k))] := hl
  refine lv_aload_n hx hb dX7_leave_0 rfl (lv_at hl 0 rfl) ?_
  refine lv_bipush (v := nI 31) hx hb dX7_leave_1 (by decide) ?_
  refine lv_aload_n hx hb dX7_leave_3 rfl (lv_at hl 0 rfl) ?_
  refine va_get (D := D) (ci := 7) (v := .int tv) (C := RX7) (T := TX7) (N := 1) hx hb hts inX7 hown hK hw.2.1 0 rfl rfl 0 (by decide) (hts _ wd_156) (fun _ h9 => h9) rfl dX7_leave_4 ?_
  refine lv_imul hx hb dX7_leave_7 ?_
  refine lv_iload_n hx hb dX7_leave_8 rfl (lv_at hl 1 rfl) ?_
  refine lv_iadd hx hb dX7_leave_9 ?_
  refine va_put (D := D) (ci := 7) (v := .int (((nI 31) * tv) + (nI k))) (ty := .int) (C := RX7) (T := TX7) (N := 1) hx hb hts inX7 tyX7 tyX7_ok nmX7 hown hK hw.2.1 hw.2.2 hS 0 rfl rfl 0 (by decide) (hts _ wd_156) (fun _ h9 => h9) rfl (by decide +kernel) rfl rfl (Nat.le_of_ble_eq_true rfl) dX7_leave_10 (fun H locs hP hD hS => ?_)
  have hw : wdH D z (([(tr, .inr (7, [.int (((nI 31) * tv) + (nI k))]))] : va_W) ++ R) H := ⟨Nat.le_trans hz0 hS.1, hP, hD⟩
  exact hret _ _ _ _ _ _ _ dX7_leave_13 hS hw (Nat.zero_le _) (Nat.zero_le _) rfl
set_option maxRecDepth 100000 in
set_option maxHeartbeats 4000000 in
theorem c_X7_init (l : Launch) (D : va_G) (ka : Nat → ClassId) (z : Nat) (tr : Nat) (R : va_W) : MU l D ka z yX7_init cX7_init 1 none 1 0 0 [.ref tr] (([(tr, .inr (7, [.int 0]))] : va_W) ++ R) (Qv D z (fun w => w = ([(tr, .inr (7, [.int 0]))] : va_W) ++ R)) := by
  refine MU.ofV (by decide) (Nat.le_of_ble_eq_true rfl) ?_
  intro p e s m args below meth c Q X hin hw hS hret ls hl
  obtain ⟨hx, hb, hml, hown, hts, hE⟩ := id X
  have hK := hE.1
  have hz0 := hw.1
  have hl : lv_has ls 1 [(0, .ref tr)] := hl
  refine lv_aload_n hx hb dX7_init_0 rfl (lv_at hl 0 rfl) ?_
  refine W.objInit hx hb hown (hts _ wd_155) (hts _ wd_21) (hts _ wd_22) rfl (by rw [hml]; exact hl.1) rfl dX7_init_1 (Nat.le_of_ble_eq_true rfl) (Nat.le_of_ble_eq_true rfl) ?_
  refine W.eq (g2 := F0 m 4 ls []) rfl ?_
  refine lv_aload_n hx hb dX7_init_4 rfl (lv_at hl 0 rfl) ?_
  refine lv_iconst (v := nI 0) hx hb dX7_init_5 (by decide) ?_
  refine va_put (D := D) (ci := 7) (v := .int (nI 0)) (ty := .int) (C := RX7) (T := TX7) (N := 1) hx hb hts inX7 tyX7 tyX7_ok nmX7 hown hK hw.2.1 hw.2.2 hS 0 rfl rfl 0 (by decide) (hts _ wd_156) (fun _ h9 => h9) rfl (by decide +kernel) rfl rfl (Nat.le_of_ble_eq_true rfl) dX7_init_6 (fun H locs hP hD hS => ?_)
  have hw : wdH D z (([(tr, .inr (7, [.int (nI 0)]))] : va_W) ++ R) H := ⟨Nat.le_trans hz0 hS.1, hP, hD⟩
  exact hret _ _ _ _ _ _ _ dX7_init_9 hS hw (Nat.zero_le _) (Nat.zero_le _) rfl
set_option maxRecDepth 100000 in
set_option maxHeartbeats 4000000 in
theorem c_X6_kindNumber (l : Launch) (D : va_G) (ka : Nat → ClassId) (q : Nat) : RO l D ka yX6_kindNumber cX6_kindNumber 1 (some .int) 0 [.ref q] (fun H => True) (vp_Si (fun r => r = nI 0)) := by
  refine RO.ofI (by decide) (Nat.le_of_ble_eq_true rfl) ?_
  intro p e s m args below meth c Q X hP hret ls hl
  obtain ⟨hx, hb, hml, hown, hts, hE⟩ := id X
  have hK := hE.1
  have hl : lv_has ls 1 [(0, .ref q)] := hl
  refine lv_iconst (v := nI 0) hx hb dX6_kindNumber_0 (by decide) ?_
  refine hret _ _ _ dX6_kindNumber_1 ?_
  rfl
set_option maxRecDepth 100000 in
set_option maxHeartbeats 4000000 in
theorem c_X5_kindNumber (l : Launch) (D : va_G) (ka : Nat → ClassId) (q : Nat) : RO l D ka yX5_kindNumber cX5_kindNumber 1 (some .int) 0 [.ref q] (fun H => True) (vp_Si (fun r => r = nI 1)) := by
  refine RO.ofI (by decide) (Nat.le_of_ble_eq_true rfl) ?_
  intro p e s m args below meth c Q X hP hret ls hl
  obtain ⟨hx, hb, hml, hown, hts, hE⟩ := id X
  have hK := hE.1
  have hl : lv_has ls 1 [(0, .ref q)] := hl
  refine lv_iconst (v := nI 1) hx hb dX5_kindNumber_0 (by decide) ?_
  refine hret _ _ _ dX5_kindNumber_1 ?_
  rfl
set_option maxRecDepth 100000 in
set_option maxHeartbeats 4000000 in
theorem c_X9_kindNumber (l : Launch) (D : va_G) (ka : Nat → ClassId) (q : Nat) : RO l D ka yX9_kindNumber cX9_kindNumber 1 (some .int) 0 [.ref q] (fun H => True) (vp_Si (fun r => r = nI 2)) := by
  refine RO.ofI (by decide) (Nat.le_of_ble_eq_true rfl) ?_
  intro p e s m args below meth c Q X hP hret ls hl
  obtain ⟨hx, hb, hml, hown, hts, hE⟩ := id X
  have hK := hE.1
  have hl : lv_has ls 1 [(0, .ref q)] := hl
  refine lv_iconst (v := nI 2) hx hb dX9_kindNumber_0 (by decide) ?_
  refine hret _ _ _ dX9_kindNumber_1 ?_
  rfl
set_option maxRecDepth 100000 in
set_option maxHeartbeats 4000000 in
theorem c_X6_drainBy (l : Launch) (D : va_G) (ka : Nat → ClassId) (q : Nat) (nu : Int32) (nv mi w1 : Nat) (hw1 : w1 ≤ 9) (hmi : mi ≤ 9) : RO l D ka yX6_drainBy cX6_drainBy 2 (some .int) 0 [.ref q, .int (nI w1)] (fun H => va_P D vwCl (([(q, .inr (6, [.int nu, .int (nI nv), .int (nI mi)]))] : va_W) ++ ([] : va_W)) H) (vp_Si (fun r => r = nI (dr0 0 w1 mi))) := by
  refine RO.ofI (by decide) (Nat.le_of_ble_eq_true rfl) ?_
  intro p e s m args below meth c Q X hP hret ls hl
  obtain ⟨hx, hb, hml, hown, hts, hE⟩ := id X
  have hK := hE.1
  have hl : lv_has ls 2 [(0, .ref q), (1, .int (nI w1))] := hl
  refine lv_iload_n hx hb dX6_drainBy_0 rfl (lv_at hl 1 rfl) ?_
  refine lv_aload_n hx hb dX6_drainBy_1 rfl (lv_at hl 0 rfl) ?_
  refine va_get (D := D) (ci := 6) (v := .int (nI mi)) (C := RX6) (T := TX6) (N := 3) hx hb hts inX6 hown hK hP 0 rfl rfl 2 (by decide) (hts _ wd_274) (fun _ h9 => h9) rfl dX6_drainBy_2 ?_
  refine n_iadd hx hb dX6_drainBy_5 ?_
  refine hret _ _ _ dX6_drainBy_6 ?_
  rfl
set_option maxRecDepth 100000 in
set_option maxHeartbeats 4000000 in
theorem c_X5_drainBy (l : Launch) (D : va_G) (ka : Nat → ClassId) (q : Nat) (nu : Int32) (nv mi w1 : Nat) (hw1 : w1 ≤ 9) (hmi : mi ≤ 9) : RO l D ka yX5_drainBy cX5_drainBy 2 (some .int) 1 [.ref q, .int (nI w1)] (fun H => va_P D vwCl (([(q, .inr (5, [.int nu, .int (nI nv), .int (nI mi)]))] : va_W) ++ ([] : va_W)) H) (vp_Si (fun r => r = nI (dr0 1 w1 mi))) := by
  refine RO.ofI (by decide) (Nat.le_of_ble_eq_true rfl) ?_
  intro p e s m args below meth c Q X hP hret ls hl
  obtain ⟨hx, hb, hml, hown, hts, hE⟩ := id X
  have hK := hE.1
  have hl : lv_has ls 2 [(0, .ref q), (1, .int (nI w1))] := hl
  refine lv_iconst (v := nI 0) hx hb dX5_drainBy_0 (by decide) ?_
  refine lv_iload_n hx hb dX5_drainBy_1 rfl (lv_at hl 1 rfl) ?_
  refine lv_aload_n hx hb dX5_drainBy_2 rfl (lv_at hl 0 rfl) ?_
  refine va_get (D := D) (ci := 5) (v := .int (nI mi)) (C := RX5) (T := TX5) (N := 3) hx hb hts inX5 hown hK hP 0 rfl rfl 2 (by decide) (hts _ wd_277) (fun x9 h9 => u_same (hts _ wd_278) x9 h9) rfl dX5_drainBy_3 ?_
  refine n_iadd hx hb dX5_drainBy_6 ?_
  refine lv_iconst (v := nI 1) hx hb dX5_drainBy_7 (by decide) ?_
  refine lv_isub hx hb dX5_drainBy_8 ?_
  refine va_mmax hx hb (hml.trans hl.1.symm) hown (hts _ wd_366) (hts _ wd_367) (hts _ wd_12) (hts _ wd_368) (Nat.le_of_ble_eq_true rfl) (Nat.le_of_ble_eq_true rfl) (Nat.zero_le _) (Nat.zero_le _) dX5_drainBy_9 ?_
  rw [show (if nI 0 < nI (w1 + mi) - nI 1 then nI (w1 + mi) - nI 1 else nI 0) = nI (dr0 1 w1 mi) from dr_singer (by omega) (by omega)]
  refine hret _ _ _ dX5_drainBy_12 ?_
  rfl
set_option maxRecDepth 100000 in
set_option maxHeartbeats 4000000 in
theorem c_X9_drainBy (l : Launch) (D : va_G) (ka : Nat → ClassId) (q : Nat) (nu : Int32) (nv mi w1 : Nat) (hw1 : w1 ≤ 9) (hmi : mi ≤ 9) : RO l D ka yX9_drainBy cX9_drainBy 2 (some .int) 0 [.ref q, .int (nI w1)] (fun H => va_P D vwCl (([(q, .inr (9, [.int nu, .int (nI nv), .int (nI mi)]))] : va_W) ++ ([] : va_W)) H) (vp_Si (fun r => r = nI (dr0 2 w1 mi))) := by
  refine RO.ofI (by decide) (Nat.le_of_ble_eq_true rfl) ?_
  intro p e s m args below meth c Q X hP hret ls hl
  obtain ⟨hx, hb, hml, hown, hts, hE⟩ := id X
  have hK := hE.1
  have hl : lv_has ls 2 [(0, .ref q), (1, .int (nI w1))] := hl
  refine lv_iload_n hx hb dX9_drainBy_0 rfl (lv_at hl 1 rfl) ?_
  refine lv_aload_n hx hb dX9_drainBy_1 rfl (lv_at hl 0 rfl) ?_
  refine va_get (D := D) (ci := 9) (v := .int (nI mi)) (C := RX9) (T := TX9) (N := 3) hx hb hts inX9 hown hK hP 0 rfl rfl 2 (by decide) (hts _ wd_275) (fun x9 h9 => u_same (hts _ wd_276) x9 h9) rfl dX9_drainBy_2 ?_
  refine n_iadd hx hb dX9_drainBy_5 ?_
  refine lv_iconst (v := nI 2) hx hb dX9_drainBy_6 (by decide) ?_
  refine n_idiv hx hb (by omega) (by omega) (by omega) dX9_drainBy_7 ?_
  refine hret _ _ _ dX9_drainBy_8 ?_
  rfl
