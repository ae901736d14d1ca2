set_option maxRecDepth 100000 in
set_option maxHeartbeats 4000000 in
theorem c_X11_within (l : Launch) (D : va_G) (ka : Nat → ClassId) (v lo hi : Int32) (V L U : Int) (hv : v.toInt = V) (hlo : lo.toInt = L) (hhi : hi.toInt = U) : RO l D ka yX11_within cX11_within 3 (some .boolean) 0 [.int v, .int lo, .int hi] (fun H => True) (vp_Si (fun r => r = bI (L ≤ V ∧ V ≤ U))) := by
  refine RO.ofZ (by decide) (Nat.le_of_ble_eq_true rfl) ?_
  intro p e s m args below meth c Q X hP hret ls hl
  obtain ⟨hx, hb, hml, hown, hts, hE⟩ := id X
  have hK := hE.1
  have hl : lv_has ls 3 [(0, .int v), (1, .int lo), (2, .int hi)] := hl
  refine lv_iload_n hx hb dX11_within_0 rfl (lv_at hl 0 rfl) ?_
  refine lv_iload_n hx hb dX11_within_1 rfl (lv_at hl 1 rfl) ?_
  refine i_icmp_lt (tgt := 14) hx hb hv hlo dX11_within_2 (by decide) (fun c_1 => ?_) (fun c_1 => ?_)
  · refine lv_iconst (v := nI 0) hx hb dX11_within_14 (by decide) ?_
    refine hret _ _ _ dX11_within_15 (by decide) ?_
    exact (bI_f (by omega)).symm
  · refine lv_iload_n hx hb dX11_within_5 rfl (lv_at hl 0 rfl) ?_
    refine lv_iload_n hx hb dX11_within_6 rfl (lv_at hl 2 rfl) ?_
    refine i_icmp_gt (tgt := 14) hx hb hv hhi dX11_within_7 (by decide) (fun c_2 => ?_) (fun c_2 => ?_)
    · refine lv_iconst (v := nI 0) hx hb dX11_within_14 (by decide) ?_
      refine hret _ _ _ dX11_within_15 (by decide) ?_
      exact (bI_f (by omega)).symm
    · refine lv_iconst (v := nI 1) hx hb dX11_within_10 (by decide) ?_
      refine lv_goto (tgt := 15) hx hb dX11_within_11 (by decide) ?_
      refine hret _ _ _ dX11_within_15 (by decide) ?_
      exact (bI_t (by omega)).symm
set_option maxRecDepth 100000 in
set_option maxHeartbeats 4000000 in
theorem c_X11_isSheet (l : Launch) (D : va_G) (ka : Nat → ClassId) (v : Int32) (V : Int) (hv : v.toInt = V) : RO l D ka yX11_isSheet cX11_isSheet 1 (some .boolean) 1 [.int v] (fun H => True) (vp_Si (fun r => r = bI (0 ≤ V ∧ V ≤ 3))) := by
  refine RO.ofZ (by decide) (Nat.le_of_ble_eq_true rfl) ?_
  intro p e s m args below meth c Q X hP hret ls hl
  obtain ⟨hx, hb, hml, hown, hts, hE⟩ := id X
  have hK := hE.1
  have hl : lv_has ls 1 [(0, .int v)] := hl
  refine lv_iload_n hx hb dX11_isSheet_0 rfl (lv_at hl 0 rfl) ?_
  refine lv_iconst (v := nI 0) hx hb dX11_isSheet_1 (by decide) ?_
  refine lv_iconst (v := nI 3) hx hb dX11_isSheet_2 (by decide) ?_
  refine vp_callSi (ro_runS (c_X11_within l D ka v (nI 0) (nI 3) _ _ _ hv (nT (by decide)) (nT (by decide))) X wd_789 wd_787 wd_788 wd_8 on_X11_within ⟨Nat.le_of_ble_eq_true rfl, Nat.le_of_ble_eq_true rfl⟩ trivial hl.1 rfl (Nat.le_of_ble_eq_true rfl) ⟨(Nat.zero_le _), (Nat.zero_le _)⟩ dX11_isSheet_3) (fun r_1 hr_1 => ?_)
  subst hr_1
  refine hret _ _ _ dX11_isSheet_6 bI_01 ?_
  exact bI_congr (by omega)
set_option maxRecDepth 100000 in
set_option maxHeartbeats 4000000 in
theorem c_X11_isSort (l : Launch) (D : va_G) (ka : Nat → ClassId) (v : Int32) (V : Int) (hv : v.toInt = V) : RO l D ka yX11_isSort cX11_isSort 1 (some .boolean) 1 [.int v] (fun H => True) (vp_Si (fun r => r = bI (0 ≤ V ∧ V ≤ 2))) := by
  refine RO.ofZ (by decide) (Nat.le_of_ble_eq_true rfl) ?_
  intro p e s m args below meth c Q X hP hret ls hl
  obtain ⟨hx, hb, hml, hown, hts, hE⟩ := id X
  have hK := hE.1
  have hl : lv_has ls 1 [(0, .int v)] := hl
  refine lv_iload_n hx hb dX11_isSort_0 rfl (lv_at hl 0 rfl) ?_
  refine lv_iconst (v := nI 0) hx hb dX11_isSort_1 (by decide) ?_
  refine lv_iconst (v := nI 2) hx hb dX11_isSort_2 (by decide) ?_
  refine vp_callSi (ro_runS (c_X11_within l D ka v (nI 0) (nI 2) _ _ _ hv (nT (by decide)) (nT (by decide))) X wd_789 wd_787 wd_788 wd_8 on_X11_within ⟨Nat.le_of_ble_eq_true rfl, Nat.le_of_ble_eq_true rfl⟩ trivial hl.1 rfl (Nat.le_of_ble_eq_true rfl) ⟨(Nat.zero_le _), (Nat.zero_le _)⟩ dX11_isSort_3) (fun r_1 hr_1 => ?_)
  subst hr_1
  refine hret _ _ _ dX11_isSort_6 bI_01 ?_
  exact bI_congr (by omega)
set_option maxRecDepth 100000 in
set_option maxHeartbeats 4000000 in
theorem c_X11_isMinute (l : Launch) (D : va_G) (ka : Nat → ClassId) (v : Int32) (V : Int) (hv : v.toInt = V) : RO l D ka yX11_isMinute cX11_isMinute 1 (some .boolean) 1 [.int v] (fun H => True) (vp_Si (fun r => r = bI (0 ≤ V ∧ V ≤ 59))) := by
  refine RO.ofZ (by decide) (Nat.le_of_ble_eq_true rfl) ?_
  intro p e s m args below meth c Q X hP hret ls hl
  obtain ⟨hx, hb, hml, hown, hts, hE⟩ := id X
  have hK := hE.1
  have hl : lv_has ls 1 [(0, .int v)] := hl
  refine lv_iload_n hx hb dX11_isMinute_0 rfl (lv_at hl 0 rfl) ?_
  refine lv_iconst (v := nI 0) hx hb dX11_isMinute_1 (by decide) ?_
  refine lv_bipush (v := nI 59) hx hb dX11_isMinute_2 (by decide) ?_
  refine vp_callSi (ro_runS (c_X11_within l D ka v (nI 0) (nI 59) _ _ _ hv (nT (by decide)) (nT (by decide))) X wd_789 wd_787 wd_788 wd_8 on_X11_within ⟨Nat.le_of_ble_eq_true rfl, Nat.le_of_ble_eq_true rfl⟩ trivial hl.1 rfl (Nat.le_of_ble_eq_true rfl) ⟨(Nat.zero_le _), (Nat.zero_le _)⟩ dX11_isMinute_4) (fun r_1 hr_1 => ?_)
  subst hr_1
  refine hret _ _ _ dX11_isMinute_7 bI_01 ?_
  exact bI_congr (by omega)
set_option maxRecDepth 100000 in
set_option maxHeartbeats 4000000 in
theorem c_X11_isTaker (l : Launch) (D : va_G) (ka : Nat → ClassId) (h : Nat) (a : Nat → Nat) (N : Nat → Nat → Nat) (C : Nat → Nat → Int32) (f : Nat → Int32) (g : Nat → Nat → Int32) (R : va_W) (k : Int32) (K : Int) (hk : k.toInt = K) (hN : WF N) : RO l D ka yX11_isTaker cX11_isTaker 2 (some .boolean) 0 [.ref h, .int k] (fun H => va_P D vwCl (mw ka h a N C f g ++ R) H) (vp_Si (fun r => r = bI (0 ≤ K ∧ K < (N 0 1 : Int)))) := by
  refine RO.ofZ (by decide) (Nat.le_of_ble_eq_true rfl) ?_
  intro p e s m args below meth c Q X hP hret ls hl
  obtain ⟨hx, hb, hml, hown, hts, hE⟩ := id X
  have hK := hE.1
  have hl : lv_has ls 2 [(0, .ref h), (1, .int k)] := hl
  have hN1 := hN.1
  refine lv_iload_n hx hb dX11_isTaker_0 rfl (lv_at hl 1 rfl) ?_
  refine i_if_lt (tgt := 16) hx hb hk dX11_isTaker_1 (by decide) (fun c_1 => ?_) (fun c_1 => ?_)
  · refine lv_iconst (v := nI 0) hx hb dX11_isTaker_16 (by decide) ?_
    refine hret _ _ _ dX11_isTaker_17 (by decide) ?_
    exact (bI_f (by omega)).symm
  · refine lv_iload_n hx hb dX11_isTaker_4 rfl (lv_at hl 1 rfl) ?_
    refine lv_aload_n hx hb dX11_isTaker_5 rfl (lv_at hl 0 rfl) ?_
    refine va_get (D := D) (ci := 11) (v := .int (nI (N 0 1))) (C := RX11) (T := TX11) (N := 35) hx hb hts inX11 hown hK hP 0 rfl rfl 6 (by decide) (hts _ wd_680) (fun _ h9 => h9) rfl dX11_isTaker_6 ?_
    refine i_icmp_ge (tgt := 16) hx hb hk (nT (by omega)) dX11_isTaker_9 (by decide) (fun c_2 => ?_) (fun c_2 => ?_)
    · refine lv_iconst (v := nI 0) hx hb dX11_isTaker_16 (by decide) ?_
      refine hret _ _ _ dX11_isTaker_17 (by decide) ?_
      exact (bI_f (by omega)).symm
    · refine lv_iconst (v := nI 1) hx hb dX11_isTaker_12 (by decide) ?_
      refine lv_goto (tgt := 17) hx hb dX11_isTaker_13 (by decide) ?_
      refine hret _ _ _ dX11_isTaker_17 (by decide) ?_
      exact (bI_t (by omega)).symm
set_option maxRecDepth 100000 in
set_option maxHeartbeats 4000000 in
theorem c_X11_isPlace (l : Launch) (D : va_G) (ka : Nat → ClassId) (h : Nat) (a : Nat → Nat) (N : Nat → Nat → Nat) (C : Nat → Nat → Int32) (f : Nat → Int32) (g : Nat → Nat → Int32) (R : va_W) (k : Int32) (K : Int) (hk : k.toInt = K) (hN : WF N) : RO l D ka yX11_isPlace cX11_isPlace 2 (some .boolean) 0 [.ref h, .int k] (fun H => va_P D vwCl (mw ka h a N C f g ++ R) H) (vp_Si (fun r => r = bI (0 ≤ K ∧ K < (N 0 0 : Int)))) := by
  refine RO.ofZ (by decide) (Nat.le_of_ble_eq_true rfl) ?_
  intro p e s m args below meth c Q X hP hret ls hl
  obtain ⟨hx, hb, hml, hown, hts, hE⟩ := id X
  have hK := hE.1
  have hl : lv_has ls 2 [(0, .ref h), (1, .int k)] := hl
  have hN1 := hN.1
  refine lv_iload_n hx hb dX11_isPlace_0 rfl (lv_at hl 1 rfl) ?_
  refine i_if_lt (tgt := 16) hx hb hk dX11_isPlace_1 (by decide) (fun c_1 => ?_) (fun c_1 => ?_)
  · refine lv_iconst (v := nI 0) hx hb dX11_isPlace_16 (by decide) ?_
    refine hret _ _ _ dX11_isPlace_17 (by decide) ?_
    exact (bI_f (by omega)).symm
  · refine lv_iload_n hx hb dX11_isPlace_4 rfl (lv_at hl 1 rfl) ?_
    refine lv_aload_n hx hb dX11_isPlace_5 rfl (lv_at hl 0 rfl) ?_
    refine va_get (D := D) (ci := 11) (v := .int (nI (N 0 0))) (C := RX11) (T := TX11) (N := 35) hx hb hts inX11 hown hK hP 0 rfl rfl 5 (by decide) (hts _ wd_679) (fun _ h9 => h9) rfl dX11_isPlace_6 ?_
    refine i_icmp_ge (tgt := 16) hx hb hk (nT (by omega)) dX11_isPlace_9 (by decide) (fun c_2 => ?_) (fun c_2 => ?_)
    · refine lv_iconst (v := nI 0) hx hb dX11_isPlace_16 (by decide) ?_
      refine hret _ _ _ dX11_isPlace_17 (by decide) ?_
      exact (bI_f (by omega)).symm
    · refine lv_iconst (v := nI 1) hx hb dX11_isPlace_12 (by decide) ?_
      refine lv_goto (tgt := 17) hx hb dX11_isPlace_13 (by decide) ?_
      refine hret _ _ _ dX11_isPlace_17 (by decide) ?_
      exact (bI_t (by omega)).symm
set_option maxRecDepth 100000 in
set_option maxHeartbeats 4000000 in
theorem c_X11_against (l : Launch) (D : va_G) (ka : Nat → ClassId) (h : Nat) (a : Nat → Nat) (N : Nat → Nat → Nat) (C : Nat → Nat → Int32) (f : Nat → Int32) (g : Nat → Nat → Int32) (R : va_W) (k q : Nat) (i n : Int32) (I n2 : Int) (hi : i.toInt = I) (hn : n.toInt = n2) (hk : k < 4) (hq : q < 3) (hN : WF N) : RO l D ka yX11_against cX11_against 5 (some .int) 0 [.ref h, .int (nI k), .int (nI q), .int i, .int n] (fun H => va_P D vwCl (mw ka h a N C f g ++ R) H) (vp_Si (fun r => r = nI (agst N k q I n2))) := by
  refine RO.ofI (by decide) (Nat.le_of_ble_eq_true rfl) ?_
  intro p e s m args below meth c Q X hP hret ls hl
  obtain ⟨hx, hb, hml, hown, hts, hE⟩ := id X
  have hK := hE.1
  have hl : lv_has ls 5 [(0, .ref h), (1, .int (nI k)), (2, .int (nI q)), (3, .int i), (4, .int n)] := hl
  have hN1 := hN.1
  have hs9 := hN.2.2.2.2.2.2.2.2.2.1 k
  have hs10 := hN.2.2.2.2.2.2.2.2.2.2 k
  refine lv_aload_n hx hb dX11_against_0 rfl (lv_at hl 0 rfl) ?_
  refine va_get (D := D) (ci := 11) (v := .ref (a 2)) (C := RX11) (T := TX11) (N := 35) hx hb hts inX11 hown hK hP 0 rfl rfl 2 (by decide) (hts _ wd_676) (fun _ h9 => h9) rfl dX11_against_1 ?_
  refine lv_iload_n hx hb dX11_against_4 rfl (lv_at hl 1 rfl) ?_
  refine n_iald hx hb hK hP 1 0 rfl rfl (k := k) (by omega) (by decide) dX11_against_5 ?_
  have hv_1 : N 9 k ≤ 3 := hN.2.2.2.2.2.2.2.2.2.1 k
  refine lv_bipush (v := (-9)) hx hb dX11_against_6 (by decide) ?_
  refine i_icmp_eq (tgt := 23) hx hb (srt_T (by omega)) ng9 dX11_against_8 (by decide) (fun c_2 => ?_) (fun c_2 => ?_)
  · refine lv_aload_n hx hb dX11_against_23 rfl (lv_at hl 0 rfl) ?_
    refine va_get (D := D) (ci := 11) (v := .ref (a 2)) (C := RX11) (T := TX11) (N := 35) hx hb hts inX11 hown hK hP 0 rfl rfl 2 (by decide) (hts _ wd_676) (fun _ h9 => h9) rfl dX11_against_24 ?_
    refine lv_iload_n hx hb dX11_against_27 rfl (lv_at hl 1 rfl) ?_
    refine n_iald hx hb hK hP 1 0 rfl rfl (k := k) (by omega) (by decide) dX11_against_28 ?_
    have hv_3 : N 9 k ≤ 3 := hN.2.2.2.2.2.2.2.2.2.1 k
    refine lv_bipush (v := (-9)) hx hb dX11_against_29 (by decide) ?_
    refine i_icmp_ne (tgt := 36) hx hb (srt_T (by omega)) ng9 dX11_against_31 (by decide) (fun c_4 => ?_) (fun c_4 => ?_)
    · refine lv_iload hx hb dX11_against_36 (lv_at hl 4 rfl) ?_
      refine i_if_ge (tgt := 43) hx hb hn dX11_against_38 (by decide) (fun c_5 => ?_) (fun c_5 => ?_)
      · refine lv_iload_n hx hb dX11_against_43 rfl (lv_at hl 3 rfl) ?_
        refine i_if_lt (tgt := 70) hx hb hi dX11_against_44 (by decide) (fun c_6 => ?_) (fun c_6 => ?_)
        · refine lv_iconst (v := nI 3) hx hb dX11_against_70 (by decide) ?_
          refine lv_goto (tgt := 75) hx hb dX11_against_71 (by decide) ?_
          refine hret _ _ _ dX11_against_75 ?_
          unfold agst
          split at * <;> (repeat' split) <;> first | rfl | omega
        · refine lv_iload_n hx hb dX11_against_47 rfl (lv_at hl 3 rfl) ?_
          refine lv_aload_n hx hb dX11_against_48 rfl (lv_at hl 0 rfl) ?_
          refine va_get (D := D) (ci := 11) (v := .ref (a 3)) (C := RX11) (T := TX11) (N := 35) hx hb hts inX11 hown hK hP 0 rfl rfl 3 (by decide) (hts _ wd_677) (fun _ h9 => h9) rfl dX11_against_49 ?_
          refine lv_iload_n hx hb dX11_against_52 rfl (lv_at hl 1 rfl) ?_
          refine n_iald hx hb hK hP 2 0 rfl rfl (k := k) (by omega) (by decide) dX11_against_53 ?_
          have hv_7 : N 10 k ≤ 60 := hN.2.2.2.2.2.2.2.2.2.2 k
          refine i_icmp_gt (tgt := 70) hx hb hi (nT (by omega)) dX11_against_54 (by decide) (fun c_8 => ?_) (fun c_8 => ?_)
          · refine lv_iconst (v := nI 3) hx hb dX11_against_70 (by decide) ?_
            refine lv_goto (tgt := 75) hx hb dX11_against_71 (by decide) ?_
            refine hret _ _ _ dX11_against_75 ?_
            unfold agst
            split at * <;> (repeat' split) <;> first | rfl | omega
          · obtain ⟨j, hj, hij⟩ : ∃ j : Nat, j < N 10 k + 1 ∧ i = nI j := nat_of (by omega) (by omega)
            have hjT : (nI j).toInt = (j : Int) := nT (by omega)
            rw [← hij, hi] at hjT
            refine lv_iload hx hb dX11_against_57 (lv_at hl 4 rfl) ?_
            refine lv_aload_n hx hb dX11_against_59 rfl (lv_at hl 0 rfl) ?_
            refine va_get (D := D) (ci := 11) (v := .ref (a 3)) (C := RX11) (T := TX11) (N := 35) hx hb hts inX11 hown hK hP 0 rfl rfl 3 (by decide) (hts _ wd_677) (fun _ h9 => h9) rfl dX11_against_60 ?_
            refine lv_iload_n hx hb dX11_against_63 rfl (lv_at hl 1 rfl) ?_
            refine n_iald hx hb hK hP 2 0 rfl rfl (k := k) (by omega) (by decide) dX11_against_64 ?_
            have hv_9 : N 10 k ≤ 60 := hN.2.2.2.2.2.2.2.2.2.2 k
            refine lv_iload_n hx hb dX11_against_65 rfl (lv_at hl 3 rfl) ?_
            refine lv_isub hx hb dX11_against_66 ?_
            refine i_icmp_le (tgt := 74) hx hb hn (show (nI (N 10 k) - i).toInt = ((N 10 k : Int) - I) by rw [hij, pk_sub (by omega), nT (by omega)]; omega) dX11_against_67 (by decide) (fun c_10 => ?_) (fun c_10 => ?_)
            · refine lv_iconst (v := nI 0) hx hb dX11_against_74 (by decide) ?_
              refine hret _ _ _ dX11_against_75 ?_
              unfold agst
              split at * <;> (repeat' split) <;> first | rfl | omega
            · refine lv_iconst (v := nI 3) hx hb dX11_against_70 (by decide) ?_
              refine lv_goto (tgt := 75) hx hb dX11_against_71 (by decide) ?_
              refine hret _ _ _ dX11_against_75 ?_
              unfold agst
              split at * <;> (repeat' split) <;> first | rfl | omega
      · refine lv_iconst (v := nI 4) hx hb dX11_against_41 (by decide) ?_
        refine hret _ _ _ dX11_against_42 ?_
        unfold agst
        split at * <;> (repeat' split) <;> first | rfl | omega
    · refine lv_iconst (v := nI 1) hx hb dX11_against_34 (by decide) ?_
      refine hret _ _ _ dX11_against_35 ?_
      unfold agst
      split at * <;> (repeat' split) <;> first | rfl | omega
  · refine lv_aload_n hx hb dX11_against_11 rfl (lv_at hl 0 rfl) ?_
    refine va_get (D := D) (ci := 11) (v := .ref (a 2)) (C := RX11) (T := TX11) (N := 35) hx hb hts inX11 hown hK hP 0 rfl rfl 2 (by decide) (hts _ wd_676) (fun _ h9 => h9) rfl dX11_against_12 ?_
    refine lv_iload_n hx hb dX11_against_15 rfl (lv_at hl 1 rfl) ?_
    refine n_iald hx hb hK hP 1 0 rfl rfl (k := k) (by omega) (by decide) dX11_against_16 ?_
    have hv_11 : N 9 k ≤ 3 := hN.2.2.2.2.2.2.2.2.2.1 k
    refine lv_iload_n hx hb dX11_against_17 rfl (lv_at hl 2 rfl) ?_
    refine i_icmp_eq (tgt := 23) hx hb (srt_T (by omega)) (nT (by omega)) dX11_against_18 (by decide) (fun c_12 => ?_) (fun c_12 => ?_)
    · refine lv_aload_n hx hb dX11_against_23 rfl (lv_at hl 0 rfl) ?_
      refine va_get (D := D) (ci := 11) (v := .ref (a 2)) (C := RX11) (T := TX11) (N := 35) hx hb hts inX11 hown hK hP 0 rfl rfl 2 (by decide) (hts _ wd_676) (fun _ h9 => h9) rfl dX11_against_24 ?_
      refine lv_iload_n hx hb dX11_against_27 rfl (lv_at hl 1 rfl) ?_
      refine n_iald hx hb hK hP 1 0 rfl rfl (k := k) (by omega) (by decide) dX11_against_28 ?_
      have hv_13 : N 9 k ≤ 3 := hN.2.2.2.2.2.2.2.2.2.1 k
      refine lv_bipush (v := (-9)) hx hb dX11_against_29 (by decide) ?_
      refine i_icmp_ne (tgt := 36) hx hb (srt_T (by omega)) ng9 dX11_against_31 (by decide) (fun c_14 => ?_) (fun c_14 => ?_)
      · refine lv_iload hx hb dX11_against_36 (lv_at hl 4 rfl) ?_
        refine i_if_ge (tgt := 43) hx hb hn dX11_against_38 (by decide) (fun c_15 => ?_) (fun c_15 => ?_)
        · refine lv_iload_n hx hb dX11_against_43 rfl (lv_at hl 3 rfl) ?_
          refine i_if_lt (tgt := 70) hx hb hi dX11_against_44 (by decide) (fun c_16 => ?_) (fun c_16 => ?_)
          · refine lv_iconst (v := nI 3) hx hb dX11_against_70 (by decide) ?_
            refine lv_goto (tgt := 75) hx hb dX11_against_71 (by decide) ?_
            refine hret _ _ _ dX11_against_75 ?_
            unfold agst
            split at * <;> (repeat' split) <;> first | rfl | omega
          · refine lv_iload_n hx hb dX11_against_47 rfl (lv_at hl 3 rfl) ?_
            refine lv_aload_n hx hb dX11_against_48 rfl (lv_at hl 0 rfl) ?_
            refine va_get (D := D) (ci := 11) (v := .ref (a 3)) (C := RX11) (T := TX11) (N := 35) hx hb hts inX11 hown hK hP 0 rfl rfl 3 (by decide) (hts _ wd_677) (fun _ h9 => h9) rfl dX11_against_49 ?_
            refine lv_iload_n hx hb dX11_against_52 rfl (lv_at hl 1 rfl) ?_
            refine n_iald hx hb hK hP 2 0 rfl rfl (k := k) (by omega) (by decide) dX11_against_53 ?_
            have hv_17 : N 10 k ≤ 60 := hN.2.2.2.2.2.2.2.2.2.2 k
            refine i_icmp_gt (tgt := 70) hx hb hi (nT (by omega)) dX11_against_54 (by decide) (fun c_18 => ?_) (fun c_18 => ?_)
            · refine lv_iconst (v := nI 3) hx hb dX11_against_70 (by decide) ?_
              refine lv_goto (tgt := 75) hx hb dX11_against_71 (by decide) ?_
              refine hret _ _ _ dX11_against_75 ?_
              unfold agst
              split at * <;> (repeat' split) <;> first | rfl | omega
            · obtain ⟨j, hj, hij⟩ : ∃ j : Nat, j < N 10 k + 1 ∧ i = nI j := nat_of (by omega) (by omega)
              have hjT : (nI j).toInt = (j : Int) := nT (by omega)
              rw [← hij, hi] at hjT
              refine lv_iload hx hb dX11_against_57 (lv_at hl 4 rfl) ?_
              refine lv_aload_n hx hb dX11_against_59 rfl (lv_at hl 0 rfl) ?_
              refine va_get (D := D) (ci := 11) (v := .ref (a 3)) (C := RX11) (T := TX11) (N := 35) hx hb hts inX11 hown hK hP 0 rfl rfl 3 (by decide) (hts _ wd_677) (fun _ h9 => h9) rfl dX11_against_60 ?_
              refine lv_iload_n hx hb dX11_against_63 rfl (lv_at hl 1 rfl) ?_
              refine n_iald hx hb hK hP 2 0 rfl rfl (k := k) (by omega) (by decide) dX11_against_64 ?_
              have hv_19 : N 10 k ≤ 60 := hN.2.2.2.2.2.2.2.2.2.2 k
              refine lv_iload_n hx hb dX11_against_65 rfl (lv_at hl 3 rfl) ?_
              refine lv_isub hx hb dX11_against_66 ?_
              refine i_icmp_le (tgt := 74) hx hb hn (show (nI (N 10 k) - i).toInt = ((N 10 k : Int) - I) by rw [hij, pk_sub (by omega), nT (by omega)]; omega) dX11_against_67 (by decide) (fun c_20 => ?_) (fun c_20 => ?_)
              · refine lv_iconst (v := nI 0) hx hb dX11_against_74 (by decide) ?_
                refine hret _ _ _ dX11_against_75 ?_
                unfold agst
                split at * <;> (repeat' split) <;> first | rfl | omega
              · refine lv_iconst (v := nI 3) hx hb dX11_against_70 (by decide) ?_
                refine lv_goto (tgt := 75) hx hb dX11_against_71 (by decide) ?_
                refine hret _ _ _ dX11_against_75 ?_
                unfold agst
                split at * <;> (repeat' split) <;> first | rfl | omega
        · refine lv_iconst (v := nI 4) hx hb dX11_against_41 (by decide) ?_
          refine hret _ _ _ dX11_against_42 ?_
          unfold agst
          split at * <;> (repeat' split) <;> first | rfl | omega
      · refine lv_iconst (v := nI 1) hx hb dX11_against_34 (by decide) ?_
        refine hret _ _ _ dX11_against_35 ?_
        unfold agst
        split at * <;> (repeat' split) <;> first | rfl | omega
    · refine lv_iconst (v := nI 2) hx hb dX11_against_21 (by decide) ?_
      refine hret _ _ _ dX11_against_22 ?_
      unfold agst
      split at * <;> (repeat' split) <;> first | rfl | omega
set_option maxRecDepth 100000 in
set_option maxHeartbeats 4000000 in
theorem c_X11_trace (l : Launch) (D : va_G) (ka : Nat → ClassId) (h : Nat) (a : Nat → Nat) (N : Nat → Nat → Nat) (C : Nat → Nat → Int32) (f : Nat → Int32) (g : Nat → Nat → Int32) (R : va_W) : RO l D ka yX11_trace cX11_trace 1 (some .int) 0 [.ref h] (fun H => va_P D vwCl (mw ka h a N C f g ++ R) H) (vp_Si (fun r => r = C 4 60)) := by
  refine RO.ofI (by decide) (Nat.le_of_ble_eq_true rfl) ?_
  intro p e s m args below meth c Q X hP hret ls hl
  obtain ⟨hx, hb, hml, hown, hts, hE⟩ := id X
  have hK := hE.1
  have hl : lv_has ls 1 [(0, .ref h)] := hl
  refine lv_aload_n hx hb dX11_trace_0 rfl (lv_at hl 0 rfl) ?_
  refine va_get (D := D) (ci := 11) (v := .int (C 4 60)) (C := RX11) (T := TX11) (N := 35) hx hb hts inX11 hown hK hP 0 rfl rfl 1 (by decide) (hts _ wd_675) (fun _ h9 => h9) rfl dX11_trace_1 ?_
  refine hret _ _ _ dX11_trace_4 ?_
  rfl
set_option maxRecDepth 100000 in
set_option maxHeartbeats 4000000 in
theorem c_X11_fault (l : Launch) (D : va_G) (ka : Nat → ClassId) (h : Nat) (a : Nat → Nat) (N : Nat → Nat → Nat) (C : Nat → Nat → Int32) (f : Nat → Int32) (g : Nat → Nat → Int32) (R : va_W) : RO l D ka yX11_fault cX11_fault 1 (some .int) 0 [.ref h] (fun H => va_P D vwCl (mw ka h a N C f g ++ R) H) (vp_Si (fun r => r = nI (N 0 4))) := by
  refine RO.ofI (by decide) (Nat.le_of_ble_eq_true rfl) ?_
  intro p e s m args below meth c Q X hP hret ls hl
  obtain ⟨hx, hb, hml, hown, hts, hE⟩ := id X
  have hK := hE.1
  have hl : lv_has ls 1 [(0, .ref h)] := hl
  refine lv_aload_n hx hb dX11_fault_0 rfl (lv_at hl 0 rfl) ?_
  refine va_get (D := D) (ci := 11) (v := .int (nI (N 0 4))) (C := RX11) (T := TX11) (N := 35) hx hb hts inX11 hown hK hP 0 rfl rfl 0 (by decide) (hts _ wd_674) (fun _ h9 => h9) rfl dX11_fault_1 ?_
  refine hret _ _ _ dX11_fault_4 ?_
  rfl
set_option maxRecDepth 100000 in
set_option maxHeartbeats 4000000 in
theorem c_X11_many (l : Launch) (D : va_G) (ka : Nat → ClassId) (h : Nat) (a : Nat → Nat) (N : Nat → Nat → Nat) (C : Nat → Nat → Int32) (f : Nat → Int32) (g : Nat → Nat → Int32) (R : va_W) (k : Int32) (K : Int) (hk : k.toInt = K) : RO l D ka yX11_many cX11_many 2 (some .int) 0 [.ref h, .int k] (fun H => va_P D vwCl (mw ka h a N C f g ++ R) H) (vp_Si (fun r => r = (if K = 0 then nI (N 0 1) else if K = 1 then nI (N 0 2) else if K = 2 then nI (N 0 0) else if K = 3 then nI (N 0 3) else -2))) := by
  refine RO.ofI (by decide) (Nat.le_of_ble_eq_true rfl) ?_
  intro p e s m args below meth c Q X hP hret ls hl
  obtain ⟨hx, hb, hml, hown, hts, hE⟩ := id X
  have hK := hE.1
  have hl : lv_has ls 2 [(0, .ref h), (1, .int k)] := hl
  refine lv_iload_n hx hb dX11_many_0 rfl (lv_at hl 1 rfl) ?_
  refine i_if_ne (tgt := 11) hx hb hk dX11_many_1 (by decide) (fun c_1 => ?_) (fun c_1 => ?_)
  · refine lv_iload_n hx hb dX11_many_11 rfl (lv_at hl 1 rfl) ?_
    refine lv_iconst (v := nI 1) hx hb dX11_many_12 (by decide) ?_
    refine i_icmp_ne (tgt := 23) hx hb hk (nT (by decide)) dX11_many_13 (by decide) (fun c_2 => ?_) (fun c_2 => ?_)
    · refine lv_iload_n hx hb dX11_many_23 rfl (lv_at hl 1 rfl) ?_
      refine lv_iconst (v := nI 2) hx hb dX11_many_24 (by decide) ?_
      refine i_icmp_ne (tgt := 35) hx hb hk (nT (by decide)) dX11_many_25 (by decide) (fun c_3 => ?_) (fun c_3 => ?_)
      · refine lv_iload_n hx hb dX11_many_35 rfl (lv_at hl 1 rfl) ?_
        refine lv_iconst (v := nI 3) hx hb dX11_many_36 (by decide) ?_
        refine i_icmp_ne (tgt := 47) hx hb hk (nT (by decide)) dX11_many_37 (by decide) (fun c_4 => ?_) (fun c_4 => ?_)
        · refine lv_bipush (v := (-2)) hx hb dX11_many_47 (by decide) ?_
          refine hret _ _ _ dX11_many_49 ?_
          (repeat' split) <;> first | rfl | omega
        · refine lv_aload_n hx hb dX11_many_40 rfl (lv_at hl 0 rfl) ?_
          refine va_get (D := D) (ci := 11) (v := .int (nI (N 0 3))) (C := RX11) (T := TX11) (N := 35) hx hb hts inX11 hown hK hP 0 rfl rfl 31 (by decide) (hts _ wd_705) (fun _ h9 => h9) rfl dX11_many_41 ?_
          refine lv_goto (tgt := 49) hx hb dX11_many_44 (by decide) ?_
          refine hret _ _ _ dX11_many_49 ?_
          (repeat' split) <;> first | rfl | omega
      · refine lv_aload_n hx hb dX11_many_28 rfl (lv_at hl 0 rfl) ?_
        refine va_get (D := D) (ci := 11) (v := .int (nI (N 0 0))) (C := RX11) (T := TX11) (N := 35) hx hb hts inX11 hown hK hP 0 rfl rfl 5 (by decide) (hts _ wd_679) (fun _ h9 => h9) rfl dX11_many_29 ?_
        refine lv_goto (tgt := 49) hx hb dX11_many_32 (by decide) ?_
        refine hret _ _ _ dX11_many_49 ?_
        (repeat' split) <;> first | rfl | omega
    · refine lv_aload_n hx hb dX11_many_16 rfl (lv_at hl 0 rfl) ?_
      refine va_get (D := D) (ci := 11) (v := .int (nI (N 0 2))) (C := RX11) (T := TX11) (N := 35) hx hb hts inX11 hown hK hP 0 rfl rfl 7 (by decide) (hts _ wd_681) (fun _ h9 => h9) rfl dX11_many_17 ?_
      refine lv_goto (tgt := 49) hx hb dX11_many_20 (by decide) ?_
      refine hret _ _ _ dX11_many_49 ?_
      (repeat' split) <;> first | rfl | omega
  · refine lv_aload_n hx hb dX11_many_4 rfl (lv_at hl 0 rfl) ?_
    refine va_get (D := D) (ci := 11) (v := .int (nI (N 0 1))) (C := RX11) (T := TX11) (N := 35) hx hb hts inX11 hown hK hP 0 rfl rfl 6 (by decide) (hts _ wd_680) (fun _ h9 => h9) rfl dX11_many_5 ?_
    refine lv_goto (tgt := 49) hx hb dX11_many_8 (by decide) ?_
    refine hret _ _ _ dX11_many_49 ?_
    (repeat' split) <;> first | rfl | omega
set_option maxRecDepth 100000 in
set_option maxHeartbeats 4000000 in
theorem c_X11_depth (l : Launch) (D : va_G) (ka : Nat → ClassId) (h : Nat) (a : Nat → Nat) (N : Nat → Nat → Nat) (C : Nat → Nat → Int32) (f : Nat → Int32) (g : Nat → Nat → Int32) (R : va_W) (k : Int32) (K : Int) (hk : k.toInt = K) (hN : WF N) : RO l D ka yX11_depth cX11_depth 2 (some .int) 0 [.ref h, .int k] (fun H => va_P D vwCl (mw ka h a N C f g ++ R) H) (vp_Si (fun r => r = (if 0 ≤ K ∧ K < (N 0 2 : Int) then nI (N 5 K.toNat) else -1))) := by
  refine RO.ofI (by decide) (Nat.le_of_ble_eq_true rfl) ?_
  intro p e s m args below meth c Q X hP hret ls hl
  obtain ⟨hx, hb, hml, hown, hts, hE⟩ := id X
  have hK := hE.1
  have hl : lv_has ls 2 [(0, .ref h), (1, .int k)] := hl
  have hN1 := hN.1
  refine lv_iload_n hx hb dX11_depth_0 rfl (lv_at hl 1 rfl) ?_
  refine i_if_lt (tgt := 21) hx hb hk dX11_depth_1 (by decide) (fun c_1 => ?_) (fun c_1 => ?_)
  · refine lv_iconst (v := (-1)) hx hb dX11_depth_21 (by decide) ?_
    refine hret _ _ _ dX11_depth_22 ?_
    (repeat' split) <;> first | rfl | omega
  · refine lv_iload_n hx hb dX11_depth_4 rfl (lv_at hl 1 rfl) ?_
    refine lv_aload_n hx hb dX11_depth_5 rfl (lv_at hl 0 rfl) ?_
    refine va_get (D := D) (ci := 11) (v := .int (nI (N 0 2))) (C := RX11) (T := TX11) (N := 35) hx hb hts inX11 hown hK hP 0 rfl rfl 7 (by decide) (hts _ wd_681) (fun _ h9 => h9) rfl dX11_depth_6 ?_
    refine i_icmp_ge (tgt := 21) hx hb hk (nT (by omega)) dX11_depth_9 (by decide) (fun c_2 => ?_) (fun c_2 => ?_)
    · refine lv_iconst (v := (-1)) hx hb dX11_depth_21 (by decide) ?_
      refine hret _ _ _ dX11_depth_22 ?_
      (repeat' split) <;> first | rfl | omega
    · obtain ⟨j, hlt_j, rfl, rfl⟩ := nat_ofK (n := N 0 2) hk (by omega) (by omega)
      refine lv_aload_n hx hb dX11_depth_12 rfl (lv_at hl 0 rfl) ?_
      refine va_get (D := D) (ci := 11) (v := .ref (a 12)) (C := RX11) (T := TX11) (N := 35) hx hb hts inX11 hown hK hP 0 rfl rfl 12 (by decide) (hts _ wd_686) (fun _ h9 => h9) rfl dX11_depth_13 ?_
      refine lv_iload_n hx hb dX11_depth_16 rfl (lv_at hl 1 rfl) ?_
      refine n_iald hx hb hK hP 8 0 rfl rfl (k := j) (by omega) (by decide) dX11_depth_17 ?_
      have hv_3 : N 5 j ≤ 9 := hN.2.2.2.2.2.1 j
      refine lv_goto (tgt := 22) hx hb dX11_depth_18 (by decide) ?_
      refine hret _ _ _ dX11_depth_22 ?_
      (repeat' split) <;> first | rfl | omega
set_option maxRecDepth 100000 in
set_option maxHeartbeats 4000000 in
theorem c_X11_gloom (l : Launch) (D : va_G) (ka : Nat → ClassId) (h : Nat) (a : Nat → Nat) (N : Nat → Nat → Nat) (C : Nat → Nat → Int32) (f : Nat → Int32) (g : Nat → Nat → Int32) (R : va_W) (k : Int32) (K : Int) (hk : k.toInt = K) (hN : WF N) : RO l D ka yX11_gloom cX11_gloom 2 (some .int) 1 [.ref h, .int k] (fun H => va_P D vwCl (mw ka h a N C f g ++ R) H) (vp_Si (fun r => r = (if 0 ≤ K ∧ K < (N 0 0 : Int) then nI (N 1 K.toNat) else -1))) := by
  refine RO.ofI (by decide) (Nat.le_of_ble_eq_true rfl) ?_
  intro p e s m args below meth c Q X hP hret ls hl
  obtain ⟨hx, hb, hml, hown, hts, hE⟩ := id X
  have hK := hE.1
  have hl : lv_has ls 2 [(0, .ref h), (1, .int k)] := hl
  have hN1 := hN.1
  refine lv_aload_n hx hb dX11_gloom_0 rfl (lv_at hl 0 rfl) ?_
  refine lv_iload_n hx hb dX11_gloom_1 rfl (lv_at hl 1 rfl) ?_
  refine vp_callSi (ro_runV (c_X11_isPlace l D ka h a N C f g R k _ hk hN) X wd_848 wd_845 wd_847 ws_12 wd_8 on_X11_isPlace ⟨Nat.le_of_ble_eq_true rfl, Nat.le_of_ble_eq_true rfl⟩ (va_recv hK hP (ci := 11) (q0 := 0) rfl rfl) hP hl.1 rfl (Nat.le_of_ble_eq_true rfl) ⟨(Nat.zero_le _), (Nat.zero_le _)⟩ dX11_gloom_2) (fun r_1 hr_1 => ?_)
  subst hr_1
  refine b_if_eq (tgt := 17) hx hb dX11_gloom_5 (by decide) (fun c_2 => ?_) (fun c_2 => ?_)
  · refine lv_iconst (v := (-1)) hx hb dX11_gloom_17 (by decide) ?_
    refine hret _ _ _ dX11_gloom_18 ?_
    (repeat' split) <;> first | rfl | omega
  · obtain ⟨j, hlt_j, rfl, rfl⟩ := nat_ofK (n := N 0 0) hk (by omega) (by omega)
    refine lv_aload_n hx hb dX11_gloom_8 rfl (lv_at hl 0 rfl) ?_
    refine va_get (D := D) (ci := 11) (v := .ref (a 8)) (C := RX11) (T := TX11) (N := 35) hx hb hts inX11 hown hK hP 0 rfl rfl 8 (by decide) (hts _ wd_682) (fun _ h9 => h9) rfl dX11_gloom_9 ?_
    refine lv_iload_n hx hb dX11_gloom_12 rfl (lv_at hl 1 rfl) ?_
    refine n_iald hx hb hK hP 4 0 rfl rfl (k := j) (by omega) (by decide) dX11_gloom_13 ?_
    have hv_3 : N 1 j ≤ 9 := hN.2.1 j
    refine lv_goto (tgt := 18) hx hb dX11_gloom_14 (by decide) ?_
    refine hret _ _ _ dX11_gloom_18 ?_
    (repeat' split) <;> first | rfl | omega
set_option maxRecDepth 100000 in
set_option maxHeartbeats 4000000 in
theorem c_X11_ofTaker (l : Launch) (D : va_G) (ka : Nat → ClassId) (h : Nat) (a : Nat → Nat) (N : Nat → Nat → Nat) (C : Nat → Nat → Int32) (f : Nat → Int32) (g : Nat → Nat → Int32) (R : va_W) (k q : Int32) (K q2 : Int) (hk : k.toInt = K) (hq : q.toInt = q2) (hN : WF N) : RO l D ka yX11_ofTaker cX11_ofTaker 3 (some .int) 1 [.ref h, .int k, .int q] (fun H => va_P D vwCl (mw ka h a N C f g ++ R) H) (vp_Si (fun r => r = (if 0 ≤ K ∧ K < (N 0 1 : Int) then (if q2 = 0 then nI (N 2 K.toNat) else if q2 = 1 then nI (N 3 K.toNat) else if q2 = 2 then nI (N 4 K.toNat) else -2) else -1))) := by
  refine RO.ofI (by decide) (Nat.le_of_ble_eq_true rfl) ?_
  intro p e s m args below meth c Q X hP hret ls hl
  obtain ⟨hx, hb, hml, hown, hts, hE⟩ := id X
  have hK := hE.1
  have hl : lv_has ls 3 [(0, .ref h), (1, .int k), (2, .int q)] := hl
  have hN1 := hN.1
  refine lv_aload_n hx hb dX11_ofTaker_0 rfl (lv_at hl 0 rfl) ?_
  refine lv_iload_n hx hb dX11_ofTaker_1 rfl (lv_at hl 1 rfl) ?_
  refine vp_callSi (ro_runV (c_X11_isTaker l D ka h a N C f g R k _ hk hN) X wd_836 wd_833 wd_835 ws_11 wd_8 on_X11_isTaker ⟨Nat.le_of_ble_eq_true rfl, Nat.le_of_ble_eq_true rfl⟩ (va_recv hK hP (ci := 11) (q0 := 0) rfl rfl) hP hl.1 rfl (Nat.le_of_ble_eq_true rfl) ⟨(Nat.zero_le _), (Nat.zero_le _)⟩ dX11_ofTaker_2) (fun r_1 hr_1 => ?_)
  subst hr_1
  refine b_if_ne (tgt := 10) hx hb dX11_ofTaker_5 (by decide) (fun c_2 => ?_) (fun c_2 => ?_)
  · obtain ⟨j, hlt_j, rfl, rfl⟩ := nat_ofK (n := N 0 1) hk (by omega) (by omega)
    refine lv_iload_n hx hb dX11_ofTaker_10 rfl (lv_at hl 2 rfl) ?_
    refine i_if_ne (tgt := 23) hx hb hq dX11_ofTaker_11 (by decide) (fun c_3 => ?_) (fun c_3 => ?_)
    · refine lv_iload_n hx hb dX11_ofTaker_23 rfl (lv_at hl 2 rfl) ?_
      refine lv_iconst (v := nI 1) hx hb dX11_ofTaker_24 (by decide) ?_
      refine i_icmp_ne (tgt := 37) hx hb hq (nT (by decide)) dX11_ofTaker_25 (by decide) (fun c_4 => ?_) (fun c_4 => ?_)
      · refine lv_iload_n hx hb dX11_ofTaker_37 rfl (lv_at hl 2 rfl) ?_
        refine lv_iconst (v := nI 2) hx hb dX11_ofTaker_38 (by decide) ?_
        refine i_icmp_ne (tgt := 51) hx hb hq (nT (by decide)) dX11_ofTaker_39 (by decide) (fun c_5 => ?_) (fun c_5 => ?_)
        · refine lv_bipush (v := (-2)) hx hb dX11_ofTaker_51 (by decide) ?_
          refine hret _ _ _ dX11_ofTaker_53 ?_
          (repeat' split) <;> first | rfl | omega
        · refine lv_aload_n hx hb dX11_ofTaker_42 rfl (lv_at hl 0 rfl) ?_
          refine va_get (D := D) (ci := 11) (v := .ref (a 11)) (C := RX11) (T := TX11) (N := 35) hx hb hts inX11 hown hK hP 0 rfl rfl 11 (by decide) (hts _ wd_685) (fun _ h9 => h9) rfl dX11_ofTaker_43 ?_
          refine lv_iload_n hx hb dX11_ofTaker_46 rfl (lv_at hl 1 rfl) ?_
          refine n_iald hx hb hK hP 7 0 rfl rfl (k := j) (by omega) (by decide) dX11_ofTaker_47 ?_
          have hv_6 : N 4 j ≤ 9 := hN.2.2.2.2.1 j
          refine lv_goto (tgt := 53) hx hb dX11_ofTaker_48 (by decide) ?_
          refine hret _ _ _ dX11_ofTaker_53 ?_
          (repeat' split) <;> first | rfl | omega
      · refine lv_aload_n hx hb dX11_ofTaker_28 rfl (lv_at hl 0 rfl) ?_
        refine va_get (D := D) (ci := 11) (v := .ref (a 10)) (C := RX11) (T := TX11) (N := 35) hx hb hts inX11 hown hK hP 0 rfl rfl 10 (by decide) (hts _ wd_684) (fun _ h9 => h9) rfl dX11_ofTaker_29 ?_
        refine lv_iload_n hx hb dX11_ofTaker_32 rfl (lv_at hl 1 rfl) ?_
        refine n_iald hx hb hK hP 6 0 rfl rfl (k := j) (by omega) (by decide) dX11_ofTaker_33 ?_
        have hv_7 : N 3 j ≤ 99 := hN.2.2.2.1 j
        refine lv_goto (tgt := 53) hx hb dX11_ofTaker_34 (by decide) ?_
        refine hret _ _ _ dX11_ofTaker_53 ?_
        (repeat' split) <;> first | rfl | omega
    · refine lv_aload_n hx hb dX11_ofTaker_14 rfl (lv_at hl 0 rfl) ?_
      refine va_get (D := D) (ci := 11) (v := .ref (a 9)) (C := RX11) (T := TX11) (N := 35) hx hb hts inX11 hown hK hP 0 rfl rfl 9 (by decide) (hts _ wd_683) (fun _ h9 => h9) rfl dX11_ofTaker_15 ?_
      refine lv_iload_n hx hb dX11_ofTaker_18 rfl (lv_at hl 1 rfl) ?_
      refine n_iald hx hb hK hP 5 0 rfl rfl (k := j) (by omega) (by decide) dX11_ofTaker_19 ?_
      have hv_8 : N 2 j ≤ 2 := hN.2.2.1 j
      refine lv_goto (tgt := 53) hx hb dX11_ofTaker_20 (by decide) ?_
      refine hret _ _ _ dX11_ofTaker_53 ?_
      (repeat' split) <;> first | rfl | omega
  · refine lv_iconst (v := (-1)) hx hb dX11_ofTaker_8 (by decide) ?_
    refine hret _ _ _ dX11_ofTaker_9 ?_
    (repeat' split) <;> first | rfl | omega
set_option maxRecDepth 100000 in
set_option maxHeartbeats 4000000 in
theorem c_X11_drainOf (l : Launch) (D : va_G) (ka : Nat → ClassId) (h : Nat) (a : Nat → Nat) (N : Nat → Nat → Nat) (C : Nat → Nat → Int32) (f : Nat → Int32) (g : Nat → Nat → Int32) (R : va_W) (j m0 : Nat) (hj : j < 5) (hm : m0 < 1000) (hp : 0 < N 0 0) (hN : WF N) : RO l D ka yX11_drainOf cX11_drainOf 5 (some .int) 0 [.ref h, .int (nI j), .int (nI m0)] (fun H => va_P D vwCl (mw ka h a N C f g ++ R) H) (vp_Si (fun r => r = nI (drn N j m0))) := by
  refine RO.ofI (by decide) (Nat.le_of_ble_eq_true rfl) ?_
  intro p e s m args below meth c Q X hP hret ls hl
  obtain ⟨hx, hb, hml, hown, hts, hE⟩ := id X
  have hK := hE.1
  have hl : lv_has ls 5 [(0, .ref h), (1, .int (nI j)), (2, .int (nI m0))] := hl
  have hN1 := hN.1
  have hmp : m0 % N 0 0 < N 0 0 := Nat.mod_lt _ hp
  refine lv_iload_n hx hb dX11_drainOf_0 rfl (lv_at hl 2 rfl) ?_
  refine lv_aload_n hx hb dX11_drainOf_1 rfl (lv_at hl 0 rfl) ?_
  refine va_get (D := D) (ci := 11) (v := .int (nI (N 0 0))) (C := RX11) (T := TX11) (N := 35) hx hb hts inX11 hown hK hP 0 rfl rfl 5 (by decide) (hts _ wd_679) (fun _ h9 => h9) rfl dX11_drainOf_2 ?_
  refine n_irem hx hb (by omega) (by omega) (by omega) dX11_drainOf_5 ?_
  refine lv_istore_n (lv' := [(3, .int (nI (m0 % (N 0 0)))), (0, .ref h), (1, .int (nI j)), (2, .int (nI m0))]) hx hb dX11_drainOf_6 rfl hl (by decide) rfl (fun ls hl => ?_)
  refine lv_aload_n hx hb dX11_drainOf_7 rfl (lv_at hl 1 rfl) ?_
  refine va_get (D := D) (ci := 11) (v := .int (nI (N 0 5))) (C := RX11) (T := TX11) (N := 35) hx hb hts inX11 hown hK hP 0 rfl rfl 22 (by decide) (hts _ wd_696) (fun _ h9 => h9) rfl dX11_drainOf_8 ?_
  refine lv_iload_n hx hb dX11_drainOf_11 rfl (lv_at hl 0 rfl) ?_
  refine lv_ishr hx hb dX11_drainOf_12 ?_
  rw [n_shr (a := N 0 5) (k := m0 % (N 0 0)) (by omega) (by omega)]
  refine lv_iconst (v := nI 1) hx hb dX11_drainOf_13 (by decide) ?_
  refine lv_iand hx hb dX11_drainOf_14 ?_
  rw [n_and1 (a := (N 0 5) / 2 ^ (m0 % (N 0 0))) (Nat.lt_of_le_of_lt (Nat.div_le_self _ _) (by omega))]
  refine lv_iconst (v := nI 1) hx hb dX11_drainOf_15 (by decide) ?_
  refine i_icmp_ne (tgt := 23) hx hb (nT (by omega)) (nT (by decide)) dX11_drainOf_16 (by decide) (fun c_1 => ?_) (fun c_1 => ?_)
  · refine lv_aload_n hx hb dX11_drainOf_23 rfl (lv_at hl 1 rfl) ?_
    refine va_get (D := D) (ci := 11) (v := .ref (a 8)) (C := RX11) (T := TX11) (N := 35) hx hb hts inX11 hown hK hP 0 rfl rfl 8 (by decide) (hts _ wd_682) (fun _ h9 => h9) rfl dX11_drainOf_24 ?_
    refine lv_iload_n hx hb dX11_drainOf_27 rfl (lv_at hl 0 rfl) ?_
    refine n_iald hx hb hK hP 4 0 rfl rfl (k := m0 % (N 0 0)) (by omega) (by decide) dX11_drainOf_28 ?_
    have hv_2 : N 1 (m0 % (N 0 0)) ≤ 9 := hN.2.1 (m0 % (N 0 0))
    refine lv_aload_n hx hb dX11_drainOf_29 rfl (lv_at hl 1 rfl) ?_
    refine va_get (D := D) (ci := 11) (v := .ref (a 11)) (C := RX11) (T := TX11) (N := 35) hx hb hts inX11 hown hK hP 0 rfl rfl 11 (by decide) (hts _ wd_685) (fun _ h9 => h9) rfl dX11_drainOf_30 ?_
    refine lv_iload_n hx hb dX11_drainOf_33 rfl (lv_at hl 2 rfl) ?_
    refine n_iald hx hb hK hP 7 0 rfl rfl (k := j) (by omega) (by decide) dX11_drainOf_34 ?_
    have hv_3 : N 4 j ≤ 9 := hN.2.2.2.2.1 j
    refine n_iadd hx hb dX11_drainOf_35 ?_
    refine lv_istore (lv' := [(4, .int (nI ((N 1 (m0 % (N 0 0))) + (N 4 j)))), (3, .int (nI (m0 % (N 0 0)))), (0, .ref h), (1, .int (nI j)), (2, .int (nI m0))]) hx hb dX11_drainOf_36 hl (by decide) rfl (fun ls hl => ?_)
    refine lv_aload_n hx hb dX11_drainOf_38 rfl (lv_at hl 2 rfl) ?_
    refine va_get (D := D) (ci := 11) (v := .ref (a 9)) (C := RX11) (T := TX11) (N := 35) hx hb hts inX11 hown hK hP 0 rfl rfl 9 (by decide) (hts _ wd_683) (fun _ h9 => h9) rfl dX11_drainOf_39 ?_
    refine lv_iload_n hx hb dX11_drainOf_42 rfl (lv_at hl 3 rfl) ?_
    refine n_iald hx hb hK hP 5 0 rfl rfl (k := j) (by omega) (by decide) dX11_drainOf_43 ?_
    have hv_4 : N 2 j ≤ 2 := hN.2.2.1 j
    refine lv_iconst (v := nI 1) hx hb dX11_drainOf_44 (by decide) ?_
    refine i_icmp_ne (tgt := 62) hx hb (nT (by omega)) (nT (by decide)) dX11_drainOf_45 (by decide) (fun c_5 => ?_) (fun c_5 => ?_)
    · refine lv_aload_n hx hb dX11_drainOf_62 rfl (lv_at hl 2 rfl) ?_
      refine va_get (D := D) (ci := 11) (v := .ref (a 9)) (C := RX11) (T := TX11) (N := 35) hx hb hts inX11 hown hK hP 0 rfl rfl 9 (by decide) (hts _ wd_683) (fun _ h9 => h9) rfl dX11_drainOf_63 ?_
      refine lv_iload_n hx hb dX11_drainOf_66 rfl (lv_at hl 3 rfl) ?_
      refine n_iald hx hb hK hP 5 0 rfl rfl (k := j) (by omega) (by decide) dX11_drainOf_67 ?_
      have hv_6 : N 2 j ≤ 2 := hN.2.2.1 j
      refine i_if_ne (tgt := 76) hx hb (nT (by omega)) dX11_drainOf_68 (by decide) (fun c_7 => ?_) (fun c_7 => ?_)
      · refine lv_iload hx hb dX11_drainOf_76 (lv_at hl 0 rfl) ?_
        refine lv_iconst (v := nI 2) hx hb dX11_drainOf_78 (by decide) ?_
        refine n_idiv hx hb (by omega) (by omega) (by omega) dX11_drainOf_79 ?_
        refine hret _ _ _ dX11_drainOf_80 ?_
        unfold drn dr0
        (repeat' split) <;> first | rfl | omega | (congr 1; omega)
      · refine lv_iload hx hb dX11_drainOf_71 (lv_at hl 0 rfl) ?_
        refine lv_goto (tgt := 80) hx hb dX11_drainOf_73 (by decide) ?_
        refine hret _ _ _ dX11_drainOf_80 ?_
        unfold drn dr0
        (repeat' split) <;> first | rfl | omega | (congr 1; omega)
    · refine lv_iload hx hb dX11_drainOf_48 (lv_at hl 0 rfl) ?_
      refine i_if_le (tgt := 60) hx hb (nT (by omega)) dX11_drainOf_50 (by decide) (fun c_8 => ?_) (fun c_8 => ?_)
      · refine lv_iconst (v := nI 0) hx hb dX11_drainOf_60 (by decide) ?_
        refine hret _ _ _ dX11_drainOf_61 ?_
        unfold drn dr0
        (repeat' split) <;> first | rfl | omega | (congr 1; omega)
      · refine lv_iload hx hb dX11_drainOf_53 (lv_at hl 0 rfl) ?_
        refine lv_iconst (v := nI 1) hx hb dX11_drainOf_55 (by decide) ?_
        refine n_isub hx hb (by omega) dX11_drainOf_56 ?_
        refine lv_goto (tgt := 61) hx hb dX11_drainOf_57 (by decide) ?_
        refine hret _ _ _ dX11_drainOf_61 ?_
        unfold drn dr0
        (repeat' split) <;> first | rfl | omega | (congr 1; omega)
  · refine lv_iconst (v := nI 0) hx hb dX11_drainOf_19 (by decide) ?_
    refine lv_goto (tgt := 29) hx hb dX11_drainOf_20 (by decide) ?_
    refine lv_aload_n hx hb dX11_drainOf_29 rfl (lv_at hl 1 rfl) ?_
    refine va_get (D := D) (ci := 11) (v := .ref (a 11)) (C := RX11) (T := TX11) (N := 35) hx hb hts inX11 hown hK hP 0 rfl rfl 11 (by decide) (hts _ wd_685) (fun _ h9 => h9) rfl dX11_drainOf_30 ?_
    refine lv_iload_n hx hb dX11_drainOf_33 rfl (lv_at hl 2 rfl) ?_
    refine n_iald hx hb hK hP 7 0 rfl rfl (k := j) (by omega) (by decide) dX11_drainOf_34 ?_
    have hv_9 : N 4 j ≤ 9 := hN.2.2.2.2.1 j
    refine n_iadd hx hb dX11_drainOf_35 ?_
    refine lv_istore (lv' := [(4, .int (nI (0 + (N 4 j)))), (3, .int (nI (m0 % (N 0 0)))), (0, .ref h), (1, .int (nI j)), (2, .int (nI m0))]) hx hb dX11_drainOf_36 hl (by decide) rfl (fun ls hl => ?_)
    refine lv_aload_n hx hb dX11_drainOf_38 rfl (lv_at hl 2 rfl) ?_
    refine va_get (D := D) (ci := 11) (v := .ref (a 9)) (C := RX11) (T := TX11) (N := 35) hx hb hts inX11 hown hK hP 0 rfl rfl 9 (by decide) (hts _ wd_683) (fun _ h9 => h9) rfl dX11_drainOf_39 ?_
    refine lv_iload_n hx hb dX11_drainOf_42 rfl (lv_at hl 3 rfl) ?_
    refine n_iald hx hb hK hP 5 0 rfl rfl (k := j) (by omega) (by decide) dX11_drainOf_43 ?_
    have hv_10 : N 2 j ≤ 2 := hN.2.2.1 j
    refine lv_iconst (v := nI 1) hx hb dX11_drainOf_44 (by decide) ?_
    refine i_icmp_ne (tgt := 62) hx hb (nT (by omega)) (nT (by decide)) dX11_drainOf_45 (by decide) (fun c_11 => ?_) (fun c_11 => ?_)
    · refine lv_aload_n hx hb dX11_drainOf_62 rfl (lv_at hl 2 rfl) ?_
      refine va_get (D := D) (ci := 11) (v := .ref (a 9)) (C := RX11) (T := TX11) (N := 35) hx hb hts inX11 hown hK hP 0 rfl rfl 9 (by decide) (hts _ wd_683) (fun _ h9 => h9) rfl dX11_drainOf_63 ?_
      refine lv_iload_n hx hb dX11_drainOf_66 rfl (lv_at hl 3 rfl) ?_
      refine n_iald hx hb hK hP 5 0 rfl rfl (k := j) (by omega) (by decide) dX11_drainOf_67 ?_
      have hv_12 : N 2 j ≤ 2 := hN.2.2.1 j
      refine i_if_ne (tgt := 76) hx hb (nT (by omega)) dX11_drainOf_68 (by decide) (fun c_13 => ?_) (fun c_13 => ?_)
      · refine lv_iload hx hb dX11_drainOf_76 (lv_at hl 0 rfl) ?_
        refine lv_iconst (v := nI 2) hx hb dX11_drainOf_78 (by decide) ?_
        refine n_idiv hx hb (by omega) (by omega) (by omega) dX11_drainOf_79 ?_
        refine hret _ _ _ dX11_drainOf_80 ?_
        unfold drn dr0
        (repeat' split) <;> first | rfl | omega | (congr 1; omega)
      · refine lv_iload hx hb dX11_drainOf_71 (lv_at hl 0 rfl) ?_
        refine lv_goto (tgt := 80) hx hb dX11_drainOf_73 (by decide) ?_
        refine hret _ _ _ dX11_drainOf_80 ?_
        unfold drn dr0
        (repeat' split) <;> first | rfl | omega | (congr 1; omega)
    · refine lv_iload hx hb dX11_drainOf_48 (lv_at hl 0 rfl) ?_
      refine i_if_le (tgt := 60) hx hb (nT (by omega)) dX11_drainOf_50 (by decide) (fun c_14 => ?_) (fun c_14 => ?_)
      · refine lv_iconst (v := nI 0) hx hb dX11_drainOf_60 (by decide) ?_
        refine hret _ _ _ dX11_drainOf_61 ?_
        unfold drn dr0
        (repeat' split) <;> first | rfl | omega | (congr 1; omega)
      · refine lv_iload hx hb dX11_drainOf_53 (lv_at hl 0 rfl) ?_
        refine lv_iconst (v := nI 1) hx hb dX11_drainOf_55 (by decide) ?_
        refine n_isub hx hb (by omega) dX11_drainOf_56 ?_
        refine lv_goto (tgt := 61) hx hb dX11_drainOf_57 (by decide) ?_
        refine hret _ _ _ dX11_drainOf_61 ?_
        unfold drn dr0
        (repeat' split) <;> first | rfl | omega | (congr 1; omega)
set_option maxRecDepth 100000 in
set_option maxHeartbeats 4000000 in
theorem c_X11_drain (l : Launch) (D : va_G) (ka : Nat → ClassId) (h : Nat) (a : Nat → Nat) (N : Nat → Nat → Nat) (C : Nat → Nat → Int32) (f : Nat → Int32) (g : Nat → Nat → Int32) (R : va_W) (k q : Int32) (K q2 : Int) (hk : k.toInt = K) (hq : q.toInt = q2) (hN : WF N) : RO l D ka yX11_drain cX11_drain 3 (some .int) 1 [.ref h, .int k, .int q] (fun H => va_P D vwCl (mw ka h a N C f g ++ R) H) (vp_Si (fun r => r = (if 0 ≤ K ∧ K < (N 0 1 : Int) then (if 0 ≤ q2 ∧ q2 ≤ 99 then nI (drn N K.toNat q2.toNat) else -2) else -1))) := by
  refine RO.ofI (by decide) (Nat.le_of_ble_eq_true rfl) ?_
  intro p e s m args below meth c Q X hP hret ls hl
  obtain ⟨hx, hb, hml, hown, hts, hE⟩ := id X
  have hK := hE.1
  have hl : lv_has ls 3 [(0, .ref h), (1, .int k), (2, .int q)] := hl
  have hN1 := hN.1
  refine lv_aload_n hx hb dX11_drain_0 rfl (lv_at hl 0 rfl) ?_
  refine lv_iload_n hx hb dX11_drain_1 rfl (lv_at hl 1 rfl) ?_
  refine vp_callSi (ro_runV (c_X11_isTaker l D ka h a N C f g R k _ hk hN) X wd_836 wd_833 wd_835 ws_11 wd_8 on_X11_isTaker ⟨Nat.le_of_ble_eq_true rfl, Nat.le_of_ble_eq_true rfl⟩ (va_recv hK hP (ci := 11) (q0 := 0) rfl rfl) hP hl.1 rfl (Nat.le_of_ble_eq_true rfl) ⟨(Nat.zero_le _), (Nat.zero_le _)⟩ dX11_drain_2) (fun r_1 hr_1 => ?_)
  subst hr_1
  refine b_if_ne (tgt := 10) hx hb dX11_drain_5 (by decide) (fun c_2 => ?_) (fun c_2 => ?_)
  · obtain ⟨j, hlt_j, rfl, rfl⟩ := nat_ofK (n := N 0 1) hk (by omega) (by omega)
    refine lv_iload_n hx hb dX11_drain_10 rfl (lv_at hl 2 rfl) ?_
    refine lv_iconst (v := nI 0) hx hb dX11_drain_11 (by decide) ?_
    refine lv_bipush (v := nI 99) hx hb dX11_drain_12 (by decide) ?_
    refine vp_callSi (ro_runS (c_X11_within l D ka q (nI 0) (nI 99) _ _ _ hq (nT (by decide)) (nT (by decide))) X wd_789 wd_787 wd_788 wd_8 on_X11_within ⟨Nat.le_of_ble_eq_true rfl, Nat.le_of_ble_eq_true rfl⟩ trivial hl.1 rfl (Nat.le_of_ble_eq_true rfl) ⟨(Nat.zero_le _), (Nat.zero_le _)⟩ dX11_drain_14) (fun r_3 hr_3 => ?_)
    subst hr_3
    refine b_if_eq (tgt := 29) hx hb dX11_drain_17 (by decide) (fun c_4 => ?_) (fun c_4 => ?_)
    · refine lv_bipush (v := (-2)) hx hb dX11_drain_29 (by decide) ?_
      refine hret _ _ _ dX11_drain_31 ?_
      (repeat' split) <;> first | rfl | omega
    · obtain ⟨i, hlt_i, rfl, rfl⟩ := nat_ofK (n := 100) hq (by omega) (by omega)
      refine lv_aload_n hx hb dX11_drain_20 rfl (lv_at hl 0 rfl) ?_
      refine lv_iload_n hx hb dX11_drain_21 rfl (lv_at hl 1 rfl) ?_
      refine lv_iload_n hx hb dX11_drain_22 rfl (lv_at hl 2 rfl) ?_
      refine vp_callSi (ro_runV (c_X11_drainOf l D ka h a N C f g R j i (by omega) (by omega) (show 0 < N 0 0 by omega) hN) X wd_868 wd_865 wd_867 ws_13 wd_8 on_X11_drainOf ⟨Nat.le_of_ble_eq_true rfl, Nat.le_of_ble_eq_true rfl⟩ (va_recv hK hP (ci := 11) (q0 := 0) rfl rfl) hP hl.1 rfl (Nat.le_of_ble_eq_true rfl) ⟨(Nat.zero_le _), (Nat.zero_le _)⟩ dX11_drain_23) (fun r_6 hr_6 => ?_)
      subst hr_6
      have hd_5 := drn_le hN j i
      refine lv_goto (tgt := 31) hx hb dX11_drain_26 (by decide) ?_
      refine hret _ _ _ dX11_drain_31 ?_
      (repeat' split) <;> first | rfl | omega
  · refine lv_iconst (v := (-1)) hx hb dX11_drain_8 (by decide) ?_
    refine hret _ _ _ dX11_drain_9 ?_
    (repeat' split) <;> first | rfl | omega
set_option maxRecDepth 100000 in
set_option maxHeartbeats 4000000 in
theorem c_X11_holdsBy (l : Launch) (D : va_G) (ka : Nat → ClassId) (h : Nat) (a : Nat → Nat) (N : Nat → Nat → Nat) (C : Nat → Nat → Int32) (f : Nat → Int32) (g : Nat → Nat → Int32) (R : va_W) (j m0 part : Nat) (hj : j < 5) (hm : m0 < 900) (hpt : 0 < part ∧ part < 3) (hp : 0 < N 0 0) (hN : WF N) : RO l D ka yX11_holdsBy cX11_holdsBy 6 (some .int) 1 [.ref h, .int (nI j), .int (nI m0), .int (nI part)] (fun H => va_P D vwCl (mw ka h a N C f g ++ R) H) (vp_Si (fun r => r = nI (hld N j m0 part))) := by
  refine RO.ofI (by decide) (Nat.le_of_ble_eq_true rfl) ?_
  intro p e s m args below meth c Q X hP hret ls hl
  obtain ⟨hx, hb, hml, hown, hts, hE⟩ := id X
  have hK := hE.1
  have hl : lv_has ls 6 [(0, .ref h), (1, .int (nI j)), (2, .int (nI m0)), (3, .int (nI part))] := hl
  have hN1 := hN.1
  refine lv_aload_n hx hb dX11_holdsBy_0 rfl (lv_at hl 0 rfl) ?_
  refine va_get (D := D) (ci := 11) (v := .ref (a 10)) (C := RX11) (T := TX11) (N := 35) hx hb hts inX11 hown hK hP 0 rfl rfl 10 (by decide) (hts _ wd_684) (fun _ h9 => h9) rfl dX11_holdsBy_1 ?_
  refine lv_iload_n hx hb dX11_holdsBy_4 rfl (lv_at hl 1 rfl) ?_
  refine n_iald hx hb hK hP 6 0 rfl rfl (k := j) (by omega) (by decide) dX11_holdsBy_5 ?_
  have hv_1 : N 3 j ≤ 99 := hN.2.2.2.1 j
  refine lv_istore (lv' := [(4, .int (nI (N 3 j))), (0, .ref h), (1, .int (nI j)), (2, .int (nI m0)), (3, .int (nI part))]) hx hb dX11_holdsBy_6 hl (by decide) rfl (fun ls hl => ?_)
  refine lv_iconst (v := nI 0) hx hb dX11_holdsBy_8 (by decide) ?_
  refine lv_istore (lv' := [(5, .int (nI 0)), (4, .int (nI (N 3 j))), (0, .ref h), (1, .int (nI j)), (2, .int (nI m0)), (3, .int (nI part))]) hx hb dX11_holdsBy_9 hl (by decide) rfl (fun ls hl => ?_)
  have loop11 : ∀ (fuel11 : Nat) (n : Nat) (left : Nat), 40 - n < fuel11 → (n ≤ 40) → (left ≤ 99) → (hol (fun t => drn N j t / part) (40 - n) (m0 + n) left + n = hld N j m0 part) → ∀ ls : Array Slot, lv_has ls 6 [(0, .ref h), (1, .int (nI j)), (2, .int (nI m0)), (3, .int (nI part)), (4, .int (nI left)), (5, .int (nI n))] → W p l e (rmz 1 0 0) s m args below meth c s.heap [] 0 0 Q (F0 m 11 ls []) := by
    intro fuel11
    induction fuel11 with
    | zero => intro n left hfu; exact absurd hfu (Nat.not_lt_zero _)
    | succ fuel11 ih11 =>
      intro n left hfu hi1 hi2 hi3 ls hl
      have hdd : drn N j (m0 + n) / part ≤ drn N j (m0 + n) := Nat.div_le_self _ _
      have hdz := Int.natCast_nonneg (drn N j (m0 + n) / part)
      refine lv_iload hx hb dX11_holdsBy_11 (lv_at hl 5 rfl) ?_
      refine lv_bipush (v := nI 40) hx hb dX11_holdsBy_13 (by decide) ?_
      refine i_icmp_ge (tgt := 56) hx hb (nT (by omega)) (nT (by decide)) dX11_holdsBy_15 (by decide) (fun c_2 => ?_) (fun c_2 => ?_)
      · refine lv_iload hx hb dX11_holdsBy_56 (lv_at hl 5 rfl) ?_
        refine hret _ _ _ dX11_holdsBy_58 ?_
        rw [← hi3]
        first | (rw [show 40 - n = 0 by omega, hol, Nat.zero_add]) | (rw [show 40 - n = (40 - (n + 1)) + 1 by omega, hol, if_neg (by omega), Nat.zero_add])
      · refine lv_aload_n hx hb dX11_holdsBy_18 rfl (lv_at hl 0 rfl) ?_
        refine lv_iload_n hx hb dX11_holdsBy_19 rfl (lv_at hl 1 rfl) ?_
        refine lv_iload_n hx hb dX11_holdsBy_20 rfl (lv_at hl 2 rfl) ?_
        refine lv_iload hx hb dX11_holdsBy_21 (lv_at hl 5 rfl) ?_
        refine n_iadd hx hb dX11_holdsBy_23 ?_
        refine vp_callSi (ro_runV (c_X11_drainOf l D ka h a N C f g R j (m0 + n) (by omega) (by omega) (show 0 < N 0 0 by omega) hN) X wd_868 wd_865 wd_867 ws_13 wd_8 on_X11_drainOf ⟨Nat.le_of_ble_eq_true rfl, Nat.le_of_ble_eq_true rfl⟩ (va_recv hK hP (ci := 11) (q0 := 0) rfl rfl) hP hl.1 rfl (Nat.le_of_ble_eq_true rfl) ⟨(Nat.zero_le _), (Nat.zero_le _)⟩ dX11_holdsBy_24) (fun r_4 hr_4 => ?_)
        subst hr_4
        have hd_3 := drn_le hN j (m0 + n)
        refine lv_iload_n hx hb dX11_holdsBy_27 rfl (lv_at hl 3 rfl) ?_
        refine n_idiv hx hb (by omega) (by omega) (by omega) dX11_holdsBy_28 ?_
        refine lv_iload hx hb dX11_holdsBy_29 (lv_at hl 4 rfl) ?_
        refine i_icmp_gt (tgt := 56) hx hb (nT (by omega)) (nT (by omega)) dX11_holdsBy_31 (by decide) (fun c_5 => ?_) (fun c_5 => ?_)
        · refine lv_iload hx hb dX11_holdsBy_56 (lv_at hl 5 rfl) ?_
          refine hret _ _ _ dX11_holdsBy_58 ?_
          rw [← hi3]
          first | (rw [show 40 - n = 0 by omega, hol, Nat.zero_add]) | (rw [show 40 - n = (40 - (n + 1)) + 1 by omega, hol, if_neg (by omega), Nat.zero_add])
        · refine lv_iload hx hb dX11_holdsBy_34 (lv_at hl 4 rfl) ?_
          refine lv_aload_n hx hb dX11_holdsBy_36 rfl (lv_at hl 0 rfl) ?_
          refine lv_iload_n hx hb dX11_holdsBy_37 rfl (lv_at hl 1 rfl) ?_
          refine lv_iload_n hx hb dX11_holdsBy_38 rfl (lv_at hl 2 rfl) ?_
          refine lv_iload hx hb dX11_holdsBy_39 (lv_at hl 5 rfl) ?_
          refine n_iadd hx hb dX11_holdsBy_41 ?_
          refine vp_callSi (ro_runV (c_X11_drainOf l D ka h a N C f g R j (m0 + n) (by omega) (by omega) (show 0 < N 0 0 by omega) hN) X wd_868 wd_865 wd_867 ws_13 wd_8 on_X11_drainOf ⟨Nat.le_of_ble_eq_true rfl, Nat.le_of_ble_eq_true rfl⟩ (va_recv hK hP (ci := 11) (q0 := 0) rfl rfl) hP hl.1 rfl (Nat.le_of_ble_eq_true rfl) ⟨(Nat.zero_le _), (Nat.zero_le _)⟩ dX11_holdsBy_42) (fun r_7 hr_7 => ?_)
          subst hr_7
          have hd_6 := drn_le hN j (m0 + n)
          refine lv_iload_n hx hb dX11_holdsBy_45 rfl (lv_at hl 3 rfl) ?_
          refine n_idiv hx hb (by omega) (by omega) (by omega) dX11_holdsBy_46 ?_
          refine n_isub hx hb (by omega) dX11_holdsBy_47 ?_
          refine lv_istore (lv' := [(4, .int (nI (left - ((drn N j (m0 + n)) / part)))), (0, .ref h), (1, .int (nI j)), (2, .int (nI m0)), (3, .int (nI part)), (5, .int (nI n))]) hx hb dX11_holdsBy_48 hl (by decide) rfl (fun ls hl => ?_)
          refine n_iinc (lv' := [(5, .int (nI (n + 1))), (4, .int (nI (left - ((drn N j (m0 + n)) / part)))), (0, .ref h), (1, .int (nI j)), (2, .int (nI m0)), (3, .int (nI part))]) (k := 5) (d := 1) hx hb dX11_holdsBy_50 hl rfl rfl (by decide) rfl (fun ls hl => ?_)
          refine lv_goto (tgt := 11) hx hb dX11_holdsBy_53 (by decide) ?_
          exact ih11 (n + 1) (left - ((drn N j (m0 + n)) / part)) (by omega) (by omega) (by omega) (by rw [← hi3, show 40 - n = (40 - (n + 1)) + 1 by omega, hol, if_pos (by omega)]; simp only [Nat.add_assoc]; omega) ls (lv_sub hl [2, 3, 4, 5, 1, 0] rfl)
  exact loop11 _ 0 (N 3 j) (Nat.lt_succ_self _) (by omega) (by omega) (by simp only [hld, Nat.add_zero, Nat.sub_zero]) ls (lv_sub hl [2, 3, 4, 5, 1, 0] rfl)
