set_option maxRecDepth 100000 in
set_option maxHeartbeats 4000000 in
theorem c_X11_readTaker (l : Launch) (D : va_G) (ka : Nat → ClassId) (z : Nat) (h : Nat) (a : Nat → Nat) (N : Nat → Nat → Nat) (C : Nat → Nat → Int32) (f : Nat → Int32) (g : Nat → Nat → Int32) (R : va_W) (t e1 : Nat) (P : NN) (hte : t ≤ e1) (he : e1 ≤ 240) (hq5 : P 0 1 < 5) (hp6 : P 0 6 = 3) (hPT : PT g P) : MU l D ka z yX11_readTaker cX11_readTaker 5 (some .boolean) 2 0 0 [.ref h, .int (nI e1)] (mw ka h a N C (upd (upd f 13 (nI t)) 15 (nI (P 0 1))) g ++ R) (Qi D z (fun r w => ∃ t2 x g2 P2, w = mw ka h a N C (upd (upd f 13 (nI t2)) 15 (nI x)) g2 ++ R ∧ (t ≤ t2 ∧ t2 ≤ e1) ∧ prun C (e1 - t) t P = prun C (e1 - t2) t2 P2 ∧ ((r = 1 ∧ x = P2 0 1 ∧ P2 0 1 = P 0 1 + 1 ∧ P2 0 6 = 7 ∧ PT g2 P2 ∧ g2 17 = g 17 ∧ P2 0 0 = P 0 0 ∧ P2 1 = P 1 ∧ P2 0 2 = P 0 2) ∨ (r = 0 ∧ stuck C e1 t2 P2)))) := by
  refine MU.ofZ (by decide) (Nat.le_of_ble_eq_true rfl) ?_
  intro p e s m args below meth c Q X hw hS hret ls hl
  obtain ⟨hx, hb, hml, hown, hts, hE⟩ := id X
  have hK := hE.1
  have hz0 := hw.1
  have hl : lv_has ls 5 [(0, .ref h), (1, .int (nI e1))] := hl
  refine lv_aload_n hx hb dX11_readTaker_0 rfl (lv_at hl 0 rfl) ?_
  refine va_get (D := D) (ci := 11) (v := .int (nI t)) (C := RX11) (T := TX11) (N := 35) hx hb hts inX11 hown hK hw.2.1 0 rfl rfl 13 (by decide) (hts _ wd_687) (fun _ h9 => h9) rfl dX11_readTaker_1 ?_
  refine lv_iload_n hx hb dX11_readTaker_4 rfl (lv_at hl 1 rfl) ?_
  refine i_icmp_ge (tgt := 20) hx hb (nT (by omega)) (nT (by omega)) dX11_readTaker_5 (by decide) (fun c_1 => ?_) (fun c_1 => ?_)
  · refine lv_iconst (v := nI 0) hx hb dX11_readTaker_20 (by decide) ?_
    refine lv_istore_n (lv' := [(2, .int (nI 0)), (0, .ref h), (1, .int (nI e1))]) hx hb dX11_readTaker_21 rfl hl (by decide) rfl (fun ls hl => ?_)
    refine lv_aload_n hx hb dX11_readTaker_22 rfl (lv_at hl 1 rfl) ?_
    refine va_get (D := D) (ci := 11) (v := .ref (a 18)) (C := RX11) (T := TX11) (N := 35) hx hb hts inX11 hown hK hw.2.1 0 rfl rfl 18 (by decide) (hts _ wd_692) (fun _ h9 => h9) rfl dX11_readTaker_23 ?_
    refine lv_aload_n hx hb dX11_readTaker_26 rfl (lv_at hl 1 rfl) ?_
    refine va_get (D := D) (ci := 11) (v := .int (nI (P 0 1))) (C := RX11) (T := TX11) (N := 35) hx hb hts inX11 hown hK hw.2.1 0 rfl rfl 15 (by decide) (hts _ wd_689) (fun _ h9 => h9) rfl dX11_readTaker_27 ?_
    refine lv_iload_n hx hb dX11_readTaker_30 rfl (lv_at hl 0 rfl) ?_
    refine lv_bipush (v := nI 116) hx hb dX11_readTaker_31 (by decide) ?_
    refine i_icmp_ne (tgt := 40) hx hb (nT (by decide)) (nT (by decide)) dX11_readTaker_33 (by decide) (fun c_2 => ?_) (fun c_2 => by omega)
    refine lv_iload_n hx hb dX11_readTaker_40 rfl (lv_at hl 0 rfl) ?_
    refine lv_bipush (v := nI 115) hx hb dX11_readTaker_41 (by decide) ?_
    refine i_icmp_ne (tgt := 50) hx hb (nT (by decide)) (nT (by decide)) dX11_readTaker_43 (by decide) (fun c_3 => ?_) (fun c_3 => by omega)
    refine lv_iload_n hx hb dX11_readTaker_50 rfl (lv_at hl 0 rfl) ?_
    refine lv_bipush (v := nI 119) hx hb dX11_readTaker_51 (by decide) ?_
    refine i_icmp_ne (tgt := 60) hx hb (nT (by decide)) (nT (by decide)) dX11_readTaker_53 (by decide) (fun c_4 => ?_) (fun c_4 => by omega)
    refine lv_bipush (v := (-9)) hx hb dX11_readTaker_60 (by decide) ?_
    refine r_iast hx hb hK hw.2.1 hw.2.2 hS 10 0 rfl rfl (k := P 0 1) (by omega) (by decide) dX11_readTaker_62 (fun H locs hP hD hS => ?_)
    have hw : wdH D z (mw ka h a N C (upd (upd f 13 (nI t)) 15 (nI (P 0 1))) (va_up g 18 (upd (g 18) (P 0 1) (-9))) ++ R) H := ⟨Nat.le_trans hz0 hS.1, hP, hD⟩
    refine lv_aload_n hx hb dX11_readTaker_63 rfl (lv_at hl 1 rfl) ?_
    refine va_get (D := D) (ci := 11) (v := .ref (a 18)) (C := RX11) (T := TX11) (N := 35) hx hb hts inX11 hown hK hw.2.1 0 rfl rfl 18 (by decide) (hts _ wd_692) (fun _ h9 => h9) rfl dX11_readTaker_64 ?_
    refine lv_aload_n hx hb dX11_readTaker_67 rfl (lv_at hl 1 rfl) ?_
    refine va_get (D := D) (ci := 11) (v := .int (nI (P 0 1))) (C := RX11) (T := TX11) (N := 35) hx hb hts inX11 hown hK hw.2.1 0 rfl rfl 15 (by decide) (hts _ wd_689) (fun _ h9 => h9) rfl dX11_readTaker_68 ?_
    refine n_iald hx hb hK hw.2.1 10 0 rfl rfl (k := P 0 1) (by omega) (by decide) dX11_readTaker_71 ?_
    rw [show (va_up g 18 (upd (g 18) (P 0 1) (-9))) 18 (P 0 1) = (-9) from pk_us]
    refine W.eq (g2 := F0 m 72 ls [.int (-9)]) rfl ?_
    refine lv_bipush (v := (-9)) hx hb dX11_readTaker_72 (by decide) ?_
    refine i_icmp_ne (tgt := 79) hx hb ng9 ng9 dX11_readTaker_74 (by decide) (fun c_5 => absurd rfl c_5) (fun c_5 => ?_)
    refine lv_iconst (v := nI 0) hx hb dX11_readTaker_77 (by decide) ?_
    refine hret _ _ _ _ _ _ _ _ dX11_readTaker_78 hS hw (Nat.zero_le _) (Nat.zero_le _) (by decide) ?_
    exact ⟨t, P 0 1, (va_up g 18 (upd (g 18) (P 0 1) (-9))), P, rfl, by omega, rfl, Or.inr ⟨rfl, fun h1 => pst3n hp6 (by omega) (by omega) (by omega), fun _ => (by rw [hp6]; decide)⟩⟩
  · refine lv_aload_n hx hb dX11_readTaker_8 rfl (lv_at hl 0 rfl) ?_
    refine va_get (D := D) (ci := 11) (v := .ref (a 4)) (C := RX11) (T := TX11) (N := 35) hx hb hts inX11 hown hK hw.2.1 0 rfl rfl 4 (by decide) (hts _ wd_678) (fun _ h9 => h9) rfl dX11_readTaker_9 ?_
    refine lv_aload_n hx hb dX11_readTaker_12 rfl (lv_at hl 0 rfl) ?_
    refine va_get (D := D) (ci := 11) (v := .int (nI t)) (C := RX11) (T := TX11) (N := 35) hx hb hts inX11 hown hK hw.2.1 0 rfl rfl 13 (by decide) (hts _ wd_687) (fun _ h9 => h9) rfl dX11_readTaker_13 ?_
    refine n_iald hx hb hK hw.2.1 3 0 rfl rfl (k := t) (by omega) (by decide) dX11_readTaker_16 ?_
    refine lv_goto (tgt := 21) hx hb dX11_readTaker_17 (by decide) ?_
    refine lv_istore_n (lv' := [(2, .int (C (t / 60) (t % 60))), (0, .ref h), (1, .int (nI e1))]) hx hb dX11_readTaker_21 rfl hl (by decide) rfl (fun ls hl => ?_)
    refine lv_aload_n hx hb dX11_readTaker_22 rfl (lv_at hl 1 rfl) ?_
    refine va_get (D := D) (ci := 11) (v := .ref (a 18)) (C := RX11) (T := TX11) (N := 35) hx hb hts inX11 hown hK hw.2.1 0 rfl rfl 18 (by decide) (hts _ wd_692) (fun _ h9 => h9) rfl dX11_readTaker_23 ?_
    refine lv_aload_n hx hb dX11_readTaker_26 rfl (lv_at hl 1 rfl) ?_
    refine va_get (D := D) (ci := 11) (v := .int (nI (P 0 1))) (C := RX11) (T := TX11) (N := 35) hx hb hts inX11 hown hK hw.2.1 0 rfl rfl 15 (by decide) (hts _ wd_689) (fun _ h9 => h9) rfl dX11_readTaker_27 ?_
    refine lv_iload_n hx hb dX11_readTaker_30 rfl (lv_at hl 0 rfl) ?_
    refine lv_bipush (v := nI 116) hx hb dX11_readTaker_31 (by decide) ?_
    refine i_icmp_ne (tgt := 40) hx hb (show (C (t / 60) (t % 60)).toInt = cz C t from rfl) (nT (by decide)) dX11_readTaker_33 (by decide) (fun c_6 => ?_) (fun c_6 => ?_)
    · refine lv_iload_n hx hb dX11_readTaker_40 rfl (lv_at hl 0 rfl) ?_
      refine lv_bipush (v := nI 115) hx hb dX11_readTaker_41 (by decide) ?_
      refine i_icmp_ne (tgt := 50) hx hb (show (C (t / 60) (t % 60)).toInt = cz C t from rfl) (nT (by decide)) dX11_readTaker_43 (by decide) (fun c_7 => ?_) (fun c_7 => ?_)
      · refine lv_iload_n hx hb dX11_readTaker_50 rfl (lv_at hl 0 rfl) ?_
        refine lv_bipush (v := nI 119) hx hb dX11_readTaker_51 (by decide) ?_
        refine i_icmp_ne (tgt := 60) hx hb (show (C (t / 60) (t % 60)).toInt = cz C t from rfl) (nT (by decide)) dX11_readTaker_53 (by decide) (fun c_8 => ?_) (fun c_8 => ?_)
        · refine lv_bipush (v := (-9)) hx hb dX11_readTaker_60 (by decide) ?_
          refine r_iast hx hb hK hw.2.1 hw.2.2 hS 10 0 rfl rfl (k := P 0 1) (by omega) (by decide) dX11_readTaker_62 (fun H locs hP hD hS => ?_)
          have hw : wdH D z (mw ka h a N C (upd (upd f 13 (nI t)) 15 (nI (P 0 1))) (va_up g 18 (upd (g 18) (P 0 1) (-9))) ++ R) H := ⟨Nat.le_trans hz0 hS.1, hP, hD⟩
          refine lv_aload_n hx hb dX11_readTaker_63 rfl (lv_at hl 1 rfl) ?_
          refine va_get (D := D) (ci := 11) (v := .ref (a 18)) (C := RX11) (T := TX11) (N := 35) hx hb hts inX11 hown hK hw.2.1 0 rfl rfl 18 (by decide) (hts _ wd_692) (fun _ h9 => h9) rfl dX11_readTaker_64 ?_
          refine lv_aload_n hx hb dX11_readTaker_67 rfl (lv_at hl 1 rfl) ?_
          refine va_get (D := D) (ci := 11) (v := .int (nI (P 0 1))) (C := RX11) (T := TX11) (N := 35) hx hb hts inX11 hown hK hw.2.1 0 rfl rfl 15 (by decide) (hts _ wd_689) (fun _ h9 => h9) rfl dX11_readTaker_68 ?_
          refine n_iald hx hb hK hw.2.1 10 0 rfl rfl (k := P 0 1) (by omega) (by decide) dX11_readTaker_71 ?_
          rw [show (va_up g 18 (upd (g 18) (P 0 1) (-9))) 18 (P 0 1) = (-9) from pk_us]
          refine W.eq (g2 := F0 m 72 ls [.int (-9)]) rfl ?_
          refine lv_bipush (v := (-9)) hx hb dX11_readTaker_72 (by decide) ?_
          refine i_icmp_ne (tgt := 79) hx hb ng9 ng9 dX11_readTaker_74 (by decide) (fun c_9 => absurd rfl c_9) (fun c_9 => ?_)
          refine lv_iconst (v := nI 0) hx hb dX11_readTaker_77 (by decide) ?_
          refine hret _ _ _ _ _ _ _ _ dX11_readTaker_78 hS hw (Nat.zero_le _) (Nat.zero_le _) (by decide) ?_
          exact ⟨t, P 0 1, (va_up g 18 (upd (g 18) (P 0 1) (-9))), P, rfl, by omega, rfl, Or.inr ⟨rfl, fun h1 => pst3n hp6 (by omega) (by omega) (by omega), fun _ => (by rw [hp6]; decide)⟩⟩
        · refine lv_iconst (v := nI 2) hx hb dX11_readTaker_56 (by decide) ?_
          refine lv_goto (tgt := 62) hx hb dX11_readTaker_57 (by decide) ?_
          refine r_iast hx hb hK hw.2.1 hw.2.2 hS 10 0 rfl rfl (k := P 0 1) (by omega) (by decide) dX11_readTaker_62 (fun H locs hP hD hS => ?_)
          have hw : wdH D z (mw ka h a N C (upd (upd f 13 (nI t)) 15 (nI (P 0 1))) (va_up g 18 (upd (g 18) (P 0 1) (nI 2))) ++ R) H := ⟨Nat.le_trans hz0 hS.1, hP, hD⟩
          refine lv_aload_n hx hb dX11_readTaker_63 rfl (lv_at hl 1 rfl) ?_
          refine va_get (D := D) (ci := 11) (v := .ref (a 18)) (C := RX11) (T := TX11) (N := 35) hx hb hts inX11 hown hK hw.2.1 0 rfl rfl 18 (by decide) (hts _ wd_692) (fun _ h9 => h9) rfl dX11_readTaker_64 ?_
          refine lv_aload_n hx hb dX11_readTaker_67 rfl (lv_at hl 1 rfl) ?_
          refine va_get (D := D) (ci := 11) (v := .int (nI (P 0 1))) (C := RX11) (T := TX11) (N := 35) hx hb hts inX11 hown hK hw.2.1 0 rfl rfl 15 (by decide) (hts _ wd_689) (fun _ h9 => h9) rfl dX11_readTaker_68 ?_
          refine n_iald hx hb hK hw.2.1 10 0 rfl rfl (k := P 0 1) (by omega) (by decide) dX11_readTaker_71 ?_
          rw [show (va_up g 18 (upd (g 18) (P 0 1) (nI 2))) 18 (P 0 1) = nI 2 from pk_us]
          refine W.eq (g2 := F0 m 72 ls [.int (nI 2)]) rfl ?_
          refine lv_bipush (v := (-9)) hx hb dX11_readTaker_72 (by decide) ?_
          refine i_icmp_ne (tgt := 79) hx hb (nT (by decide)) ng9 dX11_readTaker_74 (by decide) (fun c_10 => ?_) (fun c_10 => by omega)
          have hrun_11 : prun C (e1 - t) t P = prun C (e1 - (t + 1)) (t + 1) (up (up P 0 7 2) 0 6 4) := prun_go (by omega) (by rw [show cz C t = 119 by omega]; exact pst3w hp6)
          refine lv_aload_n hx hb dX11_readTaker_79 rfl (lv_at hl 1 rfl) ?_
          refine lv_dup hx hb dX11_readTaker_80 rfl ?_
          refine va_get (D := D) (ci := 11) (v := .int (nI t)) (C := RX11) (T := TX11) (N := 35) hx hb hts inX11 hown hK hw.2.1 0 rfl rfl 13 (by decide) (hts _ wd_687) (fun _ h9 => h9) rfl dX11_readTaker_81 ?_
          refine lv_iconst (v := nI 1) hx hb dX11_readTaker_84 (by decide) ?_
          refine n_iadd hx hb dX11_readTaker_85 ?_
          refine va_put (D := D) (ci := 11) (ty := .int) (C := RX11) (T := TX11) (N := 35) hx hb hts inX11 tyX11 tyX11_ok nmX11 hown hK hw.2.1 hw.2.2 hS 0 rfl rfl 13 (by decide) (hts _ wd_687) (fun _ h9 => h9) rfl (by decide +kernel) rfl rfl (Nat.le_of_ble_eq_true rfl) dX11_readTaker_86 (fun H locs hP hD hS => ?_)
          have hw : wdH D z (mw ka h a N C (upd (upd f 13 (nI (t + 1))) 15 (nI (P 0 1))) (va_up g 18 (upd (g 18) (P 0 1) (nI 2))) ++ R) H := ⟨Nat.le_trans hz0 hS.1, hP, hD⟩
          refine lv_aload_n hx hb dX11_readTaker_89 rfl (lv_at hl 1 rfl) ?_
          refine lv_iload_n hx hb dX11_readTaker_90 rfl (lv_at hl 2 rfl) ?_
          refine lv_iconst (v := nI 0) hx hb dX11_readTaker_91 (by decide) ?_
          refine mu_i (mu_runV (c_X11_digit l D ka z h a N C (upd f 15 (nI (P 0 1))) (va_up g 18 (upd (g 18) (P 0 1) (nI 2))) R (t + 1) e1 0 (by omega) (by omega) (by omega)) X wd_816 wd_813 wd_815 ws_7 wd_8 on_X11_digit ⟨Nat.le_of_ble_eq_true rfl, Nat.le_of_ble_eq_true rfl⟩ (va_recv hK hw.2.1 (ci := 11) (q0 := 0) rfl rfl) (show wdH D z (mw ka h a N C (upd (upd f 15 (nI (P 0 1))) 13 (nI (t + 1))) (va_up g 18 (upd (g 18) (P 0 1) (nI 2))) ++ R) _ from hw) hl.1 rfl (Nat.le_of_ble_eq_true rfl) ⟨Nat.le_of_ble_eq_true rfl, Nat.le_of_ble_eq_true rfl⟩ dX11_readTaker_92) hS (fun r_13 u_12 H locs hp_u_12 hw hS => ?_)
          obtain ⟨t_14, rfl, hrt_15⟩ := hp_u_12
          by_cases cd_16 : t + 1 < e1 ∧ (48 + ((0 : Nat) : Int) ≤ cz C (t + 1) ∧ cz C (t + 1) ≤ 57)
          · rw [if_pos cd_16] at hrt_15
            obtain ⟨q1, q2⟩ := Prod.mk.inj hrt_15
            subst q1
            subst t_14
            obtain ⟨v_17, hv_17⟩ : ∃ v : Nat, v = (cz C (t + 1) - 48).toNat := ⟨_, rfl⟩
            rw [← hv_17]
            have hbv_17 : v_17 ≤ 9 ∧ cz C (t + 1) = (v_17 : Int) + 48 := by omega
            have hw : wdH D z (mw ka h a N C (upd (upd f 13 (nI (t + 1 + 1))) 15 (nI (P 0 1))) (va_up g 18 (upd (g 18) (P 0 1) (nI 2))) ++ R) H := hw
            have hrun_18 : prun C (e1 - t) t P = prun C (e1 - (t + 1 + 1)) (t + 1 + 1) (up (up (up (up P 0 7 2) 0 6 4) 0 8 (10 * v_17)) 0 6 5) := by
              rw [hrun_11]
              refine prun_go (by omega) ?_
              rw [pst4 (P := (up (up P 0 7 2) 0 6 4)) (c := cz C (t + 1)) rfl (by omega), ← hv_17]
              try rfl
            refine lv_istore_n (lv' := [(3, .int (nI v_17)), (2, .int (C (t / 60) (t % 60))), (0, .ref h), (1, .int (nI e1))]) hx hb dX11_readTaker_95 rfl hl (by decide) rfl (fun ls hl => ?_)
            refine lv_iload_n hx hb dX11_readTaker_96 rfl (lv_at hl 0 rfl) ?_
            refine lv_bipush (v := (-9)) hx hb dX11_readTaker_97 (by decide) ?_
            refine i_icmp_ne (tgt := 104) hx hb (nT (by omega)) ng9 dX11_readTaker_99 (by decide) (fun c_19 => ?_) (fun c_19 => by omega)
            refine lv_aload_n hx hb dX11_readTaker_104 rfl (lv_at hl 2 rfl) ?_
            refine lv_iload_n hx hb dX11_readTaker_105 rfl (lv_at hl 3 rfl) ?_
            refine lv_iconst (v := nI 0) hx hb dX11_readTaker_106 (by decide) ?_
            refine mu_i (mu_runV (c_X11_digit l D ka z h a N C (upd f 15 (nI (P 0 1))) (va_up g 18 (upd (g 18) (P 0 1) (nI 2))) R (t + 1 + 1) e1 0 (by omega) (by omega) (by omega)) X wd_816 wd_813 wd_815 ws_7 wd_8 on_X11_digit ⟨Nat.le_of_ble_eq_true rfl, Nat.le_of_ble_eq_true rfl⟩ (va_recv hK hw.2.1 (ci := 11) (q0 := 0) rfl rfl) (show wdH D z (mw ka h a N C (upd (upd f 15 (nI (P 0 1))) 13 (nI (t + 1 + 1))) (va_up g 18 (upd (g 18) (P 0 1) (nI 2))) ++ R) _ from hw) hl.1 rfl (Nat.le_of_ble_eq_true rfl) ⟨Nat.le_of_ble_eq_true rfl, Nat.le_of_ble_eq_true rfl⟩ dX11_readTaker_107) hS (fun r_21 u_20 H locs hp_u_20 hw hS => ?_)
            obtain ⟨t_22, rfl, hrt_23⟩ := hp_u_20
            by_cases cd_24 : t + 1 + 1 < e1 ∧ (48 + ((0 : Nat) : Int) ≤ cz C (t + 1 + 1) ∧ cz C (t + 1 + 1) ≤ 57)
            · rw [if_pos cd_24] at hrt_23
              obtain ⟨q1, q2⟩ := Prod.mk.inj hrt_23
              subst q1
              subst t_22
              obtain ⟨v_25, hv_25⟩ : ∃ v : Nat, v = (cz C (t + 1 + 1) - 48).toNat := ⟨_, rfl⟩
              rw [← hv_25]
              have hbv_25 : v_25 ≤ 9 ∧ cz C (t + 1 + 1) = (v_25 : Int) + 48 := by omega
              have hw : wdH D z (mw ka h a N C (upd (upd f 13 (nI (t + 1 + 1 + 1))) 15 (nI (P 0 1))) (va_up g 18 (upd (g 18) (P 0 1) (nI 2))) ++ R) H := hw
              have hrun_26 : prun C (e1 - t) t P = prun C (e1 - (t + 1 + 1 + 1)) (t + 1 + 1 + 1) (up (up (up (up (up (up P 0 7 2) 0 6 4) 0 8 (10 * v_17)) 0 6 5) 0 8 (10 * v_17 + v_25)) 0 6 6) := by
                rw [hrun_18]
                refine prun_go (by omega) ?_
                rw [pst5 (P := (up (up (up (up P 0 7 2) 0 6 4) 0 8 (10 * v_17)) 0 6 5)) (c := cz C (t + 1 + 1)) rfl (by omega), ← hv_25]
                try rfl
              refine lv_istore (lv' := [(4, .int (nI v_25)), (3, .int (nI v_17)), (2, .int (C (t / 60) (t % 60))), (0, .ref h), (1, .int (nI e1))]) hx hb dX11_readTaker_110 hl (by decide) rfl (fun ls hl => ?_)
              refine lv_iload hx hb dX11_readTaker_112 (lv_at hl 0 rfl) ?_
              refine lv_bipush (v := (-9)) hx hb dX11_readTaker_114 (by decide) ?_
              refine i_icmp_ne (tgt := 121) hx hb (nT (by omega)) ng9 dX11_readTaker_116 (by decide) (fun c_27 => ?_) (fun c_27 => by omega)
              refine lv_aload_n hx hb dX11_readTaker_121 rfl (lv_at hl 3 rfl) ?_
              refine va_get (D := D) (ci := 11) (v := .ref (a 19)) (C := RX11) (T := TX11) (N := 35) hx hb hts inX11 hown hK hw.2.1 0 rfl rfl 19 (by decide) (hts _ wd_693) (fun _ h9 => h9) rfl dX11_readTaker_122 ?_
              refine lv_aload_n hx hb dX11_readTaker_125 rfl (lv_at hl 3 rfl) ?_
              refine va_get (D := D) (ci := 11) (v := .int (nI (P 0 1))) (C := RX11) (T := TX11) (N := 35) hx hb hts inX11 hown hK hw.2.1 0 rfl rfl 15 (by decide) (hts _ wd_689) (fun _ h9 => h9) rfl dX11_readTaker_126 ?_
              refine lv_bipush (v := nI 10) hx hb dX11_readTaker_129 (by decide) ?_
              refine lv_iload_n hx hb dX11_readTaker_131 rfl (lv_at hl 1 rfl) ?_
              refine n_imul hx hb dX11_readTaker_132 ?_
              refine lv_iload hx hb dX11_readTaker_133 (lv_at hl 0 rfl) ?_
              refine n_iadd hx hb dX11_readTaker_135 ?_
              refine r_iast hx hb hK hw.2.1 hw.2.2 hS 11 0 rfl rfl (k := P 0 1) (by omega) (by decide) dX11_readTaker_136 (fun H locs hP hD hS => ?_)
              have hw : wdH D z (mw ka h a N C (upd (upd f 13 (nI (t + 1 + 1 + 1))) 15 (nI (P 0 1))) (va_up (va_up g 18 (upd (g 18) (P 0 1) (nI 2))) 19 (upd (g 19) (P 0 1) (nI ((10 * v_17) + v_25)))) ++ R) H := ⟨Nat.le_trans hz0 hS.1, hP, hD⟩
              refine lv_aload_n hx hb dX11_readTaker_137 rfl (lv_at hl 3 rfl) ?_
              refine va_get (D := D) (ci := 11) (v := .ref (a 20)) (C := RX11) (T := TX11) (N := 35) hx hb hts inX11 hown hK hw.2.1 0 rfl rfl 20 (by decide) (hts _ wd_694) (fun _ h9 => h9) rfl dX11_readTaker_138 ?_
              refine lv_aload_n hx hb dX11_readTaker_141 rfl (lv_at hl 3 rfl) ?_
              refine va_get (D := D) (ci := 11) (v := .int (nI (P 0 1))) (C := RX11) (T := TX11) (N := 35) hx hb hts inX11 hown hK hw.2.1 0 rfl rfl 15 (by decide) (hts _ wd_689) (fun _ h9 => h9) rfl dX11_readTaker_142 ?_
              refine lv_aload_n hx hb dX11_readTaker_145 rfl (lv_at hl 3 rfl) ?_
              refine lv_iload_n hx hb dX11_readTaker_146 rfl (lv_at hl 4 rfl) ?_
              refine lv_iconst (v := nI 0) hx hb dX11_readTaker_147 (by decide) ?_
              refine mu_i (mu_runV (c_X11_digit l D ka z h a N C (upd f 15 (nI (P 0 1))) (va_up (va_up g 18 (upd (g 18) (P 0 1) (nI 2))) 19 (upd (g 19) (P 0 1) (nI ((10 * v_17) + v_25)))) R (t + 1 + 1 + 1) e1 0 (by omega) (by omega) (by omega)) X wd_816 wd_813 wd_815 ws_7 wd_8 on_X11_digit ⟨Nat.le_of_ble_eq_true rfl, Nat.le_of_ble_eq_true rfl⟩ (va_recv hK hw.2.1 (ci := 11) (q0 := 0) rfl rfl) (show wdH D z (mw ka h a N C (upd (upd f 15 (nI (P 0 1))) 13 (nI (t + 1 + 1 + 1))) (va_up (va_up g 18 (upd (g 18) (P 0 1) (nI 2))) 19 (upd (g 19) (P 0 1) (nI ((10 * v_17) + v_25)))) ++ R) _ from hw) hl.1 rfl (Nat.le_of_ble_eq_true rfl) ⟨Nat.le_of_ble_eq_true rfl, Nat.le_of_ble_eq_true rfl⟩ dX11_readTaker_148) hS (fun r_29 u_28 H locs hp_u_28 hw hS => ?_)
              obtain ⟨t_30, rfl, hrt_31⟩ := hp_u_28
              by_cases cd_32 : t + 1 + 1 + 1 < e1 ∧ (48 + ((0 : Nat) : Int) ≤ cz C (t + 1 + 1 + 1) ∧ cz C (t + 1 + 1 + 1) ≤ 57)
              · rw [if_pos cd_32] at hrt_31
                obtain ⟨q1, q2⟩ := Prod.mk.inj hrt_31
                subst q1
                subst t_30
                obtain ⟨v_33, hv_33⟩ : ∃ v : Nat, v = (cz C (t + 1 + 1 + 1) - 48).toNat := ⟨_, rfl⟩
                rw [← hv_33]
                have hbv_33 : v_33 ≤ 9 ∧ cz C (t + 1 + 1 + 1) = (v_33 : Int) + 48 := by omega
                have hw : wdH D z (mw ka h a N C (upd (upd f 13 (nI (t + 1 + 1 + 1 + 1))) 15 (nI (P 0 1))) (va_up (va_up g 18 (upd (g 18) (P 0 1) (nI 2))) 19 (upd (g 19) (P 0 1) (nI ((10 * v_17) + v_25)))) ++ R) H := hw
                have hrun_34 : prun C (e1 - t) t P = prun C (e1 - (t + 1 + 1 + 1 + 1)) (t + 1 + 1 + 1 + 1) (ptk (up (up (up (up (up (up P 0 7 2) 0 6 4) 0 8 (10 * v_17)) 0 6 5) 0 8 (10 * v_17 + v_25)) 0 6 6) v_33) := by
                  rw [hrun_26]
                  refine prun_go (by omega) ?_
                  rw [pst6 (P := (up (up (up (up (up (up P 0 7 2) 0 6 4) 0 8 (10 * v_17)) 0 6 5) 0 8 (10 * v_17 + v_25)) 0 6 6)) (c := cz C (t + 1 + 1 + 1)) rfl ⟨by omega, hq5⟩, ← hv_33]
                  try rfl
                refine r_iast hx hb hK hw.2.1 hw.2.2 hS 12 0 rfl rfl (k := P 0 1) (by omega) (by decide) dX11_readTaker_151 (fun H locs hP hD hS => ?_)
                have hw : wdH D z (mw ka h a N C (upd (upd f 13 (nI (t + 1 + 1 + 1 + 1))) 15 (nI (P 0 1))) (va_up (va_up (va_up g 18 (upd (g 18) (P 0 1) (nI 2))) 19 (upd (g 19) (P 0 1) (nI ((10 * v_17) + v_25)))) 20 (upd (g 20) (P 0 1) (nI v_33))) ++ R) H := ⟨Nat.le_trans hz0 hS.1, hP, hD⟩
                refine lv_aload_n hx hb dX11_readTaker_152 rfl (lv_at hl 3 rfl) ?_
                refine lv_dup hx hb dX11_readTaker_153 rfl ?_
                refine va_get (D := D) (ci := 11) (v := .int (nI (P 0 1))) (C := RX11) (T := TX11) (N := 35) hx hb hts inX11 hown hK hw.2.1 0 rfl rfl 15 (by decide) (hts _ wd_689) (fun _ h9 => h9) rfl dX11_readTaker_154 ?_
                refine lv_iconst (v := nI 1) hx hb dX11_readTaker_157 (by decide) ?_
                refine n_iadd hx hb dX11_readTaker_158 ?_
                refine va_put (D := D) (ci := 11) (ty := .int) (C := RX11) (T := TX11) (N := 35) hx hb hts inX11 tyX11 tyX11_ok nmX11 hown hK hw.2.1 hw.2.2 hS 0 rfl rfl 15 (by decide) (hts _ wd_689) (fun _ h9 => h9) rfl (by decide +kernel) rfl rfl (Nat.le_of_ble_eq_true rfl) dX11_readTaker_159 (fun H locs hP hD hS => ?_)
                have hw : wdH D z (mw ka h a N C (upd (upd f 13 (nI (t + 1 + 1 + 1 + 1))) 15 (nI ((P 0 1) + 1))) (va_up (va_up (va_up g 18 (upd (g 18) (P 0 1) (nI 2))) 19 (upd (g 19) (P 0 1) (nI ((10 * v_17) + v_25)))) 20 (upd (g 20) (P 0 1) (nI v_33))) ++ R) H := ⟨Nat.le_trans hz0 hS.1, hP, hD⟩
                refine lv_aload_n hx hb dX11_readTaker_162 rfl (lv_at hl 3 rfl) ?_
                refine va_get (D := D) (ci := 11) (v := .ref (a 20)) (C := RX11) (T := TX11) (N := 35) hx hb hts inX11 hown hK hw.2.1 0 rfl rfl 20 (by decide) (hts _ wd_694) (fun _ h9 => h9) rfl dX11_readTaker_163 ?_
                refine lv_aload_n hx hb dX11_readTaker_166 rfl (lv_at hl 3 rfl) ?_
                refine va_get (D := D) (ci := 11) (v := .int (nI ((P 0 1) + 1))) (C := RX11) (T := TX11) (N := 35) hx hb hts inX11 hown hK hw.2.1 0 rfl rfl 15 (by decide) (hts _ wd_689) (fun _ h9 => h9) rfl dX11_readTaker_167 ?_
                refine lv_iconst (v := nI 1) hx hb dX11_readTaker_170 (by decide) ?_
                refine n_isub hx hb (by omega) dX11_readTaker_171 ?_
                rw [Nat.add_sub_cancel]
                refine n_iald hx hb hK hw.2.1 12 0 rfl rfl (k := P 0 1) (by omega) (by decide) dX11_readTaker_172 ?_
                rw [show (va_up (va_up (va_up g 18 (upd (g 18) (P 0 1) (nI 2))) 19 (upd (g 19) (P 0 1) (nI ((10 * v_17) + v_25)))) 20 (upd (g 20) (P 0 1) (nI v_33))) 20 (P 0 1) = nI v_33 from pk_us]
                refine W.eq (g2 := F0 m 173 ls [.int (nI v_33)]) rfl ?_
                refine lv_bipush (v := (-9)) hx hb dX11_readTaker_173 (by decide) ?_
                refine i_icmp_eq (tgt := 182) hx hb (nT (by omega)) ng9 dX11_readTaker_175 (by decide) (fun c_35 => by omega) (fun c_35 => ?_)
                refine lv_iconst (v := nI 1) hx hb dX11_readTaker_178 (by decide) ?_
                refine lv_goto (tgt := 183) hx hb dX11_readTaker_179 (by decide) ?_
                refine hret _ _ _ _ _ _ _ _ dX11_readTaker_183 hS hw (Nat.zero_le _) (Nat.zero_le _) (by decide) ?_
                refine ⟨t + 1 + 1 + 1 + 1, (P 0 1) + 1, (va_up (va_up (va_up g 18 (upd (g 18) (P 0 1) (nI 2))) 19 (upd (g 19) (P 0 1) (nI ((10 * v_17) + v_25)))) 20 (upd (g 20) (P 0 1) (nI v_33))), (ptk (up (up (up (up (up (up P 0 7 2) 0 6 4) 0 8 (10 * v_17)) 0 6 5) 0 8 (10 * v_17 + v_25)) 0 6 6) v_33), rfl, by omega, hrun_34, Or.inl ⟨rfl, rfl, rfl, rfl, fun j hj => ?_, rfl, rfl, rfl, rfl⟩⟩
                have hj : j < P 0 1 + 1 := hj
                exact ⟨upd_in (v := 2) rfl hj (fun q => (hPT j q).1), upd_in (v := 10 * v_17 + v_25) rfl hj (fun q => (hPT j q).2.1), upd_in (v := v_33) rfl hj (fun q => (hPT j q).2.2.1), upN_in (v := 2) (by omega) hj (fun q => (hPT j q).2.2.2.1), upN_in (v := 10 * v_17 + v_25) (by omega) hj (fun q => (hPT j q).2.2.2.2.1), upN_in (v := v_33) (by omega) hj (fun q => (hPT j q).2.2.2.2.2)⟩
              · rw [if_neg cd_32] at hrt_31
                obtain ⟨q1, q2⟩ := Prod.mk.inj hrt_31
                subst q1
                subst t_30
                have hw : wdH D z (mw ka h a N C (upd (upd f 13 (nI (t + 1 + 1 + 1))) 15 (nI (P 0 1))) (va_up (va_up g 18 (upd (g 18) (P 0 1) (nI 2))) 19 (upd (g 19) (P 0 1) (nI ((10 * v_17) + v_25)))) ++ R) H := hw
                refine r_iast hx hb hK hw.2.1 hw.2.2 hS 12 0 rfl rfl (k := P 0 1) (by omega) (by decide) dX11_readTaker_151 (fun H locs hP hD hS => ?_)
                have hw : wdH D z (mw ka h a N C (upd (upd f 13 (nI (t + 1 + 1 + 1))) 15 (nI (P 0 1))) (va_up (va_up (va_up g 18 (upd (g 18) (P 0 1) (nI 2))) 19 (upd (g 19) (P 0 1) (nI ((10 * v_17) + v_25)))) 20 (upd (g 20) (P 0 1) (-9))) ++ R) H := ⟨Nat.le_trans hz0 hS.1, hP, hD⟩
                refine lv_aload_n hx hb dX11_readTaker_152 rfl (lv_at hl 3 rfl) ?_
                refine lv_dup hx hb dX11_readTaker_153 rfl ?_
                refine va_get (D := D) (ci := 11) (v := .int (nI (P 0 1))) (C := RX11) (T := TX11) (N := 35) hx hb hts inX11 hown hK hw.2.1 0 rfl rfl 15 (by decide) (hts _ wd_689) (fun _ h9 => h9) rfl dX11_readTaker_154 ?_
                refine lv_iconst (v := nI 1) hx hb dX11_readTaker_157 (by decide) ?_
                refine n_iadd hx hb dX11_readTaker_158 ?_
                refine va_put (D := D) (ci := 11) (ty := .int) (C := RX11) (T := TX11) (N := 35) hx hb hts inX11 tyX11 tyX11_ok nmX11 hown hK hw.2.1 hw.2.2 hS 0 rfl rfl 15 (by decide) (hts _ wd_689) (fun _ h9 => h9) rfl (by decide +kernel) rfl rfl (Nat.le_of_ble_eq_true rfl) dX11_readTaker_159 (fun H locs hP hD hS => ?_)
                have hw : wdH D z (mw ka h a N C (upd (upd f 13 (nI (t + 1 + 1 + 1))) 15 (nI ((P 0 1) + 1))) (va_up (va_up (va_up g 18 (upd (g 18) (P 0 1) (nI 2))) 19 (upd (g 19) (P 0 1) (nI ((10 * v_17) + v_25)))) 20 (upd (g 20) (P 0 1) (-9))) ++ R) H := ⟨Nat.le_trans hz0 hS.1, hP, hD⟩
                refine lv_aload_n hx hb dX11_readTaker_162 rfl (lv_at hl 3 rfl) ?_
                refine va_get (D := D) (ci := 11) (v := .ref (a 20)) (C := RX11) (T := TX11) (N := 35) hx hb hts inX11 hown hK hw.2.1 0 rfl rfl 20 (by decide) (hts _ wd_694) (fun _ h9 => h9) rfl dX11_readTaker_163 ?_
                refine lv_aload_n hx hb dX11_readTaker_166 rfl (lv_at hl 3 rfl) ?_
                refine va_get (D := D) (ci := 11) (v := .int (nI ((P 0 1) + 1))) (C := RX11) (T := TX11) (N := 35) hx hb hts inX11 hown hK hw.2.1 0 rfl rfl 15 (by decide) (hts _ wd_689) (fun _ h9 => h9) rfl dX11_readTaker_167 ?_
                refine lv_iconst (v := nI 1) hx hb dX11_readTaker_170 (by decide) ?_
                refine n_isub hx hb (by omega) dX11_readTaker_171 ?_
                rw [Nat.add_sub_cancel]
                refine n_iald hx hb hK hw.2.1 12 0 rfl rfl (k := P 0 1) (by omega) (by decide) dX11_readTaker_172 ?_
                rw [show (va_up (va_up (va_up g 18 (upd (g 18) (P 0 1) (nI 2))) 19 (upd (g 19) (P 0 1) (nI ((10 * v_17) + v_25)))) 20 (upd (g 20) (P 0 1) (-9))) 20 (P 0 1) = (-9) from pk_us]
                refine W.eq (g2 := F0 m 173 ls [.int (-9)]) rfl ?_
                refine lv_bipush (v := (-9)) hx hb dX11_readTaker_173 (by decide) ?_
                refine i_icmp_eq (tgt := 182) hx hb ng9 ng9 dX11_readTaker_175 (by decide) (fun c_36 => ?_) (fun c_36 => absurd rfl c_36)
                refine lv_iconst (v := nI 0) hx hb dX11_readTaker_182 (by decide) ?_
                refine hret _ _ _ _ _ _ _ _ dX11_readTaker_183 hS hw (Nat.zero_le _) (Nat.zero_le _) (by decide) ?_
                exact ⟨t + 1 + 1 + 1, (P 0 1) + 1, (va_up (va_up (va_up g 18 (upd (g 18) (P 0 1) (nI 2))) 19 (upd (g 19) (P 0 1) (nI ((10 * v_17) + v_25)))) 20 (upd (g 20) (P 0 1) (-9))), (up (up (up (up (up (up P 0 7 2) 0 6 4) 0 8 (10 * v_17)) 0 6 5) 0 8 (10 * v_17 + v_25)) 0 6 6), rfl, by omega, hrun_26, Or.inr ⟨rfl, fun h1 => pst6n rfl (by omega), fun _ => (show (6 : Nat) ≠ 8 by decide)⟩⟩
            · rw [if_neg cd_24] at hrt_23
              obtain ⟨q1, q2⟩ := Prod.mk.inj hrt_23
              subst q1
              subst t_22
              have hw : wdH D z (mw ka h a N C (upd (upd f 13 (nI (t + 1 + 1))) 15 (nI (P 0 1))) (va_up g 18 (upd (g 18) (P 0 1) (nI 2))) ++ R) H := hw
              refine lv_istore (lv' := [(4, .int (-9)), (3, .int (nI v_17)), (2, .int (C (t / 60) (t % 60))), (0, .ref h), (1, .int (nI e1))]) hx hb dX11_readTaker_110 hl (by decide) rfl (fun ls hl => ?_)
              refine lv_iload hx hb dX11_readTaker_112 (lv_at hl 0 rfl) ?_
              refine lv_bipush (v := (-9)) hx hb dX11_readTaker_114 (by decide) ?_
              refine i_icmp_ne (tgt := 121) hx hb ng9 ng9 dX11_readTaker_116 (by decide) (fun c_37 => absurd rfl c_37) (fun c_37 => ?_)
              refine lv_iconst (v := nI 0) hx hb dX11_readTaker_119 (by decide) ?_
              refine hret _ _ _ _ _ _ _ _ dX11_readTaker_120 hS hw (Nat.zero_le _) (Nat.zero_le _) (by decide) ?_
              exact ⟨t + 1 + 1, P 0 1, (va_up g 18 (upd (g 18) (P 0 1) (nI 2))), (up (up (up (up P 0 7 2) 0 6 4) 0 8 (10 * v_17)) 0 6 5), rfl, by omega, hrun_18, Or.inr ⟨rfl, fun h1 => pst5n rfl (by omega), fun _ => (show (5 : Nat) ≠ 8 by decide)⟩⟩
          · rw [if_neg cd_16] at hrt_15
            obtain ⟨q1, q2⟩ := Prod.mk.inj hrt_15
            subst q1
            subst t_14
            have hw : wdH D z (mw ka h a N C (upd (upd f 13 (nI (t + 1))) 15 (nI (P 0 1))) (va_up g 18 (upd (g 18) (P 0 1) (nI 2))) ++ R) H := hw
            refine lv_istore_n (lv' := [(3, .int (-9)), (2, .int (C (t / 60) (t % 60))), (0, .ref h), (1, .int (nI e1))]) hx hb dX11_readTaker_95 rfl hl (by decide) rfl (fun ls hl => ?_)
            refine lv_iload_n hx hb dX11_readTaker_96 rfl (lv_at hl 0 rfl) ?_
            refine lv_bipush (v := (-9)) hx hb dX11_readTaker_97 (by decide) ?_
            refine i_icmp_ne (tgt := 104) hx hb ng9 ng9 dX11_readTaker_99 (by decide) (fun c_38 => absurd rfl c_38) (fun c_38 => ?_)
            refine lv_iconst (v := nI 0) hx hb dX11_readTaker_102 (by decide) ?_
            refine hret _ _ _ _ _ _ _ _ dX11_readTaker_103 hS hw (Nat.zero_le _) (Nat.zero_le _) (by decide) ?_
            exact ⟨t + 1, P 0 1, (va_up g 18 (upd (g 18) (P 0 1) (nI 2))), (up (up P 0 7 2) 0 6 4), rfl, by omega, hrun_11, Or.inr ⟨rfl, fun h1 => pst4n rfl (by omega), fun _ => (show (4 : Nat) ≠ 8 by decide)⟩⟩
      · refine lv_iconst (v := nI 1) hx hb dX11_readTaker_46 (by decide) ?_
        refine lv_goto (tgt := 62) hx hb dX11_readTaker_47 (by decide) ?_
        refine r_iast hx hb hK hw.2.1 hw.2.2 hS 10 0 rfl rfl (k := P 0 1) (by omega) (by decide) dX11_readTaker_62 (fun H locs hP hD hS => ?_)
        have hw : wdH D z (mw ka h a N C (upd (upd f 13 (nI t)) 15 (nI (P 0 1))) (va_up g 18 (upd (g 18) (P 0 1) (nI 1))) ++ R) H := ⟨Nat.le_trans hz0 hS.1, hP, hD⟩
        refine lv_aload_n hx hb dX11_readTaker_63 rfl (lv_at hl 1 rfl) ?_
        refine va_get (D := D) (ci := 11) (v := .ref (a 18)) (C := RX11) (T := TX11) (N := 35) hx hb hts inX11 hown hK hw.2.1 0 rfl rfl 18 (by decide) (hts _ wd_692) (fun _ h9 => h9) rfl dX11_readTaker_64 ?_
        refine lv_aload_n hx hb dX11_readTaker_67 rfl (lv_at hl 1 rfl) ?_
        refine va_get (D := D) (ci := 11) (v := .int (nI (P 0 1))) (C := RX11) (T := TX11) (N := 35) hx hb hts inX11 hown hK hw.2.1 0 rfl rfl 15 (by decide) (hts _ wd_689) (fun _ h9 => h9) rfl dX11_readTaker_68 ?_
        refine n_iald hx hb hK hw.2.1 10 0 rfl rfl (k := P 0 1) (by omega) (by decide) dX11_readTaker_71 ?_
        rw [show (va_up g 18 (upd (g 18) (P 0 1) (nI 1))) 18 (P 0 1) = nI 1 from pk_us]
        refine W.eq (g2 := F0 m 72 ls [.int (nI 1)]) rfl ?_
        refine lv_bipush (v := (-9)) hx hb dX11_readTaker_72 (by decide) ?_
        refine i_icmp_ne (tgt := 79) hx hb (nT (by decide)) ng9 dX11_readTaker_74 (by decide) (fun c_39 => ?_) (fun c_39 => by omega)
        have hrun_40 : prun C (e1 - t) t P = prun C (e1 - (t + 1)) (t + 1) (up (up P 0 7 1) 0 6 4) := prun_go (by omega) (by rw [show cz C t = 115 by omega]; exact pst3s hp6)
        refine lv_aload_n hx hb dX11_readTaker_79 rfl (lv_at hl 1 rfl) ?_
        refine lv_dup hx hb dX11_readTaker_80 rfl ?_
        refine va_get (D := D) (ci := 11) (v := .int (nI t)) (C := RX11) (T := TX11) (N := 35) hx hb hts inX11 hown hK hw.2.1 0 rfl rfl 13 (by decide) (hts _ wd_687) (fun _ h9 => h9) rfl dX11_readTaker_81 ?_
        refine lv_iconst (v := nI 1) hx hb dX11_readTaker_84 (by decide) ?_
        refine n_iadd hx hb dX11_readTaker_85 ?_
        refine va_put (D := D) (ci := 11) (ty := .int) (C := RX11) (T := TX11) (N := 35) hx hb hts inX11 tyX11 tyX11_ok nmX11 hown hK hw.2.1 hw.2.2 hS 0 rfl rfl 13 (by decide) (hts _ wd_687) (fun _ h9 => h9) rfl (by decide +kernel) rfl rfl (Nat.le_of_ble_eq_true rfl) dX11_readTaker_86 (fun H locs hP hD hS => ?_)
        have hw : wdH D z (mw ka h a N C (upd (upd f 13 (nI (t + 1))) 15 (nI (P 0 1))) (va_up g 18 (upd (g 18) (P 0 1) (nI 1))) ++ R) H := ⟨Nat.le_trans hz0 hS.1, hP, hD⟩
        refine lv_aload_n hx hb dX11_readTaker_89 rfl (lv_at hl 1 rfl) ?_
        refine lv_iload_n hx hb dX11_readTaker_90 rfl (lv_at hl 2 rfl) ?_
        refine lv_iconst (v := nI 0) hx hb dX11_readTaker_91 (by decide) ?_
        refine mu_i (mu_runV (c_X11_digit l D ka z h a N C (upd f 15 (nI (P 0 1))) (va_up g 18 (upd (g 18) (P 0 1) (nI 1))) R (t + 1) e1 0 (by omega) (by omega) (by omega)) X wd_816 wd_813 wd_815 ws_7 wd_8 on_X11_digit ⟨Nat.le_of_ble_eq_true rfl, Nat.le_of_ble_eq_true rfl⟩ (va_recv hK hw.2.1 (ci := 11) (q0 := 0) rfl rfl) (show wdH D z (mw ka h a N C (upd (upd f 15 (nI (P 0 1))) 13 (nI (t + 1))) (va_up g 18 (upd (g 18) (P 0 1) (nI 1))) ++ R) _ from hw) hl.1 rfl (Nat.le_of_ble_eq_true rfl) ⟨Nat.le_of_ble_eq_true rfl, Nat.le_of_ble_eq_true rfl⟩ dX11_readTaker_92) hS (fun r_42 u_41 H locs hp_u_41 hw hS => ?_)
        obtain ⟨t_43, rfl, hrt_44⟩ := hp_u_41
        by_cases cd_45 : t + 1 < e1 ∧ (48 + ((0 : Nat) : Int) ≤ cz C (t + 1) ∧ cz C (t + 1) ≤ 57)
        · rw [if_pos cd_45] at hrt_44
          obtain ⟨q1, q2⟩ := Prod.mk.inj hrt_44
          subst q1
          subst t_43
          obtain ⟨v_46, hv_46⟩ : ∃ v : Nat, v = (cz C (t + 1) - 48).toNat := ⟨_, rfl⟩
          rw [← hv_46]
          have hbv_46 : v_46 ≤ 9 ∧ cz C (t + 1) = (v_46 : Int) + 48 := by omega
          have hw : wdH D z (mw ka h a N C (upd (upd f 13 (nI (t + 1 + 1))) 15 (nI (P 0 1))) (va_up g 18 (upd (g 18) (P 0 1) (nI 1))) ++ R) H := hw
          have hrun_47 : prun C (e1 - t) t P = prun C (e1 - (t + 1 + 1)) (t + 1 + 1) (up (up (up (up P 0 7 1) 0 6 4) 0 8 (10 * v_46)) 0 6 5) := by
            rw [hrun_40]
            refine prun_go (by omega) ?_
            rw [pst4 (P := (up (up P 0 7 1) 0 6 4)) (c := cz C (t + 1)) rfl (by omega), ← hv_46]
            try rfl
          refine lv_istore_n (lv' := [(3, .int (nI v_46)), (2, .int (C (t / 60) (t % 60))), (0, .ref h), (1, .int (nI e1))]) hx hb dX11_readTaker_95 rfl hl (by decide) rfl (fun ls hl => ?_)
          refine lv_iload_n hx hb dX11_readTaker_96 rfl (lv_at hl 0 rfl) ?_
          refine lv_bipush (v := (-9)) hx hb dX11_readTaker_97 (by decide) ?_
          refine i_icmp_ne (tgt := 104) hx hb (nT (by omega)) ng9 dX11_readTaker_99 (by decide) (fun c_48 => ?_) (fun c_48 => by omega)
          refine lv_aload_n hx hb dX11_readTaker_104 rfl (lv_at hl 2 rfl) ?_
          refine lv_iload_n hx hb dX11_readTaker_105 rfl (lv_at hl 3 rfl) ?_
          refine lv_iconst (v := nI 0) hx hb dX11_readTaker_106 (by decide) ?_
          refine mu_i (mu_runV (c_X11_digit l D ka z h a N C (upd f 15 (nI (P 0 1))) (va_up g 18 (upd (g 18) (P 0 1) (nI 1))) R (t + 1 + 1) e1 0 (by omega) (by omega) (by omega)) X wd_816 wd_813 wd_815 ws_7 wd_8 on_X11_digit ⟨Nat.le_of_ble_eq_true rfl, Nat.le_of_ble_eq_true rfl⟩ (va_recv hK hw.2.1 (ci := 11) (q0 := 0) rfl rfl) (show wdH D z (mw ka h a N C (upd (upd f 15 (nI (P 0 1))) 13 (nI (t + 1 + 1))) (va_up g 18 (upd (g 18) (P 0 1) (nI 1))) ++ R) _ from hw) hl.1 rfl (Nat.le_of_ble_eq_true rfl) ⟨Nat.le_of_ble_eq_true rfl, Nat.le_of_ble_eq_true rfl⟩ dX11_readTaker_107) hS (fun r_50 u_49 H locs hp_u_49 hw hS => ?_)
          obtain ⟨t_51, rfl, hrt_52⟩ := hp_u_49
          by_cases cd_53 : t + 1 + 1 < e1 ∧ (48 + ((0 : Nat) : Int) ≤ cz C (t + 1 + 1) ∧ cz C (t + 1 + 1) ≤ 57)
          · rw [if_pos cd_53] at hrt_52
            obtain ⟨q1, q2⟩ := Prod.mk.inj hrt_52
            subst q1
            subst t_51
            obtain ⟨v_54, hv_54⟩ : ∃ v : Nat, v = (cz C (t + 1 + 1) - 48).toNat := ⟨_, rfl⟩
            rw [← hv_54]
            have hbv_54 : v_54 ≤ 9 ∧ cz C (t + 1 + 1) = (v_54 : Int) + 48 := by omega
            have hw : wdH D z (mw ka h a N C (upd (upd f 13 (nI (t + 1 + 1 + 1))) 15 (nI (P 0 1))) (va_up g 18 (upd (g 18) (P 0 1) (nI 1))) ++ R) H := hw
            have hrun_55 : prun C (e1 - t) t P = prun C (e1 - (t + 1 + 1 + 1)) (t + 1 + 1 + 1) (up (up (up (up (up (up P 0 7 1) 0 6 4) 0 8 (10 * v_46)) 0 6 5) 0 8 (10 * v_46 + v_54)) 0 6 6) := by
              rw [hrun_47]
              refine prun_go (by omega) ?_
              rw [pst5 (P := (up (up (up (up P 0 7 1) 0 6 4) 0 8 (10 * v_46)) 0 6 5)) (c := cz C (t + 1 + 1)) rfl (by omega), ← hv_54]
              try rfl
            refine lv_istore (lv' := [(4, .int (nI v_54)), (3, .int (nI v_46)), (2, .int (C (t / 60) (t % 60))), (0, .ref h), (1, .int (nI e1))]) hx hb dX11_readTaker_110 hl (by decide) rfl (fun ls hl => ?_)
            refine lv_iload hx hb dX11_readTaker_112 (lv_at hl 0 rfl) ?_
            refine lv_bipush (v := (-9)) hx hb dX11_readTaker_114 (by decide) ?_
            refine i_icmp_ne (tgt := 121) hx hb (nT (by omega)) ng9 dX11_readTaker_116 (by decide) (fun c_56 => ?_) (fun c_56 => by omega)
            refine lv_aload_n hx hb dX11_readTaker_121 rfl (lv_at hl 3 rfl) ?_
            refine va_get (D := D) (ci := 11) (v := .ref (a 19)) (C := RX11) (T := TX11) (N := 35) hx hb hts inX11 hown hK hw.2.1 0 rfl rfl 19 (by decide) (hts _ wd_693) (fun _ h9 => h9) rfl dX11_readTaker_122 ?_
            refine lv_aload_n hx hb dX11_readTaker_125 rfl (lv_at hl 3 rfl) ?_
            refine va_get (D := D) (ci := 11) (v := .int (nI (P 0 1))) (C := RX11) (T := TX11) (N := 35) hx hb hts inX11 hown hK hw.2.1 0 rfl rfl 15 (by decide) (hts _ wd_689) (fun _ h9 => h9) rfl dX11_readTaker_126 ?_
            refine lv_bipush (v := nI 10) hx hb dX11_readTaker_129 (by decide) ?_
            refine lv_iload_n hx hb dX11_readTaker_131 rfl (lv_at hl 1 rfl) ?_
            refine n_imul hx hb dX11_readTaker_132 ?_
            refine lv_iload hx hb dX11_readTaker_133 (lv_at hl 0 rfl) ?_
            refine n_iadd hx hb dX11_readTaker_135 ?_
            refine r_iast hx hb hK hw.2.1 hw.2.2 hS 11 0 rfl rfl (k := P 0 1) (by omega) (by decide) dX11_readTaker_136 (fun H locs hP hD hS => ?_)
            have hw : wdH D z (mw ka h a N C (upd (upd f 13 (nI (t + 1 + 1 + 1))) 15 (nI (P 0 1))) (va_up (va_up g 18 (upd (g 18) (P 0 1) (nI 1))) 19 (upd (g 19) (P 0 1) (nI ((10 * v_46) + v_54)))) ++ R) H := ⟨Nat.le_trans hz0 hS.1, hP, hD⟩
            refine lv_aload_n hx hb dX11_readTaker_137 rfl (lv_at hl 3 rfl) ?_
            refine va_get (D := D) (ci := 11) (v := .ref (a 20)) (C := RX11) (T := TX11) (N := 35) hx hb hts inX11 hown hK hw.2.1 0 rfl rfl 20 (by decide) (hts _ wd_694) (fun _ h9 => h9) rfl dX11_readTaker_138 ?_
            refine lv_aload_n hx hb dX11_readTaker_141 rfl (lv_at hl 3 rfl) ?_
            refine va_get (D := D) (ci := 11) (v := .int (nI (P 0 1))) (C := RX11) (T := TX11) (N := 35) hx hb hts inX11 hown hK hw.2.1 0 rfl rfl 15 (by decide) (hts _ wd_689) (fun _ h9 => h9) rfl dX11_readTaker_142 ?_
            refine lv_aload_n hx hb dX11_readTaker_145 rfl (lv_at hl 3 rfl) ?_
            refine lv_iload_n hx hb dX11_readTaker_146 rfl (lv_at hl 4 rfl) ?_
            refine lv_iconst (v := nI 0) hx hb dX11_readTaker_147 (by decide) ?_
            refine mu_i (mu_runV (c_X11_digit l D ka z h a N C (upd f 15 (nI (P 0 1))) (va_up (va_up g 18 (upd (g 18) (P 0 1) (nI 1))) 19 (upd (g 19) (P 0 1) (nI ((10 * v_46) + v_54)))) R (t + 1 + 1 + 1) e1 0 (by omega) (by omega) (by omega)) X wd_816 wd_813 wd_815 ws_7 wd_8 on_X11_digit ⟨Nat.le_of_ble_eq_true rfl, Nat.le_of_ble_eq_true rfl⟩ (va_recv hK hw.2.1 (ci := 11) (q0 := 0) rfl rfl) (show wdH D z (mw ka h a N C (upd (upd f 15 (nI (P 0 1))) 13 (nI (t + 1 + 1 + 1))) (va_up (va_up g 18 (upd (g 18) (P 0 1) (nI 1))) 19 (upd (g 19) (P 0 1) (nI ((10 * v_46) + v_54)))) ++ R) _ from hw) hl.1 rfl (Nat.le_of_ble_eq_true rfl) ⟨Nat.le_of_ble_eq_true rfl, Nat.le_of_ble_eq_true rfl⟩ dX11_readTaker_148) hS (fun r_58 u_57 H locs hp_u_57 hw hS => ?_)
            obtain ⟨t_59, rfl, hrt_60⟩ := hp_u_57
            by_cases cd_61 : t + 1 + 1 + 1 < e1 ∧ (48 + ((0 : Nat) : Int) ≤ cz C (t + 1 + 1 + 1) ∧ cz C (t + 1 + 1 + 1) ≤ 57)
            · rw [if_pos cd_61] at hrt_60
              obtain ⟨q1, q2⟩ := Prod.mk.inj hrt_60
              subst q1
              subst t_59
              obtain ⟨v_62, hv_62⟩ : ∃ v : Nat, v = (cz C (t + 1 + 1 + 1) - 48).toNat := ⟨_, rfl⟩
              rw [← hv_62]
              have hbv_62 : v_62 ≤ 9 ∧ cz C (t + 1 + 1 + 1) = (v_62 : Int) + 48 := by omega
              have hw : wdH D z (mw ka h a N C (upd (upd f 13 (nI (t + 1 + 1 + 1 + 1))) 15 (nI (P 0 1))) (va_up (va_up g 18 (upd (g 18) (P 0 1) (nI 1))) 19 (upd (g 19) (P 0 1) (nI ((10 * v_46) + v_54)))) ++ R) H := hw
              have hrun_63 : prun C (e1 - t) t P = prun C (e1 - (t + 1 + 1 + 1 + 1)) (t + 1 + 1 + 1 + 1) (ptk (up (up (up (up (up (up P 0 7 1) 0 6 4) 0 8 (10 * v_46)) 0 6 5) 0 8 (10 * v_46 + v_54)) 0 6 6) v_62) := by
                rw [hrun_55]
                refine prun_go (by omega) ?_
                rw [pst6 (P := (up (up (up (up (up (up P 0 7 1) 0 6 4) 0 8 (10 * v_46)) 0 6 5) 0 8 (10 * v_46 + v_54)) 0 6 6)) (c := cz C (t + 1 + 1 + 1)) rfl ⟨by omega, hq5⟩, ← hv_62]
                try rfl
              refine r_iast hx hb hK hw.2.1 hw.2.2 hS 12 0 rfl rfl (k := P 0 1) (by omega) (by decide) dX11_readTaker_151 (fun H locs hP hD hS => ?_)
              have hw : wdH D z (mw ka h a N C (upd (upd f 13 (nI (t + 1 + 1 + 1 + 1))) 15 (nI (P 0 1))) (va_up (va_up (va_up g 18 (upd (g 18) (P 0 1) (nI 1))) 19 (upd (g 19) (P 0 1) (nI ((10 * v_46) + v_54)))) 20 (upd (g 20) (P 0 1) (nI v_62))) ++ R) H := ⟨Nat.le_trans hz0 hS.1, hP, hD⟩
              refine lv_aload_n hx hb dX11_readTaker_152 rfl (lv_at hl 3 rfl) ?_
              refine lv_dup hx hb dX11_readTaker_153 rfl ?_
              refine va_get (D := D) (ci := 11) (v := .int (nI (P 0 1))) (C := RX11) (T := TX11) (N := 35) hx hb hts inX11 hown hK hw.2.1 0 rfl rfl 15 (by decide) (hts _ wd_689) (fun _ h9 => h9) rfl dX11_readTaker_154 ?_
              refine lv_iconst (v := nI 1) hx hb dX11_readTaker_157 (by decide) ?_
              refine n_iadd hx hb dX11_readTaker_158 ?_
              refine va_put (D := D) (ci := 11) (ty := .int) (C := RX11) (T := TX11) (N := 35) hx hb hts inX11 tyX11 tyX11_ok nmX11 hown hK hw.2.1 hw.2.2 hS 0 rfl rfl 15 (by decide) (hts _ wd_689) (fun _ h9 => h9) rfl (by decide +kernel) rfl rfl (Nat.le_of_ble_eq_true rfl) dX11_readTaker_159 (fun H locs hP hD hS => ?_)
              have hw : wdH D z (mw ka h a N C (upd (upd f 13 (nI (t + 1 + 1 + 1 + 1))) 15 (nI ((P 0 1) + 1))) (va_up (va_up (va_up g 18 (upd (g 18) (P 0 1) (nI 1))) 19 (upd (g 19) (P 0 1) (nI ((10 * v_46) + v_54)))) 20 (upd (g 20) (P 0 1) (nI v_62))) ++ R) H := ⟨Nat.le_trans hz0 hS.1, hP, hD⟩
              refine lv_aload_n hx hb dX11_readTaker_162 rfl (lv_at hl 3 rfl) ?_
              refine va_get (D := D) (ci := 11) (v := .ref (a 20)) (C := RX11) (T := TX11) (N := 35) hx hb hts inX11 hown hK hw.2.1 0 rfl rfl 20 (by decide) (hts _ wd_694) (fun _ h9 => h9) rfl dX11_readTaker_163 ?_
              refine lv_aload_n hx hb dX11_readTaker_166 rfl (lv_at hl 3 rfl) ?_
              refine va_get (D := D) (ci := 11) (v := .int (nI ((P 0 1) + 1))) (C := RX11) (T := TX11) (N := 35) hx hb hts inX11 hown hK hw.2.1 0 rfl rfl 15 (by decide) (hts _ wd_689) (fun _ h9 => h9) rfl dX11_readTaker_167 ?_
              refine lv_iconst (v := nI 1) hx hb dX11_readTaker_170 (by decide) ?_
              refine n_isub hx hb (by omega) dX11_readTaker_171 ?_
              rw [Nat.add_sub_cancel]
              refine n_iald hx hb hK hw.2.1 12 0 rfl rfl (k := P 0 1) (by omega) (by decide) dX11_readTaker_172 ?_
              rw [show (va_up (va_up (va_up g 18 (upd (g 18) (P 0 1) (nI 1))) 19 (upd (g 19) (P 0 1) (nI ((10 * v_46) + v_54)))) 20 (upd (g 20) (P 0 1) (nI v_62))) 20 (P 0 1) = nI v_62 from pk_us]
              refine W.eq (g2 := F0 m 173 ls [.int (nI v_62)]) rfl ?_
              refine lv_bipush (v := (-9)) hx hb dX11_readTaker_173 (by decide) ?_
              refine i_icmp_eq (tgt := 182) hx hb (nT (by omega)) ng9 dX11_readTaker_175 (by decide) (fun c_64 => by omega) (fun c_64 => ?_)
              refine lv_iconst (v := nI 1) hx hb dX11_readTaker_178 (by decide) ?_
              refine lv_goto (tgt := 183) hx hb dX11_readTaker_179 (by decide) ?_
              refine hret _ _ _ _ _ _ _ _ dX11_readTaker_183 hS hw (Nat.zero_le _) (Nat.zero_le _) (by decide) ?_
              refine ⟨t + 1 + 1 + 1 + 1, (P 0 1) + 1, (va_up (va_up (va_up g 18 (upd (g 18) (P 0 1) (nI 1))) 19 (upd (g 19) (P 0 1) (nI ((10 * v_46) + v_54)))) 20 (upd (g 20) (P 0 1) (nI v_62))), (ptk (up (up (up (up (up (up P 0 7 1) 0 6 4) 0 8 (10 * v_46)) 0 6 5) 0 8 (10 * v_46 + v_54)) 0 6 6) v_62), rfl, by omega, hrun_63, Or.inl ⟨rfl, rfl, rfl, rfl, fun j hj => ?_, rfl, rfl, rfl, rfl⟩⟩
              have hj : j < P 0 1 + 1 := hj
              exact ⟨upd_in (v := 1) rfl hj (fun q => (hPT j q).1), upd_in (v := 10 * v_46 + v_54) rfl hj (fun q => (hPT j q).2.1), upd_in (v := v_62) rfl hj (fun q => (hPT j q).2.2.1), upN_in (v := 1) (by omega) hj (fun q => (hPT j q).2.2.2.1), upN_in (v := 10 * v_46 + v_54) (by omega) hj (fun q => (hPT j q).2.2.2.2.1), upN_in (v := v_62) (by omega) hj (fun q => (hPT j q).2.2.2.2.2)⟩
            · rw [if_neg cd_61] at hrt_60
              obtain ⟨q1, q2⟩ := Prod.mk.inj hrt_60
              subst q1
              subst t_59
              have hw : wdH D z (mw ka h a N C (upd (upd f 13 (nI (t + 1 + 1 + 1))) 15 (nI (P 0 1))) (va_up (va_up g 18 (upd (g 18) (P 0 1) (nI 1))) 19 (upd (g 19) (P 0 1) (nI ((10 * v_46) + v_54)))) ++ R) H := hw
              refine r_iast hx hb hK hw.2.1 hw.2.2 hS 12 0 rfl rfl (k := P 0 1) (by omega) (by decide) dX11_readTaker_151 (fun H locs hP hD hS => ?_)
              have hw : wdH D z (mw ka h a N C (upd (upd f 13 (nI (t + 1 + 1 + 1))) 15 (nI (P 0 1))) (va_up (va_up (va_up g 18 (upd (g 18) (P 0 1) (nI 1))) 19 (upd (g 19) (P 0 1) (nI ((10 * v_46) + v_54)))) 20 (upd (g 20) (P 0 1) (-9))) ++ R) H := ⟨Nat.le_trans hz0 hS.1, hP, hD⟩
              refine lv_aload_n hx hb dX11_readTaker_152 rfl (lv_at hl 3 rfl) ?_
              refine lv_dup hx hb dX11_readTaker_153 rfl ?_
              refine va_get (D := D) (ci := 11) (v := .int (nI (P 0 1))) (C := RX11) (T := TX11) (N := 35) hx hb hts inX11 hown hK hw.2.1 0 rfl rfl 15 (by decide) (hts _ wd_689) (fun _ h9 => h9) rfl dX11_readTaker_154 ?_
              refine lv_iconst (v := nI 1) hx hb dX11_readTaker_157 (by decide) ?_
              refine n_iadd hx hb dX11_readTaker_158 ?_
              refine va_put (D := D) (ci := 11) (ty := .int) (C := RX11) (T := TX11) (N := 35) hx hb hts inX11 tyX11 tyX11_ok nmX11 hown hK hw.2.1 hw.2.2 hS 0 rfl rfl 15 (by decide) (hts _ wd_689) (fun _ h9 => h9) rfl (by decide +kernel) rfl rfl (Nat.le_of_ble_eq_true rfl) dX11_readTaker_159 (fun H locs hP hD hS => ?_)
              have hw : wdH D z (mw ka h a N C (upd (upd f 13 (nI (t + 1 + 1 + 1))) 15 (nI ((P 0 1) + 1))) (va_up (va_up (va_up g 18 (upd (g 18) (P 0 1) (nI 1))) 19 (upd (g 19) (P 0 1) (nI ((10 * v_46) + v_54)))) 20 (upd (g 20) (P 0 1) (-9))) ++ R) H := ⟨Nat.le_trans hz0 hS.1, hP, hD⟩
              refine lv_aload_n hx hb dX11_readTaker_162 rfl (lv_at hl 3 rfl) ?_
              refine va_get (D := D) (ci := 11) (v := .ref (a 20)) (C := RX11) (T := TX11) (N := 35) hx hb hts inX11 hown hK hw.2.1 0 rfl rfl 20 (by decide) (hts _ wd_694) (fun _ h9 => h9) rfl dX11_readTaker_163 ?_
              refine lv_aload_n hx hb dX11_readTaker_166 rfl (lv_at hl 3 rfl) ?_
              refine va_get (D := D) (ci := 11) (v := .int (nI ((P 0 1) + 1))) (C := RX11) (T := TX11) (N := 35) hx hb hts inX11 hown hK hw.2.1 0 rfl rfl 15 (by decide) (hts _ wd_689) (fun _ h9 => h9) rfl dX11_readTaker_167 ?_
              refine lv_iconst (v := nI 1) hx hb dX11_readTaker_170 (by decide) ?_
              refine n_isub hx hb (by omega) dX11_readTaker_171 ?_
              rw [Nat.add_sub_cancel]
              refine n_iald hx hb hK hw.2.1 12 0 rfl rfl (k := P 0 1) (by omega) (by decide) dX11_readTaker_172 ?_
              rw [show (va_up (va_up (va_up g 18 (upd (g 18) (P 0 1) (nI 1))) 19 (upd (g 19) (P 0 1) (nI ((10 * v_46) + v_54)))) 20 (upd (g 20) (P 0 1) (-9))) 20 (P 0 1) = (-9) from pk_us]
              refine W.eq (g2 := F0 m 173 ls [.int (-9)]) rfl ?_
              refine lv_bipush (v := (-9)) hx hb dX11_readTaker_173 (by decide) ?_
              refine i_icmp_eq (tgt := 182) hx hb ng9 ng9 dX11_readTaker_175 (by decide) (fun c_65 => ?_) (fun c_65 => absurd rfl c_65)
              refine lv_iconst (v := nI 0) hx hb dX11_readTaker_182 (by decide) ?_
              refine hret _ _ _ _ _ _ _ _ dX11_readTaker_183 hS hw (Nat.zero_le _) (Nat.zero_le _) (by decide) ?_
              exact ⟨t + 1 + 1 + 1, (P 0 1) + 1, (va_up (va_up (va_up g 18 (upd (g 18) (P 0 1) (nI 1))) 19 (upd (g 19) (P 0 1) (nI ((10 * v_46) + v_54)))) 20 (upd (g 20) (P 0 1) (-9))), (up (up (up (up (up (up P 0 7 1) 0 6 4) 0 8 (10 * v_46)) 0 6 5) 0 8 (10 * v_46 + v_54)) 0 6 6), rfl, by omega, hrun_55, Or.inr ⟨rfl, fun h1 => pst6n rfl (by omega), fun _ => (show (6 : Nat) ≠ 8 by decide)⟩⟩
          · rw [if_neg cd_53] at hrt_52
            obtain ⟨q1, q2⟩ := Prod.mk.inj hrt_52
            subst q1
            subst t_51
            have hw : wdH D z (mw ka h a N C (upd (upd f 13 (nI (t + 1 + 1))) 15 (nI (P 0 1))) (va_up g 18 (upd (g 18) (P 0 1) (nI 1))) ++ R) H := hw
            refine lv_istore (lv' := [(4, .int (-9)), (3, .int (nI v_46)), (2, .int (C (t / 60) (t % 60))), (0, .ref h), (1, .int (nI e1))]) hx hb dX11_readTaker_110 hl (by decide) rfl (fun ls hl => ?_)
            refine lv_iload hx hb dX11_readTaker_112 (lv_at hl 0 rfl) ?_
            refine lv_bipush (v := (-9)) hx hb dX11_readTaker_114 (by decide) ?_
            refine i_icmp_ne (tgt := 121) hx hb ng9 ng9 dX11_readTaker_116 (by decide) (fun c_66 => absurd rfl c_66) (fun c_66 => ?_)
            refine lv_iconst (v := nI 0) hx hb dX11_readTaker_119 (by decide) ?_
            refine hret _ _ _ _ _ _ _ _ dX11_readTaker_120 hS hw (Nat.zero_le _) (Nat.zero_le _) (by decide) ?_
            exact ⟨t + 1 + 1, P 0 1, (va_up g 18 (upd (g 18) (P 0 1) (nI 1))), (up (up (up (up P 0 7 1) 0 6 4) 0 8 (10 * v_46)) 0 6 5), rfl, by omega, hrun_47, Or.inr ⟨rfl, fun h1 => pst5n rfl (by omega), fun _ => (show (5 : Nat) ≠ 8 by decide)⟩⟩
        · rw [if_neg cd_45] at hrt_44
          obtain ⟨q1, q2⟩ := Prod.mk.inj hrt_44
          subst q1
          subst t_43
          have hw : wdH D z (mw ka h a N C (upd (upd f 13 (nI (t + 1))) 15 (nI (P 0 1))) (va_up g 18 (upd (g 18) (P 0 1) (nI 1))) ++ R) H := hw
          refine lv_istore_n (lv' := [(3, .int (-9)), (2, .int (C (t / 60) (t % 60))), (0, .ref h), (1, .int (nI e1))]) hx hb dX11_readTaker_95 rfl hl (by decide) rfl (fun ls hl => ?_)
          refine lv_iload_n hx hb dX11_readTaker_96 rfl (lv_at hl 0 rfl) ?_
          refine lv_bipush (v := (-9)) hx hb dX11_readTaker_97 (by decide) ?_
          refine i_icmp_ne (tgt := 104) hx hb ng9 ng9 dX11_readTaker_99 (by decide) (fun c_67 => absurd rfl c_67) (fun c_67 => ?_)
          refine lv_iconst (v := nI 0) hx hb dX11_readTaker_102 (by decide) ?_
          refine hret _ _ _ _ _ _ _ _ dX11_readTaker_103 hS hw (Nat.zero_le _) (Nat.zero_le _) (by decide) ?_
          exact ⟨t + 1, P 0 1, (va_up g 18 (upd (g 18) (P 0 1) (nI 1))), (up (up P 0 7 1) 0 6 4), rfl, by omega, hrun_40, Or.inr ⟨rfl, fun h1 => pst4n rfl (by omega), fun _ => (show (4 : Nat) ≠ 8 by decide)⟩⟩
    · refine lv_iconst (v := nI 0) hx hb dX11_readTaker_36 (by decide) ?_
      refine lv_goto (tgt := 62) hx hb dX11_readTaker_37 (by decide) ?_
      refine r_iast hx hb hK hw.2.1 hw.2.2 hS 10 0 rfl rfl (k := P 0 1) (by omega) (by decide) dX11_readTaker_62 (fun H locs hP hD hS => ?_)
      have hw : wdH D z (mw ka h a N C (upd (upd f 13 (nI t)) 15 (nI (P 0 1))) (va_up g 18 (upd (g 18) (P 0 1) (nI 0))) ++ R) H := ⟨Nat.le_trans hz0 hS.1, hP, hD⟩
      refine lv_aload_n hx hb dX11_readTaker_63 rfl (lv_at hl 1 rfl) ?_
      refine va_get (D := D) (ci := 11) (v := .ref (a 18)) (C := RX11) (T := TX11) (N := 35) hx hb hts inX11 hown hK hw.2.1 0 rfl rfl 18 (by decide) (hts _ wd_692) (fun _ h9 => h9) rfl dX11_readTaker_64 ?_
      refine lv_aload_n hx hb dX11_readTaker_67 rfl (lv_at hl 1 rfl) ?_
      refine va_get (D := D) (ci := 11) (v := .int (nI (P 0 1))) (C := RX11) (T := TX11) (N := 35) hx hb hts inX11 hown hK hw.2.1 0 rfl rfl 15 (by decide) (hts _ wd_689) (fun _ h9 => h9) rfl dX11_readTaker_68 ?_
      refine n_iald hx hb hK hw.2.1 10 0 rfl rfl (k := P 0 1) (by omega) (by decide) dX11_readTaker_71 ?_
      rw [show (va_up g 18 (upd (g 18) (P 0 1) (nI 0))) 18 (P 0 1) = nI 0 from pk_us]
      refine W.eq (g2 := F0 m 72 ls [.int (nI 0)]) rfl ?_
      refine lv_bipush (v := (-9)) hx hb dX11_readTaker_72 (by decide) ?_
      refine i_icmp_ne (tgt := 79) hx hb (nT (by decide)) ng9 dX11_readTaker_74 (by decide) (fun c_68 => ?_) (fun c_68 => by omega)
      have hrun_69 : prun C (e1 - t) t P = prun C (e1 - (t + 1)) (t + 1) (up (up P 0 7 0) 0 6 4) := prun_go (by omega) (by rw [show cz C t = 116 by omega]; exact pst3t hp6)
      refine lv_aload_n hx hb dX11_readTaker_79 rfl (lv_at hl 1 rfl) ?_
      refine lv_dup hx hb dX11_readTaker_80 rfl ?_
      refine va_get (D := D) (ci := 11) (v := .int (nI t)) (C := RX11) (T := TX11) (N := 35) hx hb hts inX11 hown hK hw.2.1 0 rfl rfl 13 (by decide) (hts _ wd_687) (fun _ h9 => h9) rfl dX11_readTaker_81 ?_
      refine lv_iconst (v := nI 1) hx hb dX11_readTaker_84 (by decide) ?_
      refine n_iadd hx hb dX11_readTaker_85 ?_
      refine va_put (D := D) (ci := 11) (ty := .int) (C := RX11) (T := TX11) (N := 35) hx hb hts inX11 tyX11 tyX11_ok nmX11 hown hK hw.2.1 hw.2.2 hS 0 rfl rfl 13 (by decide) (hts _ wd_687) (fun _ h9 => h9) rfl (by decide +kernel) rfl rfl (Nat.le_of_ble_eq_true rfl) dX11_readTaker_86 (fun H locs hP hD hS => ?_)
      have hw : wdH D z (mw ka h a N C (upd (upd f 13 (nI (t + 1))) 15 (nI (P 0 1))) (va_up g 18 (upd (g 18) (P 0 1) (nI 0))) ++ R) H := ⟨Nat.le_trans hz0 hS.1, hP, hD⟩
      refine lv_aload_n hx hb dX11_readTaker_89 rfl (lv_at hl 1 rfl) ?_
      refine lv_iload_n hx hb dX11_readTaker_90 rfl (lv_at hl 2 rfl) ?_
      refine lv_iconst (v := nI 0) hx hb dX11_readTaker_91 (by decide) ?_
      refine mu_i (mu_runV (c_X11_digit l D ka z h a N C (upd f 15 (nI (P 0 1))) (va_up g 18 (upd (g 18) (P 0 1) (nI 0))) R (t + 1) e1 0 (by omega) (by omega) (by omega)) X wd_816 wd_813 wd_815 ws_7 wd_8 on_X11_digit ⟨Nat.le_of_ble_eq_true rfl, Nat.le_of_ble_eq_true rfl⟩ (va_recv hK hw.2.1 (ci := 11) (q0 := 0) rfl rfl) (show wdH D z (mw ka h a N C (upd (upd f 15 (nI (P 0 1))) 13 (nI (t + 1))) (va_up g 18 (upd (g 18) (P 0 1) (nI 0))) ++ R) _ from hw) hl.1 rfl (Nat.le_of_ble_eq_true rfl) ⟨Nat.le_of_ble_eq_true rfl, Nat.le_of_ble_eq_true rfl⟩ dX11_readTaker_92) hS (fun r_71 u_70 H locs hp_u_70 hw hS => ?_)
      obtain ⟨t_72, rfl, hrt_73⟩ := hp_u_70
      by_cases cd_74 : t + 1 < e1 ∧ (48 + ((0 : Nat) : Int) ≤ cz C (t + 1) ∧ cz C (t + 1) ≤ 57)
      · rw [if_pos cd_74] at hrt_73
        obtain ⟨q1, q2⟩ := Prod.mk.inj hrt_73
        subst q1
        subst t_72
        obtain ⟨v_75, hv_75⟩ : ∃ v : Nat, v = (cz C (t + 1) - 48).toNat := ⟨_, rfl⟩
        rw [← hv_75]
        have hbv_75 : v_75 ≤ 9 ∧ cz C (t + 1) = (v_75 : Int) + 48 := by omega
        have hw : wdH D z (mw ka h a N C (upd (upd f 13 (nI (t + 1 + 1))) 15 (nI (P 0 1))) (va_up g 18 (upd (g 18) (P 0 1) (nI 0))) ++ R) H := hw
        have hrun_76 : prun C (e1 - t) t P = prun C (e1 - (t + 1 + 1)) (t + 1 + 1) (up (up (up (up P 0 7 0) 0 6 4) 0 8 (10 * v_75)) 0 6 5) := by
          rw [hrun_69]
          refine prun_go (by omega) ?_
          rw [pst4 (P := (up (up P 0 7 0) 0 6 4)) (c := cz C (t + 1)) rfl (by omega), ← hv_75]
          try rfl
        refine lv_istore_n (lv' := [(3, .int (nI v_75)), (2, .int (C (t / 60) (t % 60))), (0, .ref h), (1, .int (nI e1))]) hx hb dX11_readTaker_95 rfl hl (by decide) rfl (fun ls hl => ?_)
        refine lv_iload_n hx hb dX11_readTaker_96 rfl (lv_at hl 0 rfl) ?_
        refine lv_bipush (v := (-9)) hx hb dX11_readTaker_97 (by decide) ?_
        refine i_icmp_ne (tgt := 104) hx hb (nT (by omega)) ng9 dX11_readTaker_99 (by decide) (fun c_77 => ?_) (fun c_77 => by omega)
        refine lv_aload_n hx hb dX11_readTaker_104 rfl (lv_at hl 2 rfl) ?_
        refine lv_iload_n hx hb dX11_readTaker_105 rfl (lv_at hl 3 rfl) ?_
        refine lv_iconst (v := nI 0) hx hb dX11_readTaker_106 (by decide) ?_
        refine mu_i (mu_runV (c_X11_digit l D ka z h a N C (upd f 15 (nI (P 0 1))) (va_up g 18 (upd (g 18) (P 0 1) (nI 0))) R (t + 1 + 1) e1 0 (by omega) (by omega) (by omega)) X wd_816 wd_813 wd_815 ws_7 wd_8 on_X11_digit ⟨Nat.le_of_ble_eq_true rfl, Nat.le_of_ble_eq_true rfl⟩ (va_recv hK hw.2.1 (ci := 11) (q0 := 0) rfl rfl) (show wdH D z (mw ka h a N C (upd (upd f 15 (nI (P 0 1))) 13 (nI (t + 1 + 1))) (va_up g 18 (upd (g 18) (P 0 1) (nI 0))) ++ R) _ from hw) hl.1 rfl (Nat.le_of_ble_eq_true rfl) ⟨Nat.le_of_ble_eq_true rfl, Nat.le_of_ble_eq_true rfl⟩ dX11_readTaker_107) hS (fun r_79 u_78 H locs hp_u_78 hw hS => ?_)
        obtain ⟨t_80, rfl, hrt_81⟩ := hp_u_78
        by_cases cd_82 : t + 1 + 1 < e1 ∧ (48 + ((0 : Nat) : Int) ≤ cz C (t + 1 + 1) ∧ cz C (t + 1 + 1) ≤ 57)
        · rw [if_pos cd_82] at hrt_81
          obtain ⟨q1, q2⟩ := Prod.mk.inj hrt_81
          subst q1
          subst t_80
          obtain ⟨v_83, hv_83⟩ : ∃ v : Nat, v = (cz C (t + 1 + 1) - 48).toNat := ⟨_, rfl⟩
          rw [← hv_83]
          have hbv_83 : v_83 ≤ 9 ∧ cz C (t + 1 + 1) = (v_83 : Int) + 48 := by omega
          have hw : wdH D z (mw ka h a N C (upd (upd f 13 (nI (t + 1 + 1 + 1))) 15 (nI (P 0 1))) (va_up g 18 (upd (g 18) (P 0 1) (nI 0))) ++ R) H := hw
          have hrun_84 : prun C (e1 - t) t P = prun C (e1 - (t + 1 + 1 + 1)) (t + 1 + 1 + 1) (up (up (up (up (up (up P 0 7 0) 0 6 4) 0 8 (10 * v_75)) 0 6 5) 0 8 (10 * v_75 + v_83)) 0 6 6) := by
            rw [hrun_76]
            refine prun_go (by omega) ?_
            rw [pst5 (P := (up (up (up (up P 0 7 0) 0 6 4) 0 8 (10 * v_75)) 0 6 5)) (c := cz C (t + 1 + 1)) rfl (by omega), ← hv_83]
            try rfl
          refine lv_istore (lv' := [(4, .int (nI v_83)), (3, .int (nI v_75)), (2, .int (C (t / 60) (t % 60))), (0, .ref h), (1, .int (nI e1))]) hx hb dX11_readTaker_110 hl (by decide) rfl (fun ls hl => ?_)
          refine lv_iload hx hb dX11_readTaker_112 (lv_at hl 0 rfl) ?_
          refine lv_bipush (v := (-9)) hx hb dX11_readTaker_114 (by decide) ?_
          refine i_icmp_ne (tgt := 121) hx hb (nT (by omega)) ng9 dX11_readTaker_116 (by decide) (fun c_85 => ?_) (fun c_85 => by omega)
          refine lv_aload_n hx hb dX11_readTaker_121 rfl (lv_at hl 3 rfl) ?_
          refine va_get (D := D) (ci := 11) (v := .ref (a 19)) (C := RX11) (T := TX11) (N := 35) hx hb hts inX11 hown hK hw.2.1 0 rfl rfl 19 (by decide) (hts _ wd_693) (fun _ h9 => h9) rfl dX11_readTaker_122 ?_
          refine lv_aload_n hx hb dX11_readTaker_125 rfl (lv_at hl 3 rfl) ?_
          refine va_get (D := D) (ci := 11) (v := .int (nI (P 0 1))) (C := RX11) (T := TX11) (N := 35) hx hb hts inX11 hown hK hw.2.1 0 rfl rfl 15 (by decide) (hts _ wd_689) (fun _ h9 => h9) rfl dX11_readTaker_126 ?_
          refine lv_bipush (v := nI 10) hx hb dX11_readTaker_129 (by decide) ?_
          refine lv_iload_n hx hb dX11_readTaker_131 rfl (lv_at hl 1 rfl) ?_
          refine n_imul hx hb dX11_readTaker_132 ?_
          refine lv_iload hx hb dX11_readTaker_133 (lv_at hl 0 rfl) ?_
          refine n_iadd hx hb dX11_readTaker_135 ?_
          refine r_iast hx hb hK hw.2.1 hw.2.2 hS 11 0 rfl rfl (k := P 0 1) (by omega) (by decide) dX11_readTaker_136 (fun H locs hP hD hS => ?_)
          have hw : wdH D z (mw ka h a N C (upd (upd f 13 (nI (t + 1 + 1 + 1))) 15 (nI (P 0 1))) (va_up (va_up g 18 (upd (g 18) (P 0 1) (nI 0))) 19 (upd (g 19) (P 0 1) (nI ((10 * v_75) + v_83)))) ++ R) H := ⟨Nat.le_trans hz0 hS.1, hP, hD⟩
          refine lv_aload_n hx hb dX11_readTaker_137 rfl (lv_at hl 3 rfl) ?_
          refine va_get (D := D) (ci := 11) (v := .ref (a 20)) (C := RX11) (T := TX11) (N := 35) hx hb hts inX11 hown hK hw.2.1 0 rfl rfl 20 (by decide) (hts _ wd_694) (fun _ h9 => h9) rfl dX11_readTaker_138 ?_
          refine lv_aload_n hx hb dX11_readTaker_141 rfl (lv_at hl 3 rfl) ?_
          refine va_get (D := D) (ci := 11) (v := .int (nI (P 0 1))) (C := RX11) (T := TX11) (N := 35) hx hb hts inX11 hown hK hw.2.1 0 rfl rfl 15 (by decide) (hts _ wd_689) (fun _ h9 => h9) rfl dX11_readTaker_142 ?_
          refine lv_aload_n hx hb dX11_readTaker_145 rfl (lv_at hl 3 rfl) ?_
          refine lv_iload_n hx hb dX11_readTaker_146 rfl (lv_at hl 4 rfl) ?_
          refine lv_iconst (v := nI 0) hx hb dX11_readTaker_147 (by decide) ?_
          refine mu_i (mu_runV (c_X11_digit l D ka z h a N C (upd f 15 (nI (P 0 1))) (va_up (va_up g 18 (upd (g 18) (P 0 1) (nI 0))) 19 (upd (g 19) (P 0 1) (nI ((10 * v_75) + v_83)))) R (t + 1 + 1 + 1) e1 0 (by omega) (by omega) (by omega)) X wd_816 wd_813 wd_815 ws_7 wd_8 on_X11_digit ⟨Nat.le_of_ble_eq_true rfl, Nat.le_of_ble_eq_true rfl⟩ (va_recv hK hw.2.1 (ci := 11) (q0 := 0) rfl rfl) (show wdH D z (mw ka h a N C (upd (upd f 15 (nI (P 0 1))) 13 (nI (t + 1 + 1 + 1))) (va_up (va_up g 18 (upd (g 18) (P 0 1) (nI 0))) 19 (upd (g 19) (P 0 1) (nI ((10 * v_75) + v_83)))) ++ R) _ from hw) hl.1 rfl (Nat.le_of_ble_eq_true rfl) ⟨Nat.le_of_ble_eq_true rfl, Nat.le_of_ble_eq_true rfl⟩ dX11_readTaker_148) hS (fun r_87 u_86 H locs hp_u_86 hw hS => ?_)
          obtain ⟨t_88, rfl, hrt_89⟩ := hp_u_86
          by_cases cd_90 : t + 1 + 1 + 1 < e1 ∧ (48 + ((0 : Nat) : Int) ≤ cz C (t + 1 + 1 + 1) ∧ cz C (t + 1 + 1 + 1) ≤ 57)
          · rw [if_pos cd_90] at hrt_89
            obtain ⟨q1, q2⟩ := Prod.mk.inj hrt_89
            subst q1
            subst t_88
            obtain ⟨v_91, hv_91⟩ : ∃ v : Nat, v = (cz C (t + 1 + 1 + 1) - 48).toNat := ⟨_, rfl⟩
            rw [← hv_91]
            have hbv_91 : v_91 ≤ 9 ∧ cz C (t + 1 + 1 + 1) = (v_91 : Int) + 48 := by omega
            have hw : wdH D z (mw ka h a N C (upd (upd f 13 (nI (t + 1 + 1 + 1 + 1))) 15 (nI (P 0 1))) (va_up (va_up g 18 (upd (g 18) (P 0 1) (nI 0))) 19 (upd (g 19) (P 0 1) (nI ((10 * v_75) + v_83)))) ++ R) H := hw
            have hrun_92 : prun C (e1 - t) t P = prun C (e1 - (t + 1 + 1 + 1 + 1)) (t + 1 + 1 + 1 + 1) (ptk (up (up (up (up (up (up P 0 7 0) 0 6 4) 0 8 (10 * v_75)) 0 6 5) 0 8 (10 * v_75 + v_83)) 0 6 6) v_91) := by
              rw [hrun_84]
              refine prun_go (by omega) ?_
              rw [pst6 (P := (up (up (up (up (up (up P 0 7 0) 0 6 4) 0 8 (10 * v_75)) 0 6 5) 0 8 (10 * v_75 + v_83)) 0 6 6)) (c := cz C (t + 1 + 1 + 1)) rfl ⟨by omega, hq5⟩, ← hv_91]
              try rfl
            refine r_iast hx hb hK hw.2.1 hw.2.2 hS 12 0 rfl rfl (k := P 0 1) (by omega) (by decide) dX11_readTaker_151 (fun H locs hP hD hS => ?_)
            have hw : wdH D z (mw ka h a N C (upd (upd f 13 (nI (t + 1 + 1 + 1 + 1))) 15 (nI (P 0 1))) (va_up (va_up (va_up g 18 (upd (g 18) (P 0 1) (nI 0))) 19 (upd (g 19) (P 0 1) (nI ((10 * v_75) + v_83)))) 20 (upd (g 20) (P 0 1) (nI v_91))) ++ R) H := ⟨Nat.le_trans hz0 hS.1, hP, hD⟩
            refine lv_aload_n hx hb dX11_readTaker_152 rfl (lv_at hl 3 rfl) ?_
            refine lv_dup hx hb dX11_readTaker_153 rfl ?_
            refine va_get (D := D) (ci := 11) (v := .int (nI (P 0 1))) (C := RX11) (T := TX11) (N := 35) hx hb hts inX11 hown hK hw.2.1 0 rfl rfl 15 (by decide) (hts _ wd_689) (fun _ h9 => h9) rfl dX11_readTaker_154 ?_
            refine lv_iconst (v := nI 1) hx hb dX11_readTaker_157 (by decide) ?_
            refine n_iadd hx hb dX11_readTaker_158 ?_
            refine va_put (D := D) (ci := 11) (ty := .int) (C := RX11) (T := TX11) (N := 35) hx hb hts inX11 tyX11 tyX11_ok nmX11 hown hK hw.2.1 hw.2.2 hS 0 rfl rfl 15 (by decide) (hts _ wd_689) (fun _ h9 => h9) rfl (by decide +kernel) rfl rfl (Nat.le_of_ble_eq_true rfl) dX11_readTaker_159 (fun H locs hP hD hS => ?_)
            have hw : wdH D z (mw ka h a N C (upd (upd f 13 (nI (t + 1 + 1 + 1 + 1))) 15 (nI ((P 0 1) + 1))) (va_up (va_up (va_up g 18 (upd (g 18) (P 0 1) (nI 0))) 19 (upd (g 19) (P 0 1) (nI ((10 * v_75) + v_83)))) 20 (upd (g 20) (P 0 1) (nI v_91))) ++ R) H := ⟨Nat.le_trans hz0 hS.1, hP, hD⟩
            refine lv_aload_n hx hb dX11_readTaker_162 rfl (lv_at hl 3 rfl) ?_
            refine va_get (D := D) (ci := 11) (v := .ref (a 20)) (C := RX11) (T := TX11) (N := 35) hx hb hts inX11 hown hK hw.2.1 0 rfl rfl 20 (by decide) (hts _ wd_694) (fun _ h9 => h9) rfl dX11_readTaker_163 ?_
            refine lv_aload_n hx hb dX11_readTaker_166 rfl (lv_at hl 3 rfl) ?_
            refine va_get (D := D) (ci := 11) (v := .int (nI ((P 0 1) + 1))) (C := RX11) (T := TX11) (N := 35) hx hb hts inX11 hown hK hw.2.1 0 rfl rfl 15 (by decide) (hts _ wd_689) (fun _ h9 => h9) rfl dX11_readTaker_167 ?_
            refine lv_iconst (v := nI 1) hx hb dX11_readTaker_170 (by decide) ?_
            refine n_isub hx hb (by omega) dX11_readTaker_171 ?_
            rw [Nat.add_sub_cancel]
            refine n_iald hx hb hK hw.2.1 12 0 rfl rfl (k := P 0 1) (by omega) (by decide) dX11_readTaker_172 ?_
            rw [show (va_up (va_up (va_up g 18 (upd (g 18) (P 0 1) (nI 0))) 19 (upd (g 19) (P 0 1) (nI ((10 * v_75) + v_83)))) 20 (upd (g 20) (P 0 1) (nI v_91))) 20 (P 0 1) = nI v_91 from pk_us]
            refine W.eq (g2 := F0 m 173 ls [.int (nI v_91)]) rfl ?_
            refine lv_bipush (v := (-9)) hx hb dX11_readTaker_173 (by decide) ?_
            refine i_icmp_eq (tgt := 182) hx hb (nT (by omega)) ng9 dX11_readTaker_175 (by decide) (fun c_93 => by omega) (fun c_93 => ?_)
            refine lv_iconst (v := nI 1) hx hb dX11_readTaker_178 (by decide) ?_
            refine lv_goto (tgt := 183) hx hb dX11_readTaker_179 (by decide) ?_
            refine hret _ _ _ _ _ _ _ _ dX11_readTaker_183 hS hw (Nat.zero_le _) (Nat.zero_le _) (by decide) ?_
            refine ⟨t + 1 + 1 + 1 + 1, (P 0 1) + 1, (va_up (va_up (va_up g 18 (upd (g 18) (P 0 1) (nI 0))) 19 (upd (g 19) (P 0 1) (nI ((10 * v_75) + v_83)))) 20 (upd (g 20) (P 0 1) (nI v_91))), (ptk (up (up (up (up (up (up P 0 7 0) 0 6 4) 0 8 (10 * v_75)) 0 6 5) 0 8 (10 * v_75 + v_83)) 0 6 6) v_91), rfl, by omega, hrun_92, Or.inl ⟨rfl, rfl, rfl, rfl, fun j hj => ?_, rfl, rfl, rfl, rfl⟩⟩
            have hj : j < P 0 1 + 1 := hj
            exact ⟨upd_in (v := 0) rfl hj (fun q => (hPT j q).1), upd_in (v := 10 * v_75 + v_83) rfl hj (fun q => (hPT j q).2.1), upd_in (v := v_91) rfl hj (fun q => (hPT j q).2.2.1), upN_in (v := 0) (by omega) hj (fun q => (hPT j q).2.2.2.1), upN_in (v := 10 * v_75 + v_83) (by omega) hj (fun q => (hPT j q).2.2.2.2.1), upN_in (v := v_91) (by omega) hj (fun q => (hPT j q).2.2.2.2.2)⟩
          · rw [if_neg cd_90] at hrt_89
            obtain ⟨q1, q2⟩ := Prod.mk.inj hrt_89
            subst q1
            subst t_88
            have hw : wdH D z (mw ka h a N C (upd (upd f 13 (nI (t + 1 + 1 + 1))) 15 (nI (P 0 1))) (va_up (va_up g 18 (upd (g 18) (P 0 1) (nI 0))) 19 (upd (g 19) (P 0 1) (nI ((10 * v_75) + v_83)))) ++ R) H := hw
            refine r_iast hx hb hK hw.2.1 hw.2.2 hS 12 0 rfl rfl (k := P 0 1) (by omega) (by decide) dX11_readTaker_151 (fun H locs hP hD hS => ?_)
            have hw : wdH D z (mw ka h a N C (upd (upd f 13 (nI (t + 1 + 1 + 1))) 15 (nI (P 0 1))) (va_up (va_up (va_up g 18 (upd (g 18) (P 0 1) (nI 0))) 19 (upd (g 19) (P 0 1) (nI ((10 * v_75) + v_83)))) 20 (upd (g 20) (P 0 1) (-9))) ++ R) H := ⟨Nat.le_trans hz0 hS.1, hP, hD⟩
            refine lv_aload_n hx hb dX11_readTaker_152 rfl (lv_at hl 3 rfl) ?_
            refine lv_dup hx hb dX11_readTaker_153 rfl ?_
            refine va_get (D := D) (ci := 11) (v := .int (nI (P 0 1))) (C := RX11) (T := TX11) (N := 35) hx hb hts inX11 hown hK hw.2.1 0 rfl rfl 15 (by decide) (hts _ wd_689) (fun _ h9 => h9) rfl dX11_readTaker_154 ?_
            refine lv_iconst (v := nI 1) hx hb dX11_readTaker_157 (by decide) ?_
            refine n_iadd hx hb dX11_readTaker_158 ?_
            refine va_put (D := D) (ci := 11) (ty := .int) (C := RX11) (T := TX11) (N := 35) hx hb hts inX11 tyX11 tyX11_ok nmX11 hown hK hw.2.1 hw.2.2 hS 0 rfl rfl 15 (by decide) (hts _ wd_689) (fun _ h9 => h9) rfl (by decide +kernel) rfl rfl (Nat.le_of_ble_eq_true rfl) dX11_readTaker_159 (fun H locs hP hD hS => ?_)
            have hw : wdH D z (mw ka h a N C (upd (upd f 13 (nI (t + 1 + 1 + 1))) 15 (nI ((P 0 1) + 1))) (va_up (va_up (va_up g 18 (upd (g 18) (P 0 1) (nI 0))) 19 (upd (g 19) (P 0 1) (nI ((10 * v_75) + v_83)))) 20 (upd (g 20) (P 0 1) (-9))) ++ R) H := ⟨Nat.le_trans hz0 hS.1, hP, hD⟩
            refine lv_aload_n hx hb dX11_readTaker_162 rfl (lv_at hl 3 rfl) ?_
            refine va_get (D := D) (ci := 11) (v := .ref (a 20)) (C := RX11) (T := TX11) (N := 35) hx hb hts inX11 hown hK hw.2.1 0 rfl rfl 20 (by decide) (hts _ wd_694) (fun _ h9 => h9) rfl dX11_readTaker_163 ?_
            refine lv_aload_n hx hb dX11_readTaker_166 rfl (lv_at hl 3 rfl) ?_
            refine va_get (D := D) (ci := 11) (v := .int (nI ((P 0 1) + 1))) (C := RX11) (T := TX11) (N := 35) hx hb hts inX11 hown hK hw.2.1 0 rfl rfl 15 (by decide) (hts _ wd_689) (fun _ h9 => h9) rfl dX11_readTaker_167 ?_
            refine lv_iconst (v := nI 1) hx hb dX11_readTaker_170 (by decide) ?_
            refine n_isub hx hb (by omega) dX11_readTaker_171 ?_
            rw [Nat.add_sub_cancel]
            refine n_iald hx hb hK hw.2.1 12 0 rfl rfl (k := P 0 1) (by omega) (by decide) dX11_readTaker_172 ?_
            rw [show (va_up (va_up (va_up g 18 (upd (g 18) (P 0 1) (nI 0))) 19 (upd (g 19) (P 0 1) (nI ((10 * v_75) + v_83)))) 20 (upd (g 20) (P 0 1) (-9))) 20 (P 0 1) = (-9) from pk_us]
            refine W.eq (g2 := F0 m 173 ls [.int (-9)]) rfl ?_
            refine lv_bipush (v := (-9)) hx hb dX11_readTaker_173 (by decide) ?_
            refine i_icmp_eq (tgt := 182) hx hb ng9 ng9 dX11_readTaker_175 (by decide) (fun c_94 => ?_) (fun c_94 => absurd rfl c_94)
            refine lv_iconst (v := nI 0) hx hb dX11_readTaker_182 (by decide) ?_
            refine hret _ _ _ _ _ _ _ _ dX11_readTaker_183 hS hw (Nat.zero_le _) (Nat.zero_le _) (by decide) ?_
            exact ⟨t + 1 + 1 + 1, (P 0 1) + 1, (va_up (va_up (va_up g 18 (upd (g 18) (P 0 1) (nI 0))) 19 (upd (g 19) (P 0 1) (nI ((10 * v_75) + v_83)))) 20 (upd (g 20) (P 0 1) (-9))), (up (up (up (up (up (up P 0 7 0) 0 6 4) 0 8 (10 * v_75)) 0 6 5) 0 8 (10 * v_75 + v_83)) 0 6 6), rfl, by omega, hrun_84, Or.inr ⟨rfl, fun h1 => pst6n rfl (by omega), fun _ => (show (6 : Nat) ≠ 8 by decide)⟩⟩
        · rw [if_neg cd_82] at hrt_81
          obtain ⟨q1, q2⟩ := Prod.mk.inj hrt_81
          subst q1
          subst t_80
          have hw : wdH D z (mw ka h a N C (upd (upd f 13 (nI (t + 1 + 1))) 15 (nI (P 0 1))) (va_up g 18 (upd (g 18) (P 0 1) (nI 0))) ++ R) H := hw
          refine lv_istore (lv' := [(4, .int (-9)), (3, .int (nI v_75)), (2, .int (C (t / 60) (t % 60))), (0, .ref h), (1, .int (nI e1))]) hx hb dX11_readTaker_110 hl (by decide) rfl (fun ls hl => ?_)
          refine lv_iload hx hb dX11_readTaker_112 (lv_at hl 0 rfl) ?_
          refine lv_bipush (v := (-9)) hx hb dX11_readTaker_114 (by decide) ?_
          refine i_icmp_ne (tgt := 121) hx hb ng9 ng9 dX11_readTaker_116 (by decide) (fun c_95 => absurd rfl c_95) (fun c_95 => ?_)
          refine lv_iconst (v := nI 0) hx hb dX11_readTaker_119 (by decide) ?_
          refine hret _ _ _ _ _ _ _ _ dX11_readTaker_120 hS hw (Nat.zero_le _) (Nat.zero_le _) (by decide) ?_
          exact ⟨t + 1 + 1, P 0 1, (va_up g 18 (upd (g 18) (P 0 1) (nI 0))), (up (up (up (up P 0 7 0) 0 6 4) 0 8 (10 * v_75)) 0 6 5), rfl, by omega, hrun_76, Or.inr ⟨rfl, fun h1 => pst5n rfl (by omega), fun _ => (show (5 : Nat) ≠ 8 by decide)⟩⟩
      · rw [if_neg cd_74] at hrt_73
        obtain ⟨q1, q2⟩ := Prod.mk.inj hrt_73
        subst q1
        subst t_72
        have hw : wdH D z (mw ka h a N C (upd (upd f 13 (nI (t + 1))) 15 (nI (P 0 1))) (va_up g 18 (upd (g 18) (P 0 1) (nI 0))) ++ R) H := hw
        refine lv_istore_n (lv' := [(3, .int (-9)), (2, .int (C (t / 60) (t % 60))), (0, .ref h), (1, .int (nI e1))]) hx hb dX11_readTaker_95 rfl hl (by decide) rfl (fun ls hl => ?_)
        refine lv_iload_n hx hb dX11_readTaker_96 rfl (lv_at hl 0 rfl) ?_
        refine lv_bipush (v := (-9)) hx hb dX11_readTaker_97 (by decide) ?_
        refine i_icmp_ne (tgt := 104) hx hb ng9 ng9 dX11_readTaker_99 (by decide) (fun c_96 => absurd rfl c_96) (fun c_96 => ?_)
        refine lv_iconst (v := nI 0) hx hb dX11_readTaker_102 (by decide) ?_
        refine hret _ _ _ _ _ _ _ _ dX11_readTaker_103 hS hw (Nat.zero_le _) (Nat.zero_le _) (by decide) ?_
        exact ⟨t + 1, P 0 1, (va_up g 18 (upd (g 18) (P 0 1) (nI 0))), (up (up P 0 7 0) 0 6 4), rfl, by omega, hrun_69, Or.inr ⟨rfl, fun h1 => pst4n rfl (by omega), fun _ => (show (4 : Nat) ≠ 8 by decide)⟩⟩
set_option maxRecDepth 100000 in
set_option maxHeartbeats 4000000 in
theorem c_X11_readTheGoods (l : Launch) (D : va_G) (ka : Nat → ClassId) (z : Nat) (h : Nat) (a : Nat → Nat) (N : Nat → Nat → Nat) (C : Nat → Nat → Int32) (f : Nat → Int32) (g : Nat → Nat → Int32) (R : va_W) (t e1 : Nat) (P : NN) (hte : t ≤ e1) (he : e1 ≤ 240) (hp0 : P 0 2 = 0) (hp6 : P 0 6 = 8) : MU l D ka z yX11_readTheGoods cX11_readTheGoods 3 (some .boolean) 2 0 0 [.ref h, .int (nI e1)] (mw ka h a N C (upd f 13 (nI t)) g ++ R) (Qi D z (fun r w => ∃ t2 g2 P2, w = mw ka h a N C (upd (upd f 13 (nI t2)) 16 (nI (P2 0 2))) g2 ++ R ∧ (t ≤ t2 ∧ t2 ≤ e1) ∧ prun C (e1 - t) t P = prun C (e1 - t2) t2 P2 ∧ ((r = 1 ∧ t2 = e1 ∧ P2 0 6 = 8 ∧ P2 0 2 ≤ 5 ∧ PD g2 P2 ∧ (g2 17 = g 17 ∧ g2 18 = g 18 ∧ g2 19 = g 19 ∧ g2 20 = g 20) ∧ P2 0 0 = P 0 0 ∧ P2 0 1 = P 0 1 ∧ P2 1 = P 1 ∧ P2 2 = P 2 ∧ P2 3 = P 3 ∧ P2 4 = P 4) ∨ (r = 0 ∧ stuck C e1 t2 P2)))) := by
  refine MU.ofZ (by decide) (Nat.le_of_ble_eq_true rfl) ?_
  intro p e s m args below meth c Q X hw hS hret ls hl
  obtain ⟨hx, hb, hml, hown, hts, hE⟩ := id X
  have hK := hE.1
  have hz0 := hw.1
  have hl : lv_has ls 3 [(0, .ref h), (1, .int (nI e1))] := hl
  refine lv_aload_n hx hb dX11_readTheGoods_0 rfl (lv_at hl 0 rfl) ?_
  refine lv_iconst (v := nI 0) hx hb dX11_readTheGoods_1 (by decide) ?_
  refine va_put (D := D) (ci := 11) (ty := .int) (C := RX11) (T := TX11) (N := 35) hx hb hts inX11 tyX11 tyX11_ok nmX11 hown hK hw.2.1 hw.2.2 hS 0 rfl rfl 16 (by decide) (hts _ wd_690) (fun _ h9 => h9) rfl (by decide +kernel) rfl rfl (Nat.le_of_ble_eq_true rfl) dX11_readTheGoods_2 (fun H locs hP hD hS => ?_)
  have hw : wdH D z (mw ka h a N C (upd (upd f 13 (nI t)) 16 (nI 0)) g ++ R) H := ⟨Nat.le_trans hz0 hS.1, hP, hD⟩
  have hw : wdH D z (mw ka h a N C (upd (upd f 13 (nI t)) 16 (nI (P 0 2))) g ++ R) H := by rw [hp0]; exact hw
  have loop5 : ∀ (fuel5 : Nat) (u : Nat) (g1 : Nat → Nat → Int32) (P1 : NN), 5 - P1 0 2 < fuel5 → (t ≤ u ∧ u ≤ e1) → (P1 0 2 ≤ 5) → (P1 0 6 = 8) → ((g1 17 = g 17 ∧ g1 18 = g 18 ∧ g1 19 = g 19 ∧ g1 20 = g 20) ∧ P1 0 0 = P 0 0 ∧ P1 0 1 = P 0 1 ∧ P1 1 = P 1 ∧ P1 2 = P 2 ∧ P1 3 = P 3 ∧ P1 4 = P 4) → (PD g1 P1) → (prun C (e1 - t) t P = prun C (e1 - u) u P1) → ∀ (H : Heap) (locs : List Loc), wdH D z (mw ka h a N C (upd (upd f 13 (nI u)) 16 (nI (P1 0 2))) g1 ++ R) H → va_S (fun q => z ≤ q) s.heap H locs → ∀ ls : Array Slot, lv_has ls 3 [(0, .ref h), (1, .int (nI e1))] → W p l e (rmz 2 0 0) s m args below meth c H locs 0 0 Q (F0 m 5 ls []) := by
    intro fuel5
    induction fuel5 with
    | zero => intro u g1 P1 hfu; exact absurd hfu (Nat.not_lt_zero _)
    | succ fuel5 ih5 =>
      intro u g1 P1 hfu hu hP0 hPd hkp hPD hrun H locs hw hS ls hl
      refine lv_aload_n hx hb dX11_readTheGoods_5 rfl (lv_at hl 0 rfl) ?_
      refine va_get (D := D) (ci := 11) (v := .int (nI (P1 0 2))) (C := RX11) (T := TX11) (N := 35) hx hb hts inX11 hown hK hw.2.1 0 rfl rfl 16 (by decide) (hts _ wd_690) (fun _ h9 => h9) rfl dX11_readTheGoods_6 ?_
      refine lv_iconst (v := nI 5) hx hb dX11_readTheGoods_9 (by decide) ?_
      refine i_icmp_ge (tgt := 59) hx hb (nT (by omega)) (nT (by decide)) dX11_readTheGoods_10 (by decide) (fun c_1 => ?_) (fun c_1 => ?_)
      · refine lv_aload_n hx hb dX11_readTheGoods_59 rfl (lv_at hl 0 rfl) ?_
        refine va_get (D := D) (ci := 11) (v := .int (nI u)) (C := RX11) (T := TX11) (N := 35) hx hb hts inX11 hown hK hw.2.1 0 rfl rfl 13 (by decide) (hts _ wd_687) (fun _ h9 => h9) rfl dX11_readTheGoods_60 ?_
        refine lv_iload_n hx hb dX11_readTheGoods_63 rfl (lv_at hl 1 rfl) ?_
        refine i_icmp_ne (tgt := 71) hx hb (nT (by omega)) (nT (by omega)) dX11_readTheGoods_64 (by decide) (fun c_2 => ?_) (fun c_2 => ?_)
        · refine lv_iconst (v := nI 0) hx hb dX11_readTheGoods_71 (by decide) ?_
          refine hret _ _ _ _ _ _ _ _ dX11_readTheGoods_72 hS hw (Nat.zero_le _) (Nat.zero_le _) (by decide) ?_
          exact ⟨u, g1, P1, rfl, hu, hrun, Or.inr ⟨rfl, fun h1 => pst8n hPd (by omega), fun h1 => by omega⟩⟩
        · refine lv_iconst (v := nI 1) hx hb dX11_readTheGoods_67 (by decide) ?_
          refine lv_goto (tgt := 72) hx hb dX11_readTheGoods_68 (by decide) ?_
          refine hret _ _ _ _ _ _ _ _ dX11_readTheGoods_72 hS hw (Nat.zero_le _) (Nat.zero_le _) (by decide) ?_
          exact ⟨u, g1, P1, rfl, hu, hrun, Or.inl ⟨rfl, by omega, hPd, hP0, hPD, hkp⟩⟩
      · refine lv_aload_n hx hb dX11_readTheGoods_13 rfl (lv_at hl 0 rfl) ?_
        refine va_get (D := D) (ci := 11) (v := .int (nI u)) (C := RX11) (T := TX11) (N := 35) hx hb hts inX11 hown hK hw.2.1 0 rfl rfl 13 (by decide) (hts _ wd_687) (fun _ h9 => h9) rfl dX11_readTheGoods_14 ?_
        refine lv_iload_n hx hb dX11_readTheGoods_17 rfl (lv_at hl 1 rfl) ?_
        refine i_icmp_ge (tgt := 59) hx hb (nT (by omega)) (nT (by omega)) dX11_readTheGoods_18 (by decide) (fun c_3 => ?_) (fun c_3 => ?_)
        · refine lv_aload_n hx hb dX11_readTheGoods_59 rfl (lv_at hl 0 rfl) ?_
          refine va_get (D := D) (ci := 11) (v := .int (nI u)) (C := RX11) (T := TX11) (N := 35) hx hb hts inX11 hown hK hw.2.1 0 rfl rfl 13 (by decide) (hts _ wd_687) (fun _ h9 => h9) rfl dX11_readTheGoods_60 ?_
          refine lv_iload_n hx hb dX11_readTheGoods_63 rfl (lv_at hl 1 rfl) ?_
          refine i_icmp_ne (tgt := 71) hx hb (nT (by omega)) (nT (by omega)) dX11_readTheGoods_64 (by decide) (fun c_4 => ?_) (fun c_4 => ?_)
          · refine lv_iconst (v := nI 0) hx hb dX11_readTheGoods_71 (by decide) ?_
            refine hret _ _ _ _ _ _ _ _ dX11_readTheGoods_72 hS hw (Nat.zero_le _) (Nat.zero_le _) (by decide) ?_
            exact ⟨u, g1, P1, rfl, hu, hrun, Or.inr ⟨rfl, fun h1 => pst8n hPd (by omega), fun h1 => by omega⟩⟩
          · refine lv_iconst (v := nI 1) hx hb dX11_readTheGoods_67 (by decide) ?_
            refine lv_goto (tgt := 72) hx hb dX11_readTheGoods_68 (by decide) ?_
            refine hret _ _ _ _ _ _ _ _ dX11_readTheGoods_72 hS hw (Nat.zero_le _) (Nat.zero_le _) (by decide) ?_
            exact ⟨u, g1, P1, rfl, hu, hrun, Or.inl ⟨rfl, by omega, hPd, hP0, hPD, hkp⟩⟩
        · refine lv_aload_n hx hb dX11_readTheGoods_21 rfl (lv_at hl 0 rfl) ?_
          refine lv_iload_n hx hb dX11_readTheGoods_22 rfl (lv_at hl 1 rfl) ?_
          refine lv_iconst (v := nI 1) hx hb dX11_readTheGoods_23 (by decide) ?_
          refine mu_i (mu_runV (c_X11_digit l D ka z h a N C (upd f 16 (nI (P1 0 2))) g1 R u e1 1 (by omega) (by omega) (by omega)) X wd_816 wd_813 wd_815 ws_7 wd_8 on_X11_digit ⟨Nat.le_of_ble_eq_true rfl, Nat.le_of_ble_eq_true rfl⟩ (va_recv hK hw.2.1 (ci := 11) (q0 := 0) rfl rfl) (show wdH D z (mw ka h a N C (upd (upd f 16 (nI (P1 0 2))) 13 (nI u)) g1 ++ R) _ from hw) hl.1 rfl (Nat.le_of_ble_eq_true rfl) ⟨Nat.le_of_ble_eq_true rfl, Nat.le_of_ble_eq_true rfl⟩ dX11_readTheGoods_24) hS (fun r_6 u_5 H locs hp_u_5 hw hS => ?_)
          obtain ⟨t_7, rfl, hrt_8⟩ := hp_u_5
          by_cases cd_9 : u < e1 ∧ (48 + ((1 : Nat) : Int) ≤ cz C u ∧ cz C u ≤ 57)
          · rw [if_pos cd_9] at hrt_8
            obtain ⟨q1, q2⟩ := Prod.mk.inj hrt_8
            subst q1
            subst t_7
            obtain ⟨v_10, hv_10⟩ : ∃ v : Nat, v = (cz C u - 48).toNat := ⟨_, rfl⟩
            rw [← hv_10]
            have hbv_10 : v_10 ≤ 9 ∧ cz C u = (v_10 : Int) + 48 := by omega
            have hw : wdH D z (mw ka h a N C (upd (upd f 13 (nI (u + 1))) 16 (nI (P1 0 2))) g1 ++ R) H := hw
            refine lv_istore_n (lv' := [(2, .int (nI v_10)), (0, .ref h), (1, .int (nI e1))]) hx hb dX11_readTheGoods_27 rfl hl (by decide) rfl (fun ls hl => ?_)
            refine lv_iload_n hx hb dX11_readTheGoods_28 rfl (lv_at hl 0 rfl) ?_
            refine lv_bipush (v := (-9)) hx hb dX11_readTheGoods_29 (by decide) ?_
            refine i_icmp_ne (tgt := 36) hx hb (nT (by omega)) ng9 dX11_readTheGoods_31 (by decide) (fun c_11 => ?_) (fun c_11 => by omega)
            refine lv_aload_n hx hb dX11_readTheGoods_36 rfl (lv_at hl 1 rfl) ?_
            refine va_get (D := D) (ci := 11) (v := .ref (a 21)) (C := RX11) (T := TX11) (N := 35) hx hb hts inX11 hown hK hw.2.1 0 rfl rfl 21 (by decide) (hts _ wd_695) (fun _ h9 => h9) rfl dX11_readTheGoods_37 ?_
            refine lv_aload_n hx hb dX11_readTheGoods_40 rfl (lv_at hl 1 rfl) ?_
            refine va_get (D := D) (ci := 11) (v := .int (nI (P1 0 2))) (C := RX11) (T := TX11) (N := 35) hx hb hts inX11 hown hK hw.2.1 0 rfl rfl 16 (by decide) (hts _ wd_690) (fun _ h9 => h9) rfl dX11_readTheGoods_41 ?_
            refine lv_iload_n hx hb dX11_readTheGoods_44 rfl (lv_at hl 0 rfl) ?_
            refine r_iast hx hb hK hw.2.1 hw.2.2 hS 13 0 rfl rfl (k := P1 0 2) (by omega) (by decide) dX11_readTheGoods_45 (fun H locs hP hD hS => ?_)
            have hw : wdH D z (mw ka h a N C (upd (upd f 13 (nI (u + 1))) 16 (nI (P1 0 2))) (va_up g1 21 (upd (g1 21) (P1 0 2) (nI v_10))) ++ R) H := ⟨Nat.le_trans hz0 hS.1, hP, hD⟩
            refine lv_aload_n hx hb dX11_readTheGoods_46 rfl (lv_at hl 1 rfl) ?_
            refine lv_dup hx hb dX11_readTheGoods_47 rfl ?_
            refine va_get (D := D) (ci := 11) (v := .int (nI (P1 0 2))) (C := RX11) (T := TX11) (N := 35) hx hb hts inX11 hown hK hw.2.1 0 rfl rfl 16 (by decide) (hts _ wd_690) (fun _ h9 => h9) rfl dX11_readTheGoods_48 ?_
            refine lv_iconst (v := nI 1) hx hb dX11_readTheGoods_51 (by decide) ?_
            refine n_iadd hx hb dX11_readTheGoods_52 ?_
            refine va_put (D := D) (ci := 11) (ty := .int) (C := RX11) (T := TX11) (N := 35) hx hb hts inX11 tyX11 tyX11_ok nmX11 hown hK hw.2.1 hw.2.2 hS 0 rfl rfl 16 (by decide) (hts _ wd_690) (fun _ h9 => h9) rfl (by decide +kernel) rfl rfl (Nat.le_of_ble_eq_true rfl) dX11_readTheGoods_53 (fun H locs hP hD hS => ?_)
            have hw : wdH D z (mw ka h a N C (upd (upd f 13 (nI (u + 1))) 16 (nI ((P1 0 2) + 1))) (va_up g1 21 (upd (g1 21) (P1 0 2) (nI v_10))) ++ R) H := ⟨Nat.le_trans hz0 hS.1, hP, hD⟩
            refine lv_goto (tgt := 5) hx hb dX11_readTheGoods_56 (by decide) ?_
            exact ih5 (u + 1) (va_up g1 21 (upd (g1 21) (P1 0 2) (nI v_10))) (up (up P1 5 (P1 0 2) v_10) 0 2 (P1 0 2 + 1)) (by show 5 - (P1 0 2 + 1) < fuel5; omega) (by omega) (by show P1 0 2 + 1 ≤ 5; omega) hPd hkp (fun j hj => ⟨upd_in (v := v_10) rfl hj (fun q => (hPD j q).1), upN_in (v := v_10) (by omega) hj (fun q => (hPD j q).2)⟩) (by rw [hrun]; refine prun_go (by omega) ?_; rw [pst8 hPd (by omega), ← hv_10]) _ _ hw hS ls (lv_sub hl [1, 2] rfl)
          · rw [if_neg cd_9] at hrt_8
            obtain ⟨q1, q2⟩ := Prod.mk.inj hrt_8
            subst q1
            subst t_7
            have hw : wdH D z (mw ka h a N C (upd (upd f 13 (nI u)) 16 (nI (P1 0 2))) g1 ++ R) H := hw
            refine lv_istore_n (lv' := [(2, .int (-9)), (0, .ref h), (1, .int (nI e1))]) hx hb dX11_readTheGoods_27 rfl hl (by decide) rfl (fun ls hl => ?_)
            refine lv_iload_n hx hb dX11_readTheGoods_28 rfl (lv_at hl 0 rfl) ?_
            refine lv_bipush (v := (-9)) hx hb dX11_readTheGoods_29 (by decide) ?_
            refine i_icmp_ne (tgt := 36) hx hb ng9 ng9 dX11_readTheGoods_31 (by decide) (fun c_12 => absurd rfl c_12) (fun c_12 => ?_)
            refine lv_iconst (v := nI 0) hx hb dX11_readTheGoods_34 (by decide) ?_
            refine hret _ _ _ _ _ _ _ _ dX11_readTheGoods_35 hS hw (Nat.zero_le _) (Nat.zero_le _) (by decide) ?_
            exact ⟨u, g1, P1, rfl, hu, hrun, Or.inr ⟨rfl, fun h1 => pst8n hPd (by omega), fun h1 => by omega⟩⟩
  exact loop5 _ t g P (Nat.lt_succ_self _) (by omega) (by omega) hp6 ⟨⟨rfl, rfl, rfl, rfl⟩, rfl, rfl, rfl, rfl, rfl, rfl⟩ (fun j hj => by omega) rfl _ _ hw hS ls (lv_sub hl [0, 1] rfl)
set_option maxRecDepth 100000 in
set_option maxHeartbeats 4000000 in
theorem c_X11_takeVault (l : Launch) (D : va_G) (ka : Nat → ClassId) (z : Nat) (h : Nat) (a : Nat → Nat) (N : Nat → Nat → Nat) (C : Nat → Nat → Int32) (f : Nat → Int32) (g : Nat → Nat → Int32) (R : va_W) (P : NN) (h0 : P 0 0 ≤ 6) (h1 : P 0 1 ≤ 5) (h2 : P 0 2 ≤ 5) (hPG : PG g P) (hPT : PT g P) (hPD : PD g P) : MU l D ka z yX11_takeVault cX11_takeVault 2 none 0 0 0 [.ref h] (mw ka h a N C (upd (upd (upd f 14 (nI (P 0 0))) 15 (nI (P 0 1))) 16 (nI (P 0 2))) g ++ R) (Qv D z (fun w => ∃ f2, w = mw ka h a (nvt N P) C f2 g ++ R)) := by
  refine MU.ofV (by decide) (Nat.le_of_ble_eq_true rfl) ?_
  intro p e s m args below meth c Q X hin hw hS hret ls hl
  obtain ⟨hx, hb, hml, hown, hts, hE⟩ := id X
  have hK := hE.1
  have hz0 := hw.1
  have hl : lv_has ls 2 [(0, .ref h)] := hl
  refine lv_aload_n hx hb dX11_takeVault_0 rfl (lv_at hl 0 rfl) ?_
  refine lv_aload_n hx hb dX11_takeVault_1 rfl (lv_at hl 0 rfl) ?_
  refine va_get (D := D) (ci := 11) (v := .int (nI (P 0 0))) (C := RX11) (T := TX11) (N := 35) hx hb hts inX11 hown hK hw.2.1 0 rfl rfl 14 (by decide) (hts _ wd_688) (fun _ h9 => h9) rfl dX11_takeVault_2 ?_
  refine va_put (D := D) (ci := 11) (ty := .int) (C := RX11) (T := TX11) (N := 35) hx hb hts inX11 tyX11 tyX11_ok nmX11 hown hK hw.2.1 hw.2.2 hS 0 rfl rfl 5 (by decide) (hts _ wd_679) (fun _ h9 => h9) rfl (by decide +kernel) rfl rfl (Nat.le_of_ble_eq_true rfl) dX11_takeVault_5 (fun H locs hP hD hS => ?_)
  have hw : wdH D z (mw ka h a (up N 0 0 (P 0 0)) C (upd (upd (upd f 14 (nI (P 0 0))) 15 (nI (P 0 1))) 16 (nI (P 0 2))) g ++ R) H := ⟨Nat.le_trans hz0 hS.1, hP, hD⟩
  refine lv_iconst (v := nI 0) hx hb dX11_takeVault_8 (by decide) ?_
  refine lv_istore_n (lv' := [(1, .int (nI 0)), (0, .ref h)]) hx hb dX11_takeVault_9 rfl hl (by decide) rfl (fun ls hl => ?_)
  rw [← fl_0 (up N 0 0 (P 0 0)) P 1] at hw
  have loop10 : ∀ (fuel10 : Nat) (b : Nat), P 0 0 - b < fuel10 → (b ≤ P 0 0) → ∀ (H : Heap) (locs : List Loc), wdH D z (mw ka h a (fl (up N 0 0 (P 0 0)) P 1 b) C (upd (upd (upd f 14 (nI (P 0 0))) 15 (nI (P 0 1))) 16 (nI (P 0 2))) g ++ R) H → va_S (fun q => z ≤ q) s.heap H locs → ∀ ls : Array Slot, lv_has ls 2 [(0, .ref h), (1, .int (nI b))] → W p l e (rmz 0 0 0) s m args below meth c H locs 0 0 Q (F0 m 10 ls []) := by
    intro fuel10
    induction fuel10 with
    | zero => intro b hfu; exact absurd hfu (Nat.not_lt_zero _)
    | succ fuel10 ih10 =>
      intro b hfu hi1 H locs hw hS ls hl
      refine lv_iload_n hx hb dX11_takeVault_10 rfl (lv_at hl 1 rfl) ?_
      refine lv_aload_n hx hb dX11_takeVault_11 rfl (lv_at hl 0 rfl) ?_
      refine va_get (D := D) (ci := 11) (v := .int (nI (P 0 0))) (C := RX11) (T := TX11) (N := 35) hx hb hts inX11 hown hK hw.2.1 0 rfl rfl 5 (by decide) (hts _ wd_679) (fun _ h9 => h9) rfl dX11_takeVault_12 ?_
      refine i_icmp_ge (tgt := 36) hx hb (nT (by omega)) (nT (by omega)) dX11_takeVault_15 (by decide) (fun c_1 => ?_) (fun c_1 => ?_)
      · rw [show b = P 0 0 by omega] at hw
        refine lv_aload_n hx hb dX11_takeVault_36 rfl (lv_at hl 0 rfl) ?_
        refine lv_aload_n hx hb dX11_takeVault_37 rfl (lv_at hl 0 rfl) ?_
        refine va_get (D := D) (ci := 11) (v := .int (nI (P 0 1))) (C := RX11) (T := TX11) (N := 35) hx hb hts inX11 hown hK hw.2.1 0 rfl rfl 15 (by decide) (hts _ wd_689) (fun _ h9 => h9) rfl dX11_takeVault_38 ?_
        refine va_put (D := D) (ci := 11) (ty := .int) (C := RX11) (T := TX11) (N := 35) hx hb hts inX11 tyX11 tyX11_ok nmX11 hown hK hw.2.1 hw.2.2 hS 0 rfl rfl 6 (by decide) (hts _ wd_680) (fun _ h9 => h9) rfl (by decide +kernel) rfl rfl (Nat.le_of_ble_eq_true rfl) dX11_takeVault_41 (fun H locs hP hD hS => ?_)
        have hw : wdH D z (mw ka h a (up (fl (up N 0 0 (P 0 0)) P 1 (P 0 0)) 0 1 (P 0 1)) C (upd (upd (upd f 14 (nI (P 0 0))) 15 (nI (P 0 1))) 16 (nI (P 0 2))) g ++ R) H := ⟨Nat.le_trans hz0 hS.1, hP, hD⟩
        refine lv_iconst (v := nI 0) hx hb dX11_takeVault_44 (by decide) ?_
        refine lv_istore_n (lv' := [(1, .int (nI 0)), (0, .ref h)]) hx hb dX11_takeVault_45 rfl hl (by decide) rfl (fun ls hl => ?_)
        rw [← fl3_0 (up (fl (up N 0 0 (P 0 0)) P 1 (P 0 0)) 0 1 (P 0 1)) P] at hw
        have loop46 : ∀ (fuel46 : Nat) (b : Nat), P 0 1 - b < fuel46 → (b ≤ P 0 1) → ∀ (H : Heap) (locs : List Loc), wdH D z (mw ka h a (fl3 (up (fl (up N 0 0 (P 0 0)) P 1 (P 0 0)) 0 1 (P 0 1)) P b) C (upd (upd (upd f 14 (nI (P 0 0))) 15 (nI (P 0 1))) 16 (nI (P 0 2))) g ++ R) H → va_S (fun q => z ≤ q) s.heap H locs → ∀ ls : Array Slot, lv_has ls 2 [(0, .ref h), (1, .int (nI b))] → W p l e (rmz 0 0 0) s m args below meth c H locs 0 0 Q (F0 m 46 ls []) := by
          intro fuel46
          induction fuel46 with
          | zero => intro b hfu; exact absurd hfu (Nat.not_lt_zero _)
          | succ fuel46 ih46 =>
            intro b hfu hi1 H locs hw hS ls hl
            refine lv_iload_n hx hb dX11_takeVault_46 rfl (lv_at hl 1 rfl) ?_
            refine lv_aload_n hx hb dX11_takeVault_47 rfl (lv_at hl 0 rfl) ?_
            refine va_get (D := D) (ci := 11) (v := .int (nI (P 0 1))) (C := RX11) (T := TX11) (N := 35) hx hb hts inX11 hown hK hw.2.1 0 rfl rfl 6 (by decide) (hts _ wd_680) (fun _ h9 => h9) rfl dX11_takeVault_48 ?_
            refine i_icmp_ge (tgt := 96) hx hb (nT (by omega)) (nT (by omega)) dX11_takeVault_51 (by decide) (fun c_2 => ?_) (fun c_2 => ?_)
            · rw [show b = P 0 1 by omega] at hw
              refine lv_aload_n hx hb dX11_takeVault_96 rfl (lv_at hl 0 rfl) ?_
              refine lv_aload_n hx hb dX11_takeVault_97 rfl (lv_at hl 0 rfl) ?_
              refine va_get (D := D) (ci := 11) (v := .int (nI (P 0 2))) (C := RX11) (T := TX11) (N := 35) hx hb hts inX11 hown hK hw.2.1 0 rfl rfl 16 (by decide) (hts _ wd_690) (fun _ h9 => h9) rfl dX11_takeVault_98 ?_
              refine va_put (D := D) (ci := 11) (ty := .int) (C := RX11) (T := TX11) (N := 35) hx hb hts inX11 tyX11 tyX11_ok nmX11 hown hK hw.2.1 hw.2.2 hS 0 rfl rfl 7 (by decide) (hts _ wd_681) (fun _ h9 => h9) rfl (by decide +kernel) rfl rfl (Nat.le_of_ble_eq_true rfl) dX11_takeVault_101 (fun H locs hP hD hS => ?_)
              have hw : wdH D z (mw ka h a (up (fl3 (up (fl (up N 0 0 (P 0 0)) P 1 (P 0 0)) 0 1 (P 0 1)) P (P 0 1)) 0 2 (P 0 2)) C (upd (upd (upd f 14 (nI (P 0 0))) 15 (nI (P 0 1))) 16 (nI (P 0 2))) g ++ R) H := ⟨Nat.le_trans hz0 hS.1, hP, hD⟩
              refine lv_iconst (v := nI 0) hx hb dX11_takeVault_104 (by decide) ?_
              refine lv_istore_n (lv' := [(1, .int (nI 0)), (0, .ref h)]) hx hb dX11_takeVault_105 rfl hl (by decide) rfl (fun ls hl => ?_)
              rw [← fl_0 (up (fl3 (up (fl (up N 0 0 (P 0 0)) P 1 (P 0 0)) 0 1 (P 0 1)) P (P 0 1)) 0 2 (P 0 2)) P 5] at hw
              have loop106 : ∀ (fuel106 : Nat) (b : Nat), P 0 2 - b < fuel106 → (b ≤ P 0 2) → ∀ (H : Heap) (locs : List Loc), wdH D z (mw ka h a (fl (up (fl3 (up (fl (up N 0 0 (P 0 0)) P 1 (P 0 0)) 0 1 (P 0 1)) P (P 0 1)) 0 2 (P 0 2)) P 5 b) C (upd (upd (upd f 14 (nI (P 0 0))) 15 (nI (P 0 1))) 16 (nI (P 0 2))) g ++ R) H → va_S (fun q => z ≤ q) s.heap H locs → ∀ ls : Array Slot, lv_has ls 2 [(0, .ref h), (1, .int (nI b))] → W p l e (rmz 0 0 0) s m args below meth c H locs 0 0 Q (F0 m 106 ls []) := by
                intro fuel106
                induction fuel106 with
                | zero => intro b hfu; exact absurd hfu (Nat.not_lt_zero _)
                | succ fuel106 ih106 =>
                  intro b hfu hi1 H locs hw hS ls hl
                  refine lv_iload_n hx hb dX11_takeVault_106 rfl (lv_at hl 1 rfl) ?_
                  refine lv_aload_n hx hb dX11_takeVault_107 rfl (lv_at hl 0 rfl) ?_
                  refine va_get (D := D) (ci := 11) (v := .int (nI (P 0 2))) (C := RX11) (T := TX11) (N := 35) hx hb hts inX11 hown hK hw.2.1 0 rfl rfl 7 (by decide) (hts _ wd_681) (fun _ h9 => h9) rfl dX11_takeVault_108 ?_
                  refine i_icmp_ge (tgt := 132) hx hb (nT (by omega)) (nT (by omega)) dX11_takeVault_111 (by decide) (fun c_3 => ?_) (fun c_3 => ?_)
                  · rw [show b = P 0 2 by omega] at hw
                    refine lv_aload_n hx hb dX11_takeVault_132 rfl (lv_at hl 0 rfl) ?_
                    refine lv_iconst (v := nI 0) hx hb dX11_takeVault_133 (by decide) ?_
                    refine va_put (D := D) (ci := 11) (ty := .int) (C := RX11) (T := TX11) (N := 35) hx hb hts inX11 tyX11 tyX11_ok nmX11 hown hK hw.2.1 hw.2.2 hS 0 rfl rfl 31 (by decide) (hts _ wd_705) (fun _ h9 => h9) rfl (by decide +kernel) rfl rfl (Nat.le_of_ble_eq_true rfl) dX11_takeVault_134 (fun H locs hP hD hS => ?_)
                    have hw : wdH D z (mw ka h a (up (fl (up (fl3 (up (fl (up N 0 0 (P 0 0)) P 1 (P 0 0)) 0 1 (P 0 1)) P (P 0 1)) 0 2 (P 0 2)) P 5 (P 0 2)) 0 3 0) C (upd (upd (upd f 14 (nI (P 0 0))) 15 (nI (P 0 1))) 16 (nI (P 0 2))) g ++ R) H := ⟨Nat.le_trans hz0 hS.1, hP, hD⟩
                    rw [nvt_eq] at hw
                    exact hret _ _ _ _ _ _ _ dX11_takeVault_137 hS hw (Nat.zero_le _) (Nat.zero_le _) ⟨_, rfl⟩
                  · refine lv_aload_n hx hb dX11_takeVault_114 rfl (lv_at hl 0 rfl) ?_
                    refine va_get (D := D) (ci := 11) (v := .ref (a 12)) (C := RX11) (T := TX11) (N := 35) hx hb hts inX11 hown hK hw.2.1 0 rfl rfl 12 (by decide) (hts _ wd_686) (fun _ h9 => h9) rfl dX11_takeVault_115 ?_
                    refine lv_iload_n hx hb dX11_takeVault_118 rfl (lv_at hl 1 rfl) ?_
                    refine lv_aload_n hx hb dX11_takeVault_119 rfl (lv_at hl 0 rfl) ?_
                    refine va_get (D := D) (ci := 11) (v := .ref (a 21)) (C := RX11) (T := TX11) (N := 35) hx hb hts inX11 hown hK hw.2.1 0 rfl rfl 21 (by decide) (hts _ wd_695) (fun _ h9 => h9) rfl dX11_takeVault_120 ?_
                    refine lv_iload_n hx hb dX11_takeVault_123 rfl (lv_at hl 1 rfl) ?_
                    refine n_iald hx hb hK hw.2.1 13 0 rfl rfl (k := b) (by omega) (by decide) dX11_takeVault_124 ?_
                    refine W.eq (g2 := F0 m 125 ls [.int (g 21 b), .int (nI b), .ref (a 12)]) rfl ?_
                    rw [(hPD b (by omega)).1]
                    refine n_iast hx hb hK hw.2.1 hw.2.2 hS 8 0 (φ := nI) (u := (fl (up (fl3 (up (fl (up N 0 0 (P 0 0)) P 1 (P 0 0)) 0 1 (P 0 1)) P (P 0 1)) 0 2 (P 0 2)) P 5 b) 5) (v := P 5 b) rfl rfl (k := b) rfl (by omega) (by decide) dX11_takeVault_125 (fun H locs hP hD hS => ?_)
                    have hw : wdH D z (mw ka h a (up (fl (up (fl3 (up (fl (up N 0 0 (P 0 0)) P 1 (P 0 0)) 0 1 (P 0 1)) P (P 0 1)) 0 2 (P 0 2)) P 5 b) 5 b (P 5 b)) C (upd (upd (upd f 14 (nI (P 0 0))) 15 (nI (P 0 1))) 16 (nI (P 0 2))) g ++ R) H := ⟨Nat.le_trans hz0 hS.1, hP, hD⟩
                    rw [fl_s] at hw
                    refine n_iinc (lv' := [(1, .int (nI (b + 1))), (0, .ref h)]) (k := 1) (d := 1) hx hb dX11_takeVault_126 hl rfl rfl (by decide) rfl (fun ls hl => ?_)
                    refine lv_goto (tgt := 106) hx hb dX11_takeVault_129 (by decide) ?_
                    exact ih106 (b + 1) (by omega) (by omega) _ _ hw hS ls (lv_sub hl [1, 0] rfl)
              exact loop106 _ 0 (Nat.lt_succ_self _) (by omega) _ _ hw hS ls (lv_sub hl [1, 0] rfl)
            · refine lv_aload_n hx hb dX11_takeVault_54 rfl (lv_at hl 0 rfl) ?_
              refine va_get (D := D) (ci := 11) (v := .ref (a 9)) (C := RX11) (T := TX11) (N := 35) hx hb hts inX11 hown hK hw.2.1 0 rfl rfl 9 (by decide) (hts _ wd_683) (fun _ h9 => h9) rfl dX11_takeVault_55 ?_
              refine lv_iload_n hx hb dX11_takeVault_58 rfl (lv_at hl 1 rfl) ?_
              refine lv_aload_n hx hb dX11_takeVault_59 rfl (lv_at hl 0 rfl) ?_
              refine va_get (D := D) (ci := 11) (v := .ref (a 18)) (C := RX11) (T := TX11) (N := 35) hx hb hts inX11 hown hK hw.2.1 0 rfl rfl 18 (by decide) (hts _ wd_692) (fun _ h9 => h9) rfl dX11_takeVault_60 ?_
              refine lv_iload_n hx hb dX11_takeVault_63 rfl (lv_at hl 1 rfl) ?_
              refine n_iald hx hb hK hw.2.1 10 0 rfl rfl (k := b) (by omega) (by decide) dX11_takeVault_64 ?_
              refine W.eq (g2 := F0 m 65 ls [.int (g 18 b), .int (nI b), .ref (a 9)]) rfl ?_
              rw [(hPT b (by omega)).1]
              refine n_iast hx hb hK hw.2.1 hw.2.2 hS 5 0 (φ := nI) (u := (fl3 (up (fl (up N 0 0 (P 0 0)) P 1 (P 0 0)) 0 1 (P 0 1)) P b) 2) (v := P 2 b) rfl rfl (k := b) rfl (by omega) (by decide) dX11_takeVault_65 (fun H locs hP hD hS => ?_)
              have hw : wdH D z (mw ka h a (up (fl3 (up (fl (up N 0 0 (P 0 0)) P 1 (P 0 0)) 0 1 (P 0 1)) P b) 2 b (P 2 b)) C (upd (upd (upd f 14 (nI (P 0 0))) 15 (nI (P 0 1))) 16 (nI (P 0 2))) g ++ R) H := ⟨Nat.le_trans hz0 hS.1, hP, hD⟩
              refine lv_aload_n hx hb dX11_takeVault_66 rfl (lv_at hl 0 rfl) ?_
              refine va_get (D := D) (ci := 11) (v := .ref (a 10)) (C := RX11) (T := TX11) (N := 35) hx hb hts inX11 hown hK hw.2.1 0 rfl rfl 10 (by decide) (hts _ wd_684) (fun _ h9 => h9) rfl dX11_takeVault_67 ?_
              refine lv_iload_n hx hb dX11_takeVault_70 rfl (lv_at hl 1 rfl) ?_
              refine lv_aload_n hx hb dX11_takeVault_71 rfl (lv_at hl 0 rfl) ?_
              refine va_get (D := D) (ci := 11) (v := .ref (a 19)) (C := RX11) (T := TX11) (N := 35) hx hb hts inX11 hown hK hw.2.1 0 rfl rfl 19 (by decide) (hts _ wd_693) (fun _ h9 => h9) rfl dX11_takeVault_72 ?_
              refine lv_iload_n hx hb dX11_takeVault_75 rfl (lv_at hl 1 rfl) ?_
              refine n_iald hx hb hK hw.2.1 11 0 rfl rfl (k := b) (by omega) (by decide) dX11_takeVault_76 ?_
              refine W.eq (g2 := F0 m 77 ls [.int (g 19 b), .int (nI b), .ref (a 10)]) rfl ?_
              rw [(hPT b (by omega)).2.1]
              refine n_iast hx hb hK hw.2.1 hw.2.2 hS 6 0 (φ := nI) (u := (up (fl3 (up (fl (up N 0 0 (P 0 0)) P 1 (P 0 0)) 0 1 (P 0 1)) P b) 2 b (P 2 b)) 3) (v := P 3 b) rfl rfl (k := b) rfl (by omega) (by decide) dX11_takeVault_77 (fun H locs hP hD hS => ?_)
              have hw : wdH D z (mw ka h a (up (up (fl3 (up (fl (up N 0 0 (P 0 0)) P 1 (P 0 0)) 0 1 (P 0 1)) P b) 2 b (P 2 b)) 3 b (P 3 b)) C (upd (upd (upd f 14 (nI (P 0 0))) 15 (nI (P 0 1))) 16 (nI (P 0 2))) g ++ R) H := ⟨Nat.le_trans hz0 hS.1, hP, hD⟩
              refine lv_aload_n hx hb dX11_takeVault_78 rfl (lv_at hl 0 rfl) ?_
              refine va_get (D := D) (ci := 11) (v := .ref (a 11)) (C := RX11) (T := TX11) (N := 35) hx hb hts inX11 hown hK hw.2.1 0 rfl rfl 11 (by decide) (hts _ wd_685) (fun _ h9 => h9) rfl dX11_takeVault_79 ?_
              refine lv_iload_n hx hb dX11_takeVault_82 rfl (lv_at hl 1 rfl) ?_
              refine lv_aload_n hx hb dX11_takeVault_83 rfl (lv_at hl 0 rfl) ?_
              refine va_get (D := D) (ci := 11) (v := .ref (a 20)) (C := RX11) (T := TX11) (N := 35) hx hb hts inX11 hown hK hw.2.1 0 rfl rfl 20 (by decide) (hts _ wd_694) (fun _ h9 => h9) rfl dX11_takeVault_84 ?_
              refine lv_iload_n hx hb dX11_takeVault_87 rfl (lv_at hl 1 rfl) ?_
              refine n_iald hx hb hK hw.2.1 12 0 rfl rfl (k := b) (by omega) (by decide) dX11_takeVault_88 ?_
              refine W.eq (g2 := F0 m 89 ls [.int (g 20 b), .int (nI b), .ref (a 11)]) rfl ?_
              rw [(hPT b (by omega)).2.2.1]
              refine n_iast hx hb hK hw.2.1 hw.2.2 hS 7 0 (φ := nI) (u := (up (up (fl3 (up (fl (up N 0 0 (P 0 0)) P 1 (P 0 0)) 0 1 (P 0 1)) P b) 2 b (P 2 b)) 3 b (P 3 b)) 4) (v := P 4 b) rfl rfl (k := b) rfl (by omega) (by decide) dX11_takeVault_89 (fun H locs hP hD hS => ?_)
              have hw : wdH D z (mw ka h a (up (up (up (fl3 (up (fl (up N 0 0 (P 0 0)) P 1 (P 0 0)) 0 1 (P 0 1)) P b) 2 b (P 2 b)) 3 b (P 3 b)) 4 b (P 4 b)) C (upd (upd (upd f 14 (nI (P 0 0))) 15 (nI (P 0 1))) 16 (nI (P 0 2))) g ++ R) H := ⟨Nat.le_trans hz0 hS.1, hP, hD⟩
              rw [fl3_s] at hw
              refine n_iinc (lv' := [(1, .int (nI (b + 1))), (0, .ref h)]) (k := 1) (d := 1) hx hb dX11_takeVault_90 hl rfl rfl (by decide) rfl (fun ls hl => ?_)
              refine lv_goto (tgt := 46) hx hb dX11_takeVault_93 (by decide) ?_
              exact ih46 (b + 1) (by omega) (by omega) _ _ hw hS ls (lv_sub hl [1, 0] rfl)
        exact loop46 _ 0 (Nat.lt_succ_self _) (by omega) _ _ hw hS ls (lv_sub hl [1, 0] rfl)
      · refine lv_aload_n hx hb dX11_takeVault_18 rfl (lv_at hl 0 rfl) ?_
        refine va_get (D := D) (ci := 11) (v := .ref (a 8)) (C := RX11) (T := TX11) (N := 35) hx hb hts inX11 hown hK hw.2.1 0 rfl rfl 8 (by decide) (hts _ wd_682) (fun _ h9 => h9) rfl dX11_takeVault_19 ?_
        refine lv_iload_n hx hb dX11_takeVault_22 rfl (lv_at hl 1 rfl) ?_
        refine lv_aload_n hx hb dX11_takeVault_23 rfl (lv_at hl 0 rfl) ?_
        refine va_get (D := D) (ci := 11) (v := .ref (a 17)) (C := RX11) (T := TX11) (N := 35) hx hb hts inX11 hown hK hw.2.1 0 rfl rfl 17 (by decide) (hts _ wd_691) (fun _ h9 => h9) rfl dX11_takeVault_24 ?_
        refine lv_iload_n hx hb dX11_takeVault_27 rfl (lv_at hl 1 rfl) ?_
        refine n_iald hx hb hK hw.2.1 9 0 rfl rfl (k := b) (by omega) (by decide) dX11_takeVault_28 ?_
        refine W.eq (g2 := F0 m 29 ls [.int (g 17 b), .int (nI b), .ref (a 8)]) rfl ?_
        rw [(hPG b (by omega)).1]
        refine n_iast hx hb hK hw.2.1 hw.2.2 hS 4 0 (φ := nI) (u := (fl (up N 0 0 (P 0 0)) P 1 b) 1) (v := P 1 b) rfl rfl (k := b) rfl (by omega) (by decide) dX11_takeVault_29 (fun H locs hP hD hS => ?_)
        have hw : wdH D z (mw ka h a (up (fl (up N 0 0 (P 0 0)) P 1 b) 1 b (P 1 b)) C (upd (upd (upd f 14 (nI (P 0 0))) 15 (nI (P 0 1))) 16 (nI (P 0 2))) g ++ R) H := ⟨Nat.le_trans hz0 hS.1, hP, hD⟩
        rw [fl_s] at hw
        refine n_iinc (lv' := [(1, .int (nI (b + 1))), (0, .ref h)]) (k := 1) (d := 1) hx hb dX11_takeVault_30 hl rfl rfl (by decide) rfl (fun ls hl => ?_)
        refine lv_goto (tgt := 10) hx hb dX11_takeVault_33 (by decide) ?_
        exact ih10 (b + 1) (by omega) (by omega) _ _ hw hS ls (lv_sub hl [1, 0] rfl)
  exact loop10 _ 0 (Nat.lt_succ_self _) (by omega) _ _ hw hS ls (lv_sub hl [1, 0] rfl)
