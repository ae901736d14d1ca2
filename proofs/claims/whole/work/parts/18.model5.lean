set_option maxRecDepth 100000 in
set_option maxHeartbeats 4000000 in
theorem c_X11_copy (l : Launch) (D : va_G) (ka : Nat → ClassId) (z : Nat) (h : Nat) (a : Nat → Nat) (N : Nat → Nat → Nat) (C : Nat → Nat → Int32) (f : Nat → Int32) (g : Nat → Nat → Int32) (R : va_W) (k i o j n : Int32) (K I O J n2 : Int) (hk : k.toInt = K) (hi : i.toInt = I) (ho : o.toInt = O) (hj : j.toInt = J) (hn : n.toInt = n2) (hN : WF N) : MU l D ka z yX11_copy cX11_copy 10 (some .int) 2 0 0 [.ref h, .int k, .int i, .int o, .int j, .int n] (mw ka h a N C f g ++ R) (Qi D z (fun r w => ∃ f' g' N' C', w = mw ka h a N' C' f' g' ++ R ∧ (r, N', C') = sp_copy N C K I O J n2)) := by
  refine MU.ofI (by decide) (Nat.le_of_ble_eq_true rfl) ?_
  intro p e s m args below meth c Q X hw hS hret ls hl
  obtain ⟨hx, hb, hml, hown, hts, hE⟩ := id X
  have hK := hE.1
  have hz0 := hw.1
  have hl : lv_has ls 10 [(0, .ref h), (1, .int k), (2, .int i), (3, .int o), (4, .int j), (5, .int n)] := hl
  have hN1 := hN.1
  refine lv_aload_n hx hb dX11_copy_0 rfl (lv_at hl 0 rfl) ?_
  refine lv_iconst (v := nI 0) hx hb dX11_copy_1 (by decide) ?_
  refine va_put (D := D) (ci := 11) (ty := .int) (C := RX11) (T := TX11) (N := 35) hx hb hts inX11 tyX11 tyX11_ok nmX11 hown hK hw.2.1 hw.2.2 hS 0 rfl rfl 0 (by decide) (hts _ wd_674) (fun _ h9 => h9) rfl (by decide +kernel) rfl rfl (Nat.le_of_ble_eq_true rfl) dX11_copy_2 (fun H locs hP hD hS => ?_)
  have hw : wdH D z (mw ka h a (up N 0 4 0) C f g ++ R) H := ⟨Nat.le_trans hz0 hS.1, hP, hD⟩
  refine lv_iload_n hx hb dX11_copy_5 rfl (lv_at hl 1 rfl) ?_
  refine vp_callSi (ro_runS (c_X11_isSheet l D ka k _ hk) X wd_786 wd_784 wd_785 wd_8 on_X11_isSheet ⟨Nat.le_of_ble_eq_true rfl, Nat.le_of_ble_eq_true rfl⟩ trivial hl.1 rfl (Nat.le_of_ble_eq_true rfl) ⟨(Nat.zero_le _), (Nat.zero_le _)⟩ dX11_copy_6) (fun r_1 hr_1 => ?_)
  subst hr_1
  refine b_if_eq (tgt := 19) hx hb dX11_copy_9 (by decide) (fun c_2 => ?_) (fun c_2 => ?_)
  · refine lv_iconst (v := (-1)) hx hb dX11_copy_19 (by decide) ?_
    refine hret _ _ _ _ _ _ _ _ dX11_copy_20 hS hw (Nat.zero_le _) (Nat.zero_le _) ?_
    refine ⟨f, g, (up N 0 4 0), C, rfl, ?_⟩
    unfold sp_copy
    try simp only [Int.toNat_natCast]
    (repeat' split) <;> first | rfl | omega
  · refine lv_iload_n hx hb dX11_copy_12 rfl (lv_at hl 3 rfl) ?_
    refine vp_callSi (ro_runS (c_X11_isSheet l D ka o _ ho) X wd_786 wd_784 wd_785 wd_8 on_X11_isSheet ⟨Nat.le_of_ble_eq_true rfl, Nat.le_of_ble_eq_true rfl⟩ trivial hl.1 rfl (Nat.le_of_ble_eq_true rfl) ⟨(Nat.zero_le _), (Nat.zero_le _)⟩ dX11_copy_13) (fun r_3 hr_3 => ?_)
    subst hr_3
    refine b_if_ne (tgt := 21) hx hb dX11_copy_16 (by decide) (fun c_4 => ?_) (fun c_4 => ?_)
    · obtain ⟨k1, hlt_k1, rfl, rfl⟩ := nat_ofK (n := 4) hk (by omega) (by omega)
      obtain ⟨o1, hlt_o1, rfl, rfl⟩ := nat_ofK (n := 4) ho (by omega) (by omega)
      have hl10 := hN.2.2.2.2.2.2.2.2.2.2 k1
      have hl11 := hN.2.2.2.2.2.2.2.2.2.2 o1
      refine lv_aload_n hx hb dX11_copy_21 rfl (lv_at hl 0 rfl) ?_
      refine va_get (D := D) (ci := 11) (v := .ref (a 2)) (C := RX11) (T := TX11) (N := 35) hx hb hts inX11 hown hK hw.2.1 0 rfl rfl 2 (by decide) (hts _ wd_676) (fun _ h9 => h9) rfl dX11_copy_22 ?_
      refine lv_iload_n hx hb dX11_copy_25 rfl (lv_at hl 1 rfl) ?_
      refine n_iald hx hb hK hw.2.1 1 0 rfl rfl (k := k1) (by omega) (by decide) dX11_copy_26 ?_
      have hv_5 : N 9 k1 ≤ 3 := hN.2.2.2.2.2.2.2.2.2.1 k1
      refine W.eq (g2 := F0 m 27 ls [.int (srt (N 9 k1))]) rfl ?_
      refine lv_bipush (v := (-9)) hx hb dX11_copy_27 (by decide) ?_
      refine i_icmp_eq (tgt := 43) hx hb (srt_T (by omega)) ng9 dX11_copy_29 (by decide) (fun c_6 => ?_) (fun c_6 => ?_)
      · refine lv_aload_n hx hb dX11_copy_43 rfl (lv_at hl 0 rfl) ?_
        refine lv_iconst (v := nI 1) hx hb dX11_copy_44 (by decide) ?_
        refine mu_i (mu_runV (c_X11_fails l D ka z h a (up N 0 4 0) C f g R 1 (by omega) (WF.up04 (v := 0) hN (by omega))) X wd_800 wd_797 wd_799 ws_3 wd_8 on_X11_fails ⟨Nat.le_of_ble_eq_true rfl, Nat.le_of_ble_eq_true rfl⟩ (va_recv hK hw.2.1 (ci := 11) (q0 := 0) rfl rfl) hw hl.1 rfl (Nat.le_of_ble_eq_true rfl) ⟨Nat.le_of_ble_eq_true rfl, Nat.le_of_ble_eq_true rfl⟩ dX11_copy_45) hS (fun r_8 u_7 H locs hp_u_7 hw hS => ?_)
        obtain ⟨rfl, rfl⟩ := hp_u_7
        refine hret _ _ _ _ _ _ _ _ dX11_copy_48 hS hw (Nat.zero_le _) (Nat.zero_le _) ?_
        refine ⟨f, g, (up (up N 0 4 0) 0 4 1), C, rfl, ?_⟩
        unfold sp_copy
        try simp only [Int.toNat_natCast]
        (repeat' split) <;> first | rfl | omega
      · refine lv_aload_n hx hb dX11_copy_32 rfl (lv_at hl 0 rfl) ?_
        refine va_get (D := D) (ci := 11) (v := .ref (a 2)) (C := RX11) (T := TX11) (N := 35) hx hb hts inX11 hown hK hw.2.1 0 rfl rfl 2 (by decide) (hts _ wd_676) (fun _ h9 => h9) rfl dX11_copy_33 ?_
        refine lv_iload_n hx hb dX11_copy_36 rfl (lv_at hl 3 rfl) ?_
        refine n_iald hx hb hK hw.2.1 1 0 rfl rfl (k := o1) (by omega) (by decide) dX11_copy_37 ?_
        have hv_9 : N 9 o1 ≤ 3 := hN.2.2.2.2.2.2.2.2.2.1 o1
        refine W.eq (g2 := F0 m 38 ls [.int (srt (N 9 o1))]) rfl ?_
        refine lv_bipush (v := (-9)) hx hb dX11_copy_38 (by decide) ?_
        refine i_icmp_ne (tgt := 49) hx hb (srt_T (by omega)) ng9 dX11_copy_40 (by decide) (fun c_10 => ?_) (fun c_10 => ?_)
        · refine lv_aload_n hx hb dX11_copy_49 rfl (lv_at hl 0 rfl) ?_
          refine va_get (D := D) (ci := 11) (v := .ref (a 2)) (C := RX11) (T := TX11) (N := 35) hx hb hts inX11 hown hK hw.2.1 0 rfl rfl 2 (by decide) (hts _ wd_676) (fun _ h9 => h9) rfl dX11_copy_50 ?_
          refine lv_iload_n hx hb dX11_copy_53 rfl (lv_at hl 1 rfl) ?_
          refine n_iald hx hb hK hw.2.1 1 0 rfl rfl (k := k1) (by omega) (by decide) dX11_copy_54 ?_
          have hv_11 : N 9 k1 ≤ 3 := hN.2.2.2.2.2.2.2.2.2.1 k1
          refine W.eq (g2 := F0 m 55 ls [.int (srt (N 9 k1))]) rfl ?_
          refine lv_aload_n hx hb dX11_copy_55 rfl (lv_at hl 0 rfl) ?_
          refine va_get (D := D) (ci := 11) (v := .ref (a 2)) (C := RX11) (T := TX11) (N := 35) hx hb hts inX11 hown hK hw.2.1 0 rfl rfl 2 (by decide) (hts _ wd_676) (fun _ h9 => h9) rfl dX11_copy_56 ?_
          refine lv_iload_n hx hb dX11_copy_59 rfl (lv_at hl 3 rfl) ?_
          refine n_iald hx hb hK hw.2.1 1 0 rfl rfl (k := o1) (by omega) (by decide) dX11_copy_60 ?_
          have hv_12 : N 9 o1 ≤ 3 := hN.2.2.2.2.2.2.2.2.2.1 o1
          refine W.eq (g2 := F0 m 61 ls [.int (srt (N 9 o1)), .int (srt (N 9 k1))]) rfl ?_
          refine i_icmp_eq (tgt := 70) hx hb (srt_T (by omega)) (srt_T (by omega)) dX11_copy_61 (by decide) (fun c_13 => ?_) (fun c_13 => ?_)
          · refine lv_iload_n hx hb dX11_copy_70 rfl (lv_at hl 2 rfl) ?_
            refine i_if_lt (tgt := 109) hx hb hi dX11_copy_71 (by decide) (fun c_14 => ?_) (fun c_14 => ?_)
            · refine lv_iconst (v := nI 0) hx hb dX11_copy_109 (by decide) ?_
              refine lv_istore (lv' := [(6, .int (nI 0)), (0, .ref h), (1, .int (nI k1)), (2, .int i), (3, .int (nI o1)), (4, .int j), (5, .int n)]) hx hb dX11_copy_110 hl (by decide) rfl (fun ls hl => ?_)
              refine lv_iload hx hb dX11_copy_112 (lv_at hl 0 rfl) ?_
              refine i_if_eq (tgt := 144) hx hb (nT (by decide)) dX11_copy_114 (by decide) (fun c_15 => ?_) (fun c_15 => by omega)
              refine lv_aload_n hx hb dX11_copy_144 rfl (lv_at hl 1 rfl) ?_
              refine lv_iconst (v := nI 3) hx hb dX11_copy_145 (by decide) ?_
              refine mu_i (mu_runV (c_X11_fails l D ka z h a (up N 0 4 0) C f g R 3 (by omega) (WF.up04 (v := 0) hN (by omega))) X wd_800 wd_797 wd_799 ws_3 wd_8 on_X11_fails ⟨Nat.le_of_ble_eq_true rfl, Nat.le_of_ble_eq_true rfl⟩ (va_recv hK hw.2.1 (ci := 11) (q0 := 0) rfl rfl) hw hl.1 rfl (Nat.le_of_ble_eq_true rfl) ⟨Nat.le_of_ble_eq_true rfl, Nat.le_of_ble_eq_true rfl⟩ dX11_copy_146) hS (fun r_17 u_16 H locs hp_u_16 hw hS => ?_)
              obtain ⟨rfl, rfl⟩ := hp_u_16
              refine hret _ _ _ _ _ _ _ _ dX11_copy_149 hS hw (Nat.zero_le _) (Nat.zero_le _) ?_
              refine ⟨f, g, (up (up N 0 4 0) 0 4 3), C, rfl, ?_⟩
              unfold sp_copy
              try simp only [Int.toNat_natCast]
              (repeat' split) <;> first | rfl | omega
            · refine lv_iload hx hb dX11_copy_74 (lv_at hl 4 rfl) ?_
              refine i_if_lt (tgt := 109) hx hb hj dX11_copy_76 (by decide) (fun c_18 => ?_) (fun c_18 => ?_)
              · refine lv_iconst (v := nI 0) hx hb dX11_copy_109 (by decide) ?_
                refine lv_istore (lv' := [(6, .int (nI 0)), (0, .ref h), (1, .int (nI k1)), (2, .int i), (3, .int (nI o1)), (4, .int j), (5, .int n)]) hx hb dX11_copy_110 hl (by decide) rfl (fun ls hl => ?_)
                refine lv_iload hx hb dX11_copy_112 (lv_at hl 0 rfl) ?_
                refine i_if_eq (tgt := 144) hx hb (nT (by decide)) dX11_copy_114 (by decide) (fun c_19 => ?_) (fun c_19 => by omega)
                refine lv_aload_n hx hb dX11_copy_144 rfl (lv_at hl 1 rfl) ?_
                refine lv_iconst (v := nI 3) hx hb dX11_copy_145 (by decide) ?_
                refine mu_i (mu_runV (c_X11_fails l D ka z h a (up N 0 4 0) C f g R 3 (by omega) (WF.up04 (v := 0) hN (by omega))) X wd_800 wd_797 wd_799 ws_3 wd_8 on_X11_fails ⟨Nat.le_of_ble_eq_true rfl, Nat.le_of_ble_eq_true rfl⟩ (va_recv hK hw.2.1 (ci := 11) (q0 := 0) rfl rfl) hw hl.1 rfl (Nat.le_of_ble_eq_true rfl) ⟨Nat.le_of_ble_eq_true rfl, Nat.le_of_ble_eq_true rfl⟩ dX11_copy_146) hS (fun r_21 u_20 H locs hp_u_20 hw hS => ?_)
                obtain ⟨rfl, rfl⟩ := hp_u_20
                refine hret _ _ _ _ _ _ _ _ dX11_copy_149 hS hw (Nat.zero_le _) (Nat.zero_le _) ?_
                refine ⟨f, g, (up (up N 0 4 0) 0 4 3), C, rfl, ?_⟩
                unfold sp_copy
                try simp only [Int.toNat_natCast]
                (repeat' split) <;> first | rfl | omega
              · refine lv_iload hx hb dX11_copy_79 (lv_at hl 5 rfl) ?_
                refine i_if_lt (tgt := 109) hx hb hn dX11_copy_81 (by decide) (fun c_22 => ?_) (fun c_22 => ?_)
                · refine lv_iconst (v := nI 0) hx hb dX11_copy_109 (by decide) ?_
                  refine lv_istore (lv' := [(6, .int (nI 0)), (0, .ref h), (1, .int (nI k1)), (2, .int i), (3, .int (nI o1)), (4, .int j), (5, .int n)]) hx hb dX11_copy_110 hl (by decide) rfl (fun ls hl => ?_)
                  refine lv_iload hx hb dX11_copy_112 (lv_at hl 0 rfl) ?_
                  refine i_if_eq (tgt := 144) hx hb (nT (by decide)) dX11_copy_114 (by decide) (fun c_23 => ?_) (fun c_23 => by omega)
                  refine lv_aload_n hx hb dX11_copy_144 rfl (lv_at hl 1 rfl) ?_
                  refine lv_iconst (v := nI 3) hx hb dX11_copy_145 (by decide) ?_
                  refine mu_i (mu_runV (c_X11_fails l D ka z h a (up N 0 4 0) C f g R 3 (by omega) (WF.up04 (v := 0) hN (by omega))) X wd_800 wd_797 wd_799 ws_3 wd_8 on_X11_fails ⟨Nat.le_of_ble_eq_true rfl, Nat.le_of_ble_eq_true rfl⟩ (va_recv hK hw.2.1 (ci := 11) (q0 := 0) rfl rfl) hw hl.1 rfl (Nat.le_of_ble_eq_true rfl) ⟨Nat.le_of_ble_eq_true rfl, Nat.le_of_ble_eq_true rfl⟩ dX11_copy_146) hS (fun r_25 u_24 H locs hp_u_24 hw hS => ?_)
                  obtain ⟨rfl, rfl⟩ := hp_u_24
                  refine hret _ _ _ _ _ _ _ _ dX11_copy_149 hS hw (Nat.zero_le _) (Nat.zero_le _) ?_
                  refine ⟨f, g, (up (up N 0 4 0) 0 4 3), C, rfl, ?_⟩
                  unfold sp_copy
                  try simp only [Int.toNat_natCast]
                  (repeat' split) <;> first | rfl | omega
                · refine lv_iload_n hx hb dX11_copy_84 rfl (lv_at hl 2 rfl) ?_
                  refine lv_aload_n hx hb dX11_copy_85 rfl (lv_at hl 0 rfl) ?_
                  refine va_get (D := D) (ci := 11) (v := .ref (a 3)) (C := RX11) (T := TX11) (N := 35) hx hb hts inX11 hown hK hw.2.1 0 rfl rfl 3 (by decide) (hts _ wd_677) (fun _ h9 => h9) rfl dX11_copy_86 ?_
                  refine lv_iload_n hx hb dX11_copy_89 rfl (lv_at hl 1 rfl) ?_
                  refine n_iald hx hb hK hw.2.1 2 0 rfl rfl (k := k1) (by omega) (by decide) dX11_copy_90 ?_
                  have hv_26 : N 10 k1 ≤ 60 := hN.2.2.2.2.2.2.2.2.2.2 k1
                  refine W.eq (g2 := F0 m 91 ls [.int (nI (N 10 k1)), .int i]) rfl ?_
                  refine i_icmp_gt (tgt := 109) hx hb hi (nT (by omega)) dX11_copy_91 (by decide) (fun c_27 => ?_) (fun c_27 => ?_)
                  · refine lv_iconst (v := nI 0) hx hb dX11_copy_109 (by decide) ?_
                    refine lv_istore (lv' := [(6, .int (nI 0)), (0, .ref h), (1, .int (nI k1)), (2, .int i), (3, .int (nI o1)), (4, .int j), (5, .int n)]) hx hb dX11_copy_110 hl (by decide) rfl (fun ls hl => ?_)
                    refine lv_iload hx hb dX11_copy_112 (lv_at hl 0 rfl) ?_
                    refine i_if_eq (tgt := 144) hx hb (nT (by decide)) dX11_copy_114 (by decide) (fun c_28 => ?_) (fun c_28 => by omega)
                    refine lv_aload_n hx hb dX11_copy_144 rfl (lv_at hl 1 rfl) ?_
                    refine lv_iconst (v := nI 3) hx hb dX11_copy_145 (by decide) ?_
                    refine mu_i (mu_runV (c_X11_fails l D ka z h a (up N 0 4 0) C f g R 3 (by omega) (WF.up04 (v := 0) hN (by omega))) X wd_800 wd_797 wd_799 ws_3 wd_8 on_X11_fails ⟨Nat.le_of_ble_eq_true rfl, Nat.le_of_ble_eq_true rfl⟩ (va_recv hK hw.2.1 (ci := 11) (q0 := 0) rfl rfl) hw hl.1 rfl (Nat.le_of_ble_eq_true rfl) ⟨Nat.le_of_ble_eq_true rfl, Nat.le_of_ble_eq_true rfl⟩ dX11_copy_146) hS (fun r_30 u_29 H locs hp_u_29 hw hS => ?_)
                    obtain ⟨rfl, rfl⟩ := hp_u_29
                    refine hret _ _ _ _ _ _ _ _ dX11_copy_149 hS hw (Nat.zero_le _) (Nat.zero_le _) ?_
                    refine ⟨f, g, (up (up N 0 4 0) 0 4 3), C, rfl, ?_⟩
                    unfold sp_copy
                    try simp only [Int.toNat_natCast]
                    (repeat' split) <;> first | rfl | omega
                  · refine lv_iload hx hb dX11_copy_94 (lv_at hl 4 rfl) ?_
                    refine lv_aload_n hx hb dX11_copy_96 rfl (lv_at hl 0 rfl) ?_
                    refine va_get (D := D) (ci := 11) (v := .ref (a 3)) (C := RX11) (T := TX11) (N := 35) hx hb hts inX11 hown hK hw.2.1 0 rfl rfl 3 (by decide) (hts _ wd_677) (fun _ h9 => h9) rfl dX11_copy_97 ?_
                    refine lv_iload_n hx hb dX11_copy_100 rfl (lv_at hl 3 rfl) ?_
                    refine n_iald hx hb hK hw.2.1 2 0 rfl rfl (k := o1) (by omega) (by decide) dX11_copy_101 ?_
                    have hv_31 : N 10 o1 ≤ 60 := hN.2.2.2.2.2.2.2.2.2.2 o1
                    refine W.eq (g2 := F0 m 102 ls [.int (nI (N 10 o1)), .int j]) rfl ?_
                    refine i_icmp_gt (tgt := 109) hx hb hj (nT (by omega)) dX11_copy_102 (by decide) (fun c_32 => ?_) (fun c_32 => ?_)
                    · refine lv_iconst (v := nI 0) hx hb dX11_copy_109 (by decide) ?_
                      refine lv_istore (lv' := [(6, .int (nI 0)), (0, .ref h), (1, .int (nI k1)), (2, .int i), (3, .int (nI o1)), (4, .int j), (5, .int n)]) hx hb dX11_copy_110 hl (by decide) rfl (fun ls hl => ?_)
                      refine lv_iload hx hb dX11_copy_112 (lv_at hl 0 rfl) ?_
                      refine i_if_eq (tgt := 144) hx hb (nT (by decide)) dX11_copy_114 (by decide) (fun c_33 => ?_) (fun c_33 => by omega)
                      refine lv_aload_n hx hb dX11_copy_144 rfl (lv_at hl 1 rfl) ?_
                      refine lv_iconst (v := nI 3) hx hb dX11_copy_145 (by decide) ?_
                      refine mu_i (mu_runV (c_X11_fails l D ka z h a (up N 0 4 0) C f g R 3 (by omega) (WF.up04 (v := 0) hN (by omega))) X wd_800 wd_797 wd_799 ws_3 wd_8 on_X11_fails ⟨Nat.le_of_ble_eq_true rfl, Nat.le_of_ble_eq_true rfl⟩ (va_recv hK hw.2.1 (ci := 11) (q0 := 0) rfl rfl) hw hl.1 rfl (Nat.le_of_ble_eq_true rfl) ⟨Nat.le_of_ble_eq_true rfl, Nat.le_of_ble_eq_true rfl⟩ dX11_copy_146) hS (fun r_35 u_34 H locs hp_u_34 hw hS => ?_)
                      obtain ⟨rfl, rfl⟩ := hp_u_34
                      refine hret _ _ _ _ _ _ _ _ dX11_copy_149 hS hw (Nat.zero_le _) (Nat.zero_le _) ?_
                      refine ⟨f, g, (up (up N 0 4 0) 0 4 3), C, rfl, ?_⟩
                      unfold sp_copy
                      try simp only [Int.toNat_natCast]
                      (repeat' split) <;> first | rfl | omega
                    · refine lv_iconst (v := nI 1) hx hb dX11_copy_105 (by decide) ?_
                      refine lv_goto (tgt := 110) hx hb dX11_copy_106 (by decide) ?_
                      refine lv_istore (lv' := [(6, .int (nI 1)), (0, .ref h), (1, .int (nI k1)), (2, .int i), (3, .int (nI o1)), (4, .int j), (5, .int n)]) hx hb dX11_copy_110 hl (by decide) rfl (fun ls hl => ?_)
                      refine lv_iload hx hb dX11_copy_112 (lv_at hl 0 rfl) ?_
                      refine i_if_eq (tgt := 144) hx hb (nT (by decide)) dX11_copy_114 (by decide) (fun c_36 => by omega) (fun c_36 => ?_)
                      obtain ⟨i1, hlt_i1, rfl, rfl⟩ := nat_ofK (n := N 10 k1 + 1) hi (by omega) (by omega)
                      obtain ⟨j1, hlt_j1, rfl, rfl⟩ := nat_ofK (n := N 10 o1 + 1) hj (by omega) (by omega)
                      refine lv_iload hx hb dX11_copy_117 (lv_at hl 6 rfl) ?_
                      refine lv_aload_n hx hb dX11_copy_119 rfl (lv_at hl 1 rfl) ?_
                      refine va_get (D := D) (ci := 11) (v := .ref (a 3)) (C := RX11) (T := TX11) (N := 35) hx hb hts inX11 hown hK hw.2.1 0 rfl rfl 3 (by decide) (hts _ wd_677) (fun _ h9 => h9) rfl dX11_copy_120 ?_
                      refine lv_iload_n hx hb dX11_copy_123 rfl (lv_at hl 2 rfl) ?_
                      refine n_iald hx hb hK hw.2.1 2 0 rfl rfl (k := k1) (by omega) (by decide) dX11_copy_124 ?_
                      have hv_37 : N 10 k1 ≤ 60 := hN.2.2.2.2.2.2.2.2.2.2 k1
                      refine W.eq (g2 := F0 m 125 ls [.int (nI (N 10 k1)), .int n]) rfl ?_
                      refine lv_iload_n hx hb dX11_copy_125 rfl (lv_at hl 3 rfl) ?_
                      refine n_isub hx hb (by omega) dX11_copy_126 ?_
                      refine i_icmp_gt (tgt := 144) hx hb hn (nT (by omega)) dX11_copy_127 (by decide) (fun c_38 => ?_) (fun c_38 => ?_)
                      · refine lv_aload_n hx hb dX11_copy_144 rfl (lv_at hl 1 rfl) ?_
                        refine lv_iconst (v := nI 3) hx hb dX11_copy_145 (by decide) ?_
                        refine mu_i (mu_runV (c_X11_fails l D ka z h a (up N 0 4 0) C f g R 3 (by omega) (WF.up04 (v := 0) hN (by omega))) X wd_800 wd_797 wd_799 ws_3 wd_8 on_X11_fails ⟨Nat.le_of_ble_eq_true rfl, Nat.le_of_ble_eq_true rfl⟩ (va_recv hK hw.2.1 (ci := 11) (q0 := 0) rfl rfl) hw hl.1 rfl (Nat.le_of_ble_eq_true rfl) ⟨Nat.le_of_ble_eq_true rfl, Nat.le_of_ble_eq_true rfl⟩ dX11_copy_146) hS (fun r_40 u_39 H locs hp_u_39 hw hS => ?_)
                        obtain ⟨rfl, rfl⟩ := hp_u_39
                        refine hret _ _ _ _ _ _ _ _ dX11_copy_149 hS hw (Nat.zero_le _) (Nat.zero_le _) ?_
                        refine ⟨f, g, (up (up N 0 4 0) 0 4 3), C, rfl, ?_⟩
                        unfold sp_copy
                        try simp only [Int.toNat_natCast]
                        (repeat' split) <;> first | rfl | omega
                      · refine lv_iload hx hb dX11_copy_130 (lv_at hl 6 rfl) ?_
                        refine lv_aload_n hx hb dX11_copy_132 rfl (lv_at hl 1 rfl) ?_
                        refine va_get (D := D) (ci := 11) (v := .ref (a 3)) (C := RX11) (T := TX11) (N := 35) hx hb hts inX11 hown hK hw.2.1 0 rfl rfl 3 (by decide) (hts _ wd_677) (fun _ h9 => h9) rfl dX11_copy_133 ?_
                        refine lv_iload_n hx hb dX11_copy_136 rfl (lv_at hl 4 rfl) ?_
                        refine n_iald hx hb hK hw.2.1 2 0 rfl rfl (k := o1) (by omega) (by decide) dX11_copy_137 ?_
                        have hv_41 : N 10 o1 ≤ 60 := hN.2.2.2.2.2.2.2.2.2.2 o1
                        refine W.eq (g2 := F0 m 138 ls [.int (nI (N 10 o1)), .int n]) rfl ?_
                        refine lv_iload hx hb dX11_copy_138 (lv_at hl 5 rfl) ?_
                        refine n_isub hx hb (by omega) dX11_copy_140 ?_
                        refine i_icmp_le (tgt := 150) hx hb hn (nT (by omega)) dX11_copy_141 (by decide) (fun c_42 => ?_) (fun c_42 => ?_)
                        · obtain ⟨n1, hlt_n1, rfl, rfl⟩ := nat_ofK (n := 61) hn (by omega) (by omega)
                          refine lv_iload_n hx hb dX11_copy_150 rfl (lv_at hl 3 rfl) ?_
                          refine lv_iload hx hb dX11_copy_151 (lv_at hl 5 rfl) ?_
                          refine i_icmp_ge (tgt := 160) hx hb (nT (by omega)) (nT (by omega)) dX11_copy_153 (by decide) (fun c_43 => ?_) (fun c_43 => ?_)
                          · refine lv_iconst (v := nI 0) hx hb dX11_copy_160 (by decide) ?_
                            refine lv_istore (lv' := [(7, .int (nI 0)), (6, .int (nI 1)), (0, .ref h), (1, .int (nI k1)), (2, .int (nI i1)), (3, .int (nI o1)), (4, .int (nI j1)), (5, .int (nI n1))]) hx hb dX11_copy_161 hl (by decide) rfl (fun ls hl => ?_)
                            refine lv_iconst (v := nI 0) hx hb dX11_copy_163 (by decide) ?_
                            refine lv_istore (lv' := [(8, .int (nI 0)), (7, .int (nI 0)), (6, .int (nI 1)), (0, .ref h), (1, .int (nI k1)), (2, .int (nI i1)), (3, .int (nI o1)), (4, .int (nI j1)), (5, .int (nI n1))]) hx hb dX11_copy_164 hl (by decide) rfl (fun ls hl => ?_)
                            rw [← cpP_0 C k1 i1 o1 j1 0] at hw
                            have loop166 : ∀ (fuel166 : Nat) (b : Nat), n1 - b < fuel166 → (b ≤ n1) → ∀ (H : Heap) (locs : List Loc), wdH D z (mw ka h a (up N 0 4 0) (cpP C k1 i1 o1 j1 0 b) f g ++ R) H → va_S (fun q => z ≤ q) s.heap H locs → ∀ ls : Array Slot, lv_has ls 10 [(0, .ref h), (1, .int (nI k1)), (2, .int (nI i1)), (3, .int (nI o1)), (4, .int (nI j1)), (5, .int (nI n1)), (6, .int (nI 1)), (7, .int (nI 0)), (8, .int (nI b))] → W p l e (rmz 2 0 0) s m args below meth c H locs 0 0 Q (F0 m 166 ls []) := by
                              intro fuel166
                              induction fuel166 with
                              | zero => intro b hfu; exact absurd hfu (Nat.not_lt_zero _)
                              | succ fuel166 ih166 =>
                                intro b hfu hi1 H locs hw hS ls hl
                                refine lv_iload hx hb dX11_copy_166 (lv_at hl 8 rfl) ?_
                                refine lv_iload hx hb dX11_copy_168 (lv_at hl 5 rfl) ?_
                                refine i_icmp_ge (tgt := 227) hx hb (nT (by omega)) (nT (by omega)) dX11_copy_170 (by decide) (fun c_44 => ?_) (fun c_44 => ?_)
                                · refine lv_iload hx hb dX11_copy_227 (lv_at hl 5 rfl) ?_
                                  rw [show b = n1 by omega, cpP_C] at hw
                                  refine hret _ _ _ _ _ _ _ _ dX11_copy_229 hS hw (Nat.zero_le _) (Nat.zero_le _) ?_
                                  refine ⟨f, g, (up N 0 4 0), (cpC C k1 i1 o1 j1 n1), rfl, ?_⟩
                                  unfold sp_copy
                                  try simp only [Int.toNat_natCast]
                                  (repeat' split) <;> first | rfl | omega
                                · refine lv_iload hx hb dX11_copy_173 (lv_at hl 7 rfl) ?_
                                  refine i_if_eq (tgt := 188) hx hb (nT (by decide)) dX11_copy_175 (by decide) (fun c_45 => ?_) (fun c_45 => by omega)
                                  refine lv_iload hx hb dX11_copy_188 (lv_at hl 8 rfl) ?_
                                  refine lv_istore (lv' := [(9, .int (nI b)), (0, .ref h), (1, .int (nI k1)), (2, .int (nI i1)), (3, .int (nI o1)), (4, .int (nI j1)), (5, .int (nI n1)), (6, .int (nI 1)), (7, .int (nI 0)), (8, .int (nI b))]) hx hb dX11_copy_190 hl (by decide) rfl (fun ls hl => ?_)
                                  refine lv_aload_n hx hb dX11_copy_192 rfl (lv_at hl 1 rfl) ?_
                                  refine va_get (D := D) (ci := 11) (v := .ref (a 4)) (C := RX11) (T := TX11) (N := 35) hx hb hts inX11 hown hK hw.2.1 0 rfl rfl 4 (by decide) (hts _ wd_678) (fun _ h9 => h9) rfl dX11_copy_193 ?_
                                  refine lv_bipush (v := nI 60) hx hb dX11_copy_196 (by decide) ?_
                                  refine lv_iload_n hx hb dX11_copy_198 rfl (lv_at hl 4 rfl) ?_
                                  refine n_imul hx hb dX11_copy_199 ?_
                                  refine lv_iload hx hb dX11_copy_200 (lv_at hl 5 rfl) ?_
                                  refine n_iadd hx hb dX11_copy_202 ?_
                                  refine lv_iload hx hb dX11_copy_203 (lv_at hl 0 rfl) ?_
                                  refine n_iadd hx hb dX11_copy_205 ?_
                                  refine lv_aload_n hx hb dX11_copy_206 rfl (lv_at hl 1 rfl) ?_
                                  refine va_get (D := D) (ci := 11) (v := .ref (a 4)) (C := RX11) (T := TX11) (N := 35) hx hb hts inX11 hown hK hw.2.1 0 rfl rfl 4 (by decide) (hts _ wd_678) (fun _ h9 => h9) rfl dX11_copy_207 ?_
                                  refine lv_bipush (v := nI 60) hx hb dX11_copy_210 (by decide) ?_
                                  refine lv_iload_n hx hb dX11_copy_212 rfl (lv_at hl 2 rfl) ?_
                                  refine n_imul hx hb dX11_copy_213 ?_
                                  refine lv_iload_n hx hb dX11_copy_214 rfl (lv_at hl 3 rfl) ?_
                                  refine n_iadd hx hb dX11_copy_215 ?_
                                  refine lv_iload hx hb dX11_copy_216 (lv_at hl 0 rfl) ?_
                                  refine n_iadd hx hb dX11_copy_218 ?_
                                  refine n_iald hx hb hK hw.2.1 3 0 rfl rfl (k := ((60 * k1) + i1) + b) (by omega) (by decide) dX11_copy_219 ?_
                                  refine W.eq (g2 := F0 m 220 ls [.int ((cpP C k1 i1 o1 j1 0 b) ((((60 * k1) + i1) + b) / 60) ((((60 * k1) + i1) + b) % 60)), .int (nI (((60 * o1) + j1) + b)), .ref (a 4)]) rfl ?_
                                  rw [show (60 * k1 + i1 + b) / 60 = k1 by omega, show (60 * k1 + i1 + b) % 60 = i1 + b by omega, cpP_rd (by omega)]
                                  refine W.eq (g2 := F0 m 220 ls [.int (C k1 (i1 + b)), .int (nI (((60 * o1) + j1) + b)), .ref (a 4)]) rfl ?_
                                  rw [show ((60 * o1) + j1) + b = 60 * o1 + (j1 + b) by omega]
                                  refine r_iast hx hb hK hw.2.1 hw.2.2 hS 3 0 rfl rfl (k := 60 * o1 + (j1 + b)) (by omega) (by decide) dX11_copy_220 (fun H locs hP hD hS => ?_)
                                  rw [cells_upd (k := o1) (i := j1 + b) (by omega), mw_cells (by omega)] at hP hD
                                  have hw : wdH D z (mw ka h a (up N 0 4 0) (upC (cpP C k1 i1 o1 j1 0 b) o1 (j1 + b) (C k1 (i1 + b))) f g ++ R) H := ⟨Nat.le_trans hz0 hS.1, hP, hD⟩
                                  rw [cpP_f] at hw
                                  refine n_iinc (lv' := [(8, .int (nI (b + 1))), (9, .int (nI b)), (0, .ref h), (1, .int (nI k1)), (2, .int (nI i1)), (3, .int (nI o1)), (4, .int (nI j1)), (5, .int (nI n1)), (6, .int (nI 1)), (7, .int (nI 0))]) (k := 9) (d := 1) hx hb dX11_copy_221 hl rfl rfl (by decide) rfl (fun ls hl => ?_)
                                  refine lv_goto (tgt := 166) hx hb dX11_copy_224 (by decide) ?_
                                  exact ih166 (b + 1) (by omega) (by omega) _ _ hw hS ls (lv_sub hl [2, 3, 4, 5, 6, 7, 8, 9, 0] rfl)
                            exact loop166 _ 0 (Nat.lt_succ_self _) (by omega) _ _ hw hS ls (lv_sub hl [3, 4, 5, 6, 7, 8, 2, 1, 0] rfl)
                          · refine lv_iconst (v := nI 1) hx hb dX11_copy_156 (by decide) ?_
                            refine lv_goto (tgt := 161) hx hb dX11_copy_157 (by decide) ?_
                            refine lv_istore (lv' := [(7, .int (nI 1)), (6, .int (nI 1)), (0, .ref h), (1, .int (nI k1)), (2, .int (nI i1)), (3, .int (nI o1)), (4, .int (nI j1)), (5, .int (nI n1))]) hx hb dX11_copy_161 hl (by decide) rfl (fun ls hl => ?_)
                            refine lv_iconst (v := nI 0) hx hb dX11_copy_163 (by decide) ?_
                            refine lv_istore (lv' := [(8, .int (nI 0)), (7, .int (nI 1)), (6, .int (nI 1)), (0, .ref h), (1, .int (nI k1)), (2, .int (nI i1)), (3, .int (nI o1)), (4, .int (nI j1)), (5, .int (nI n1))]) hx hb dX11_copy_164 hl (by decide) rfl (fun ls hl => ?_)
                            rw [← cpP_0 C k1 i1 o1 j1 (n1 - 0)] at hw
                            rw [show cpP C k1 i1 o1 j1 (n1 - 0) (n1 - 0) = cpP C k1 i1 o1 j1 (n1 - 0) n1 from rfl] at hw
                            have loop166 : ∀ (fuel166 : Nat) (b : Nat), n1 - b < fuel166 → (b ≤ n1) → ∀ (H : Heap) (locs : List Loc), wdH D z (mw ka h a (up N 0 4 0) (cpP C k1 i1 o1 j1 (n1 - b) n1) f g ++ R) H → va_S (fun q => z ≤ q) s.heap H locs → ∀ ls : Array Slot, lv_has ls 10 [(0, .ref h), (1, .int (nI k1)), (2, .int (nI i1)), (3, .int (nI o1)), (4, .int (nI j1)), (5, .int (nI n1)), (6, .int (nI 1)), (7, .int (nI 1)), (8, .int (nI b))] → W p l e (rmz 2 0 0) s m args below meth c H locs 0 0 Q (F0 m 166 ls []) := by
                              intro fuel166
                              induction fuel166 with
                              | zero => intro b hfu; exact absurd hfu (Nat.not_lt_zero _)
                              | succ fuel166 ih166 =>
                                intro b hfu hi1 H locs hw hS ls hl
                                refine lv_iload hx hb dX11_copy_166 (lv_at hl 8 rfl) ?_
                                refine lv_iload hx hb dX11_copy_168 (lv_at hl 5 rfl) ?_
                                refine i_icmp_ge (tgt := 227) hx hb (nT (by omega)) (nT (by omega)) dX11_copy_170 (by decide) (fun c_46 => ?_) (fun c_46 => ?_)
                                · refine lv_iload hx hb dX11_copy_227 (lv_at hl 5 rfl) ?_
                                  rw [show n1 - b = 0 by omega, cpP_C] at hw
                                  refine hret _ _ _ _ _ _ _ _ dX11_copy_229 hS hw (Nat.zero_le _) (Nat.zero_le _) ?_
                                  refine ⟨f, g, (up N 0 4 0), (cpC C k1 i1 o1 j1 n1), rfl, ?_⟩
                                  unfold sp_copy
                                  try simp only [Int.toNat_natCast]
                                  (repeat' split) <;> first | rfl | omega
                                · refine lv_iload hx hb dX11_copy_173 (lv_at hl 7 rfl) ?_
                                  refine i_if_eq (tgt := 188) hx hb (nT (by decide)) dX11_copy_175 (by decide) (fun c_47 => by omega) (fun c_47 => ?_)
                                  refine lv_iload hx hb dX11_copy_178 (lv_at hl 5 rfl) ?_
                                  refine lv_iconst (v := nI 1) hx hb dX11_copy_180 (by decide) ?_
                                  refine n_isub hx hb (by omega) dX11_copy_181 ?_
                                  refine lv_iload hx hb dX11_copy_182 (lv_at hl 8 rfl) ?_
                                  refine n_isub hx hb (by omega) dX11_copy_184 ?_
                                  refine lv_goto (tgt := 190) hx hb dX11_copy_185 (by decide) ?_
                                  refine lv_istore (lv' := [(9, .int (nI ((n1 - 1) - b))), (0, .ref h), (1, .int (nI k1)), (2, .int (nI i1)), (3, .int (nI o1)), (4, .int (nI j1)), (5, .int (nI n1)), (6, .int (nI 1)), (7, .int (nI 1)), (8, .int (nI b))]) hx hb dX11_copy_190 hl (by decide) rfl (fun ls hl => ?_)
                                  refine lv_aload_n hx hb dX11_copy_192 rfl (lv_at hl 1 rfl) ?_
                                  refine va_get (D := D) (ci := 11) (v := .ref (a 4)) (C := RX11) (T := TX11) (N := 35) hx hb hts inX11 hown hK hw.2.1 0 rfl rfl 4 (by decide) (hts _ wd_678) (fun _ h9 => h9) rfl dX11_copy_193 ?_
                                  refine lv_bipush (v := nI 60) hx hb dX11_copy_196 (by decide) ?_
                                  refine lv_iload_n hx hb dX11_copy_198 rfl (lv_at hl 4 rfl) ?_
                                  refine n_imul hx hb dX11_copy_199 ?_
                                  refine lv_iload hx hb dX11_copy_200 (lv_at hl 5 rfl) ?_
                                  refine n_iadd hx hb dX11_copy_202 ?_
                                  refine lv_iload hx hb dX11_copy_203 (lv_at hl 0 rfl) ?_
                                  refine n_iadd hx hb dX11_copy_205 ?_
                                  refine lv_aload_n hx hb dX11_copy_206 rfl (lv_at hl 1 rfl) ?_
                                  refine va_get (D := D) (ci := 11) (v := .ref (a 4)) (C := RX11) (T := TX11) (N := 35) hx hb hts inX11 hown hK hw.2.1 0 rfl rfl 4 (by decide) (hts _ wd_678) (fun _ h9 => h9) rfl dX11_copy_207 ?_
                                  refine lv_bipush (v := nI 60) hx hb dX11_copy_210 (by decide) ?_
                                  refine lv_iload_n hx hb dX11_copy_212 rfl (lv_at hl 2 rfl) ?_
                                  refine n_imul hx hb dX11_copy_213 ?_
                                  refine lv_iload_n hx hb dX11_copy_214 rfl (lv_at hl 3 rfl) ?_
                                  refine n_iadd hx hb dX11_copy_215 ?_
                                  refine lv_iload hx hb dX11_copy_216 (lv_at hl 0 rfl) ?_
                                  refine n_iadd hx hb dX11_copy_218 ?_
                                  refine n_iald hx hb hK hw.2.1 3 0 rfl rfl (k := ((60 * k1) + i1) + ((n1 - 1) - b)) (by omega) (by decide) dX11_copy_219 ?_
                                  refine W.eq (g2 := F0 m 220 ls [.int ((cpP C k1 i1 o1 j1 (n1 - b) n1) ((((60 * k1) + i1) + ((n1 - 1) - b)) / 60) ((((60 * k1) + i1) + ((n1 - 1) - b)) % 60)), .int (nI (((60 * o1) + j1) + ((n1 - 1) - b))), .ref (a 4)]) rfl ?_
                                  rw [show (60 * k1 + i1 + ((n1 - 1) - b)) / 60 = k1 by omega, show (60 * k1 + i1 + ((n1 - 1) - b)) % 60 = i1 + ((n1 - 1) - b) by omega, cpP_rd (by omega)]
                                  refine W.eq (g2 := F0 m 220 ls [.int (C k1 (i1 + ((n1 - 1) - b))), .int (nI (((60 * o1) + j1) + ((n1 - 1) - b))), .ref (a 4)]) rfl ?_
                                  rw [show ((60 * o1) + j1) + ((n1 - 1) - b) = 60 * o1 + (j1 + ((n1 - 1) - b)) by omega]
                                  refine r_iast hx hb hK hw.2.1 hw.2.2 hS 3 0 rfl rfl (k := 60 * o1 + (j1 + ((n1 - 1) - b))) (by omega) (by decide) dX11_copy_220 (fun H locs hP hD hS => ?_)
                                  rw [cells_upd (k := o1) (i := j1 + ((n1 - 1) - b)) (by omega), mw_cells (by omega)] at hP hD
                                  have hw : wdH D z (mw ka h a (up N 0 4 0) (upC (cpP C k1 i1 o1 j1 (n1 - b) n1) o1 (j1 + ((n1 - 1) - b)) (C k1 (i1 + ((n1 - 1) - b)))) f g ++ R) H := ⟨Nat.le_trans hz0 hS.1, hP, hD⟩
                                  rw [show n1 - b = (n1 - 1 - b) + 1 by omega, cpP_b C k1 i1 o1 j1 (n1 - 1 - b) n1 (by omega), show n1 - 1 - b = n1 - (b + 1) by omega] at hw
                                  refine n_iinc (lv' := [(8, .int (nI (b + 1))), (9, .int (nI ((n1 - 1) - b))), (0, .ref h), (1, .int (nI k1)), (2, .int (nI i1)), (3, .int (nI o1)), (4, .int (nI j1)), (5, .int (nI n1)), (6, .int (nI 1)), (7, .int (nI 1))]) (k := 9) (d := 1) hx hb dX11_copy_221 hl rfl rfl (by decide) rfl (fun ls hl => ?_)
                                  refine lv_goto (tgt := 166) hx hb dX11_copy_224 (by decide) ?_
                                  exact ih166 (b + 1) (by omega) (by omega) _ _ hw hS ls (lv_sub hl [2, 3, 4, 5, 6, 7, 8, 9, 0] rfl)
                            exact loop166 _ 0 (Nat.lt_succ_self _) (by omega) _ _ hw hS ls (lv_sub hl [3, 4, 5, 6, 7, 8, 2, 1, 0] rfl)
                        · refine lv_aload_n hx hb dX11_copy_144 rfl (lv_at hl 1 rfl) ?_
                          refine lv_iconst (v := nI 3) hx hb dX11_copy_145 (by decide) ?_
                          refine mu_i (mu_runV (c_X11_fails l D ka z h a (up N 0 4 0) C f g R 3 (by omega) (WF.up04 (v := 0) hN (by omega))) X wd_800 wd_797 wd_799 ws_3 wd_8 on_X11_fails ⟨Nat.le_of_ble_eq_true rfl, Nat.le_of_ble_eq_true rfl⟩ (va_recv hK hw.2.1 (ci := 11) (q0 := 0) rfl rfl) hw hl.1 rfl (Nat.le_of_ble_eq_true rfl) ⟨Nat.le_of_ble_eq_true rfl, Nat.le_of_ble_eq_true rfl⟩ dX11_copy_146) hS (fun r_49 u_48 H locs hp_u_48 hw hS => ?_)
                          obtain ⟨rfl, rfl⟩ := hp_u_48
                          refine hret _ _ _ _ _ _ _ _ dX11_copy_149 hS hw (Nat.zero_le _) (Nat.zero_le _) ?_
                          refine ⟨f, g, (up (up N 0 4 0) 0 4 3), C, rfl, ?_⟩
                          unfold sp_copy
                          try simp only [Int.toNat_natCast]
                          (repeat' split) <;> first | rfl | omega
          · refine lv_aload_n hx hb dX11_copy_64 rfl (lv_at hl 0 rfl) ?_
            refine lv_iconst (v := nI 2) hx hb dX11_copy_65 (by decide) ?_
            refine mu_i (mu_runV (c_X11_fails l D ka z h a (up N 0 4 0) C f g R 2 (by omega) (WF.up04 (v := 0) hN (by omega))) X wd_800 wd_797 wd_799 ws_3 wd_8 on_X11_fails ⟨Nat.le_of_ble_eq_true rfl, Nat.le_of_ble_eq_true rfl⟩ (va_recv hK hw.2.1 (ci := 11) (q0 := 0) rfl rfl) hw hl.1 rfl (Nat.le_of_ble_eq_true rfl) ⟨Nat.le_of_ble_eq_true rfl, Nat.le_of_ble_eq_true rfl⟩ dX11_copy_66) hS (fun r_51 u_50 H locs hp_u_50 hw hS => ?_)
            obtain ⟨rfl, rfl⟩ := hp_u_50
            refine hret _ _ _ _ _ _ _ _ dX11_copy_69 hS hw (Nat.zero_le _) (Nat.zero_le _) ?_
            refine ⟨f, g, (up (up N 0 4 0) 0 4 2), C, rfl, ?_⟩
            unfold sp_copy
            try simp only [Int.toNat_natCast]
            (repeat' split) <;> first | rfl | omega
        · refine lv_aload_n hx hb dX11_copy_43 rfl (lv_at hl 0 rfl) ?_
          refine lv_iconst (v := nI 1) hx hb dX11_copy_44 (by decide) ?_
          refine mu_i (mu_runV (c_X11_fails l D ka z h a (up N 0 4 0) C f g R 1 (by omega) (WF.up04 (v := 0) hN (by omega))) X wd_800 wd_797 wd_799 ws_3 wd_8 on_X11_fails ⟨Nat.le_of_ble_eq_true rfl, Nat.le_of_ble_eq_true rfl⟩ (va_recv hK hw.2.1 (ci := 11) (q0 := 0) rfl rfl) hw hl.1 rfl (Nat.le_of_ble_eq_true rfl) ⟨Nat.le_of_ble_eq_true rfl, Nat.le_of_ble_eq_true rfl⟩ dX11_copy_45) hS (fun r_53 u_52 H locs hp_u_52 hw hS => ?_)
          obtain ⟨rfl, rfl⟩ := hp_u_52
          refine hret _ _ _ _ _ _ _ _ dX11_copy_48 hS hw (Nat.zero_le _) (Nat.zero_le _) ?_
          refine ⟨f, g, (up (up N 0 4 0) 0 4 1), C, rfl, ?_⟩
          unfold sp_copy
          try simp only [Int.toNat_natCast]
          (repeat' split) <;> first | rfl | omega
    · refine lv_iconst (v := (-1)) hx hb dX11_copy_19 (by decide) ?_
      refine hret _ _ _ _ _ _ _ _ dX11_copy_20 hS hw (Nat.zero_le _) (Nat.zero_le _) ?_
      refine ⟨f, g, (up N 0 4 0), C, rfl, ?_⟩
      unfold sp_copy
      try simp only [Int.toNat_natCast]
      (repeat' split) <;> first | rfl | omega
set_option maxRecDepth 100000 in
set_option maxHeartbeats 4000000 in
theorem c_X11_inLeastTerms (l : Launch) (D : va_G) (ka : Nat → ClassId) (u d : Nat) (w : Int32) (w2 : Int) (hw2 : w.toInt = w2) (hu : u < 1000) (hd : 0 < d ∧ d < 1000) : RO l D ka yX11_inLeastTerms cX11_inLeastTerms 11 (some .long) 0 [.long (lN u), .long (lN d), .int w] (fun H => True) (vp_Sl (fun r => r = lt_ u d w2)) := by
  refine RO.ofL (by decide) (Nat.le_of_ble_eq_true rfl) ?_
  intro p e s m args below meth c Q X hP hret ls hl
  obtain ⟨hx, hb, hml, hown, hts, hE⟩ := id X
  have hK := hE.1
  have hl : lv_has ls 11 [(0, .long (lN u)), (2, .long (lN d)), (4, .int w)] := hl
  refine lv_lload_n hx hb dX11_inLeastTerms_0 rfl (lv_at hl 0 rfl) ?_
  refine lv_lstore (lv' := [(5, .long (lN u)), (0, .long (lN u)), (2, .long (lN d)), (4, .int w)]) hx hb dX11_inLeastTerms_1 hl (by decide) rfl (fun ls hl => ?_)
  refine lv_lload_n hx hb dX11_inLeastTerms_3 rfl (lv_at hl 2 rfl) ?_
  refine lv_lstore (lv' := [(7, .long (lN d)), (5, .long (lN u)), (0, .long (lN u)), (2, .long (lN d)), (4, .int w)]) hx hb dX11_inLeastTerms_4 hl (by decide) rfl (fun ls hl => ?_)
  have loop6 : ∀ (fuel6 : Nat) (x : Nat) (y : Nat), y < fuel6 → (x < 1000 ∧ y < 1000) → (Nat.gcd x y = Nat.gcd u d) → ∀ ls : Array Slot, lv_has ls 11 [(0, .long (lN u)), (2, .long (lN d)), (4, .int w), (5, .long (lN x)), (7, .long (lN y))] → W p l e (rmz 0 0 0) s m args below meth c s.heap [] 0 0 Q (F0 m 6 ls []) := by
    intro fuel6
    induction fuel6 with
    | zero => intro x y hfu; exact absurd hfu (Nat.not_lt_zero _)
    | succ fuel6 ih6 =>
      intro x y hfu hx1 hg ls hl
      refine lv_lload hx hb dX11_inLeastTerms_6 (lv_at hl 4 rfl) ?_
      refine lv_lconst (v := lN 0) hx hb dX11_inLeastTerms_8 rfl ?_
      refine W.lcmp hx hb dX11_inLeastTerms_9 ?_
      refine i_if_eq (tgt := 31) hx hb (lcmp_T (by omega) (by omega)) dX11_inLeastTerms_10 (by decide) (fun c_1 => ?_) (fun c_1 => ?_)
      · have hxp : 0 < x := by
          have hy0 : y = 0 := by omega
          subst hy0
          rw [Nat.gcd_zero_right] at hg
          rw [hg]
          exact Nat.gcd_pos_of_pos_right _ hd.1
        refine lv_iload hx hb dX11_inLeastTerms_31 (lv_at hl 2 rfl) ?_
        refine i_if_ne (tgt := 43) hx hb hw2 dX11_inLeastTerms_33 (by decide) (fun c_2 => ?_) (fun c_2 => ?_)
        · refine lv_lload_n hx hb dX11_inLeastTerms_43 rfl (lv_at hl 1 rfl) ?_
          refine lv_lload hx hb dX11_inLeastTerms_44 (lv_at hl 3 rfl) ?_
          refine n_ldiv hx hb (by omega) (by omega) (by omega) dX11_inLeastTerms_46 ?_
          refine hret _ _ _ dX11_inLeastTerms_47 ?_
          have hy0 : y = 0 := by omega
          subst hy0
          rw [Nat.gcd_zero_right] at hg
          unfold lt_
          rw [← hg]
          (repeat' split) <;> first | rfl | omega
        · refine lv_lload_n hx hb dX11_inLeastTerms_36 rfl (lv_at hl 0 rfl) ?_
          refine lv_lload hx hb dX11_inLeastTerms_37 (lv_at hl 3 rfl) ?_
          refine n_ldiv hx hb (by omega) (by omega) (by omega) dX11_inLeastTerms_39 ?_
          refine lv_goto (tgt := 47) hx hb dX11_inLeastTerms_40 (by decide) ?_
          refine hret _ _ _ dX11_inLeastTerms_47 ?_
          have hy0 : y = 0 := by omega
          subst hy0
          rw [Nat.gcd_zero_right] at hg
          unfold lt_
          rw [← hg]
          (repeat' split) <;> first | rfl | omega
      · refine lv_lload hx hb dX11_inLeastTerms_13 (lv_at hl 3 rfl) ?_
        refine lv_lload hx hb dX11_inLeastTerms_15 (lv_at hl 4 rfl) ?_
        refine n_lrem hx hb (by omega) (by omega) (by omega) dX11_inLeastTerms_17 ?_
        refine lv_lstore (lv' := [(9, .long (lN (x % y))), (0, .long (lN u)), (2, .long (lN d)), (4, .int w), (5, .long (lN x)), (7, .long (lN y))]) hx hb dX11_inLeastTerms_18 hl (by decide) rfl (fun ls hl => ?_)
        refine lv_lload hx hb dX11_inLeastTerms_20 (lv_at hl 5 rfl) ?_
        refine lv_lstore (lv' := [(5, .long (lN y)), (9, .long (lN (x % y))), (0, .long (lN u)), (2, .long (lN d)), (4, .int w), (7, .long (lN y))]) hx hb dX11_inLeastTerms_22 hl (by decide) rfl (fun ls hl => ?_)
        refine lv_lload hx hb dX11_inLeastTerms_24 (lv_at hl 1 rfl) ?_
        refine lv_lstore (lv' := [(7, .long (lN (x % y))), (5, .long (lN y)), (9, .long (lN (x % y))), (0, .long (lN u)), (2, .long (lN d)), (4, .int w)]) hx hb dX11_inLeastTerms_26 hl (by decide) rfl (fun ls hl => ?_)
        refine lv_goto (tgt := 6) hx hb dX11_inLeastTerms_28 (by decide) ?_
        exact ih6 y (x % y) (Nat.lt_of_lt_of_le (Nat.mod_lt x (by omega)) (by omega)) ⟨by omega, Nat.lt_trans (Nat.mod_lt _ (by omega)) (by omega)⟩ (by rw [← hg, Nat.gcd_comm x y, Nat.gcd_rec y x, Nat.gcd_comm]) ls (lv_sub hl [3, 4, 5, 1, 0] rfl)
  exact loop6 _ u d (Nat.lt_succ_self _) (by omega) rfl ls (lv_sub hl [2, 3, 4, 1, 0] rfl)
set_option maxRecDepth 100000 in
set_option maxHeartbeats 4000000 in
theorem c_X11_odds (l : Launch) (D : va_G) (ka : Nat → ClassId) (z : Nat) (h : Nat) (a : Nat → Nat) (N : Nat → Nat → Nat) (C : Nat → Nat → Int32) (f : Nat → Int32) (g : Nat → Nat → Int32) (R : va_W) (k q m1 : Int32) (K q2 m2 : Int) (hk : k.toInt = K) (hq : q.toInt = q2) (hm1 : m1.toInt = m2) (hL : N 0 5 = 0) (hN : WF N) : MU l D ka z yX11_odds cX11_odds 6 (some .long) 2 0 0 [.ref h, .int k, .int q, .int m1] (mw ka h a N C f g ++ R) (Ql D z (fun r w => ∃ f' g' N' C', w = mw ka h a N' C' f' g' ++ R ∧ (r, N', C') = sp_odds N C K q2 m2)) := by
  refine MU.ofL (by decide) (Nat.le_of_ble_eq_true rfl) ?_
  intro p e s m args below meth c Q X hw hS hret ls hl
  obtain ⟨hx, hb, hml, hown, hts, hE⟩ := id X
  have hK := hE.1
  have hz0 := hw.1
  have hl : lv_has ls 6 [(0, .ref h), (1, .int k), (2, .int q), (3, .int m1)] := hl
  have hN1 := hN.1
  refine lv_aload_n hx hb dX11_odds_0 rfl (lv_at hl 0 rfl) ?_
  refine lv_iload_n hx hb dX11_odds_1 rfl (lv_at hl 1 rfl) ?_
  refine vp_callSi (ro_runV (c_X11_isTaker l D ka h a N C f g R k _ hk hN) X wd_836 wd_833 wd_835 ws_11 wd_8 on_X11_isTaker ⟨Nat.le_of_ble_eq_true rfl, Nat.le_of_ble_eq_true rfl⟩ (va_recv hK hw.2.1 (ci := 11) (q0 := 0) rfl rfl) hw.2.1 hl.1 rfl (Nat.le_of_ble_eq_true rfl) ⟨(Nat.zero_le _), (Nat.zero_le _)⟩ dX11_odds_2) (fun r_1 hr_1 => ?_)
  subst hr_1
  refine b_if_eq (tgt := 27) hx hb dX11_odds_5 (by decide) (fun c_2 => ?_) (fun c_2 => ?_)
  · refine lv_ldc2 (v := (-9223372036854775808 : Int64)) hx hb hown (hts _ wd_956) dX11_odds_27 ?_
    refine hret _ _ _ _ _ _ _ _ dX11_odds_30 hS hw (Nat.zero_le _) (Nat.zero_le _) ?_
    refine ⟨f, g, N, C, rfl, ?_⟩
    unfold sp_odds
    try simp only [Int.toNat_natCast]
    (repeat' split) <;> first | rfl | omega
  · refine lv_iload_n hx hb dX11_odds_8 rfl (lv_at hl 2 rfl) ?_
    refine lv_iconst (v := nI 0) hx hb dX11_odds_9 (by decide) ?_
    refine lv_bipush (v := nI 40) hx hb dX11_odds_10 (by decide) ?_
    refine vp_callSi (ro_runS (c_X11_within l D ka q (nI 0) (nI 40) _ _ _ hq (nT (by decide)) (nT (by decide))) X wd_789 wd_787 wd_788 wd_8 on_X11_within ⟨Nat.le_of_ble_eq_true rfl, Nat.le_of_ble_eq_true rfl⟩ trivial hl.1 rfl (Nat.le_of_ble_eq_true rfl) ⟨(Nat.zero_le _), (Nat.zero_le _)⟩ dX11_odds_12) (fun r_3 hr_3 => ?_)
    subst hr_3
    refine b_if_eq (tgt := 27) hx hb dX11_odds_15 (by decide) (fun c_4 => ?_) (fun c_4 => ?_)
    · refine lv_ldc2 (v := (-9223372036854775808 : Int64)) hx hb hown (hts _ wd_956) dX11_odds_27 ?_
      refine hret _ _ _ _ _ _ _ _ dX11_odds_30 hS hw (Nat.zero_le _) (Nat.zero_le _) ?_
      refine ⟨f, g, N, C, rfl, ?_⟩
      unfold sp_odds
      try simp only [Int.toNat_natCast]
      (repeat' split) <;> first | rfl | omega
    · refine lv_iload_n hx hb dX11_odds_18 rfl (lv_at hl 3 rfl) ?_
      refine lv_iconst (v := nI 0) hx hb dX11_odds_19 (by decide) ?_
      refine lv_iconst (v := nI 1) hx hb dX11_odds_20 (by decide) ?_
      refine vp_callSi (ro_runS (c_X11_within l D ka m1 (nI 0) (nI 1) _ _ _ hm1 (nT (by decide)) (nT (by decide))) X wd_789 wd_787 wd_788 wd_8 on_X11_within ⟨Nat.le_of_ble_eq_true rfl, Nat.le_of_ble_eq_true rfl⟩ trivial hl.1 rfl (Nat.le_of_ble_eq_true rfl) ⟨(Nat.zero_le _), (Nat.zero_le _)⟩ dX11_odds_21) (fun r_5 hr_5 => ?_)
      subst hr_5
      refine b_if_ne (tgt := 31) hx hb dX11_odds_24 (by decide) (fun c_6 => ?_) (fun c_6 => ?_)
      · obtain ⟨j, hlt_j, rfl, rfl⟩ := nat_ofK (n := N 0 1) hk (by omega) (by omega)
        obtain ⟨n1, hlt_n1, rfl, rfl⟩ := nat_ofK (n := 41) hq (by omega) (by omega)
        have hpw := pow_le64 (p := N 0 0) (by omega)
        have hpp : 0 < 2 ^ N 0 0 := Nat.pow_pos (by decide)
        refine lv_iconst (v := nI 0) hx hb dX11_odds_31 (by decide) ?_
        refine lv_istore (lv' := [(4, .int (nI 0)), (0, .ref h), (1, .int (nI j)), (2, .int (nI n1)), (3, .int m1)]) hx hb dX11_odds_32 hl (by decide) rfl (fun ls hl => ?_)
        refine lv_iconst (v := nI 1) hx hb dX11_odds_34 (by decide) ?_
        refine lv_aload_n hx hb dX11_odds_35 rfl (lv_at hl 1 rfl) ?_
        refine va_get (D := D) (ci := 11) (v := .int (nI (N 0 0))) (C := RX11) (T := TX11) (N := 35) hx hb hts inX11 hown hK hw.2.1 0 rfl rfl 5 (by decide) (hts _ wd_679) (fun _ h9 => h9) rfl dX11_odds_36 ?_
        refine lv_ishl hx hb dX11_odds_39 ?_
        rw [n_shl (a := 1) (k := N 0 0) (by omega) (by omega), Nat.one_mul]
        refine lv_istore (lv' := [(5, .int (nI (2 ^ (N 0 0)))), (4, .int (nI 0)), (0, .ref h), (1, .int (nI j)), (2, .int (nI n1)), (3, .int m1)]) hx hb dX11_odds_40 hl (by decide) rfl (fun ls hl => ?_)
        refine lv_aload_n hx hb dX11_odds_42 rfl (lv_at hl 2 rfl) ?_
        refine lv_iconst (v := nI 0) hx hb dX11_odds_43 (by decide) ?_
        refine va_put (D := D) (ci := 11) (ty := .int) (C := RX11) (T := TX11) (N := 35) hx hb hts inX11 tyX11 tyX11_ok nmX11 hown hK hw.2.1 hw.2.2 hS 0 rfl rfl 22 (by decide) (hts _ wd_696) (fun _ h9 => h9) rfl (by decide +kernel) rfl rfl (Nat.le_of_ble_eq_true rfl) dX11_odds_44 (fun H locs hP hD hS => ?_)
        have hw : wdH D z (mw ka h a (up N 0 5 0) C f g ++ R) H := ⟨Nat.le_trans hz0 hS.1, hP, hD⟩
        have loop47 : ∀ (fuel47 : Nat) (cn : Nat) (x : Nat), 2 ^ N 0 0 - x < fuel47 → (x ≤ 2 ^ N 0 0) → (cn = cntA (fun s => decide (n1 ≤ hld (up N 0 5 s) j 0 1)) x) → ∀ (H : Heap) (locs : List Loc), wdH D z (mw ka h a (up N 0 5 x) C f g ++ R) H → va_S (fun q => z ≤ q) s.heap H locs → ∀ ls : Array Slot, lv_has ls 6 [(0, .ref h), (1, .int (nI j)), (2, .int (nI n1)), (3, .int m1), (4, .int (nI cn)), (5, .int (nI (2 ^ (N 0 0))))] → W p l e (rmz 2 0 0) s m args below meth c H locs 0 0 Q (F0 m 47 ls []) := by
          intro fuel47
          induction fuel47 with
          | zero => intro cn x hfu; exact absurd hfu (Nat.not_lt_zero _)
          | succ fuel47 ih47 =>
            intro cn x hfu hx1 hcn H locs hw hS ls hl
            have hNx : x < 2 ^ N 0 0 → WF (up N 0 5 x) := fun q => WF.up05 (v := x) hN (by omega)
            have hcl : cn ≤ x := by rw [hcn]; exact cntA_le _ _
            refine lv_aload_n hx hb dX11_odds_47 rfl (lv_at hl 0 rfl) ?_
            refine va_get (D := D) (ci := 11) (v := .int (nI x)) (C := RX11) (T := TX11) (N := 35) hx hb hts inX11 hown hK hw.2.1 0 rfl rfl 22 (by decide) (hts _ wd_696) (fun _ h9 => h9) rfl dX11_odds_48 ?_
            refine lv_iload hx hb dX11_odds_51 (lv_at hl 5 rfl) ?_
            refine i_icmp_ge (tgt := 90) hx hb (nT (by omega)) (nT (by omega)) dX11_odds_53 (by decide) (fun c_7 => ?_) (fun c_7 => ?_)
            · refine lv_aload_n hx hb dX11_odds_90 rfl (lv_at hl 0 rfl) ?_
              refine lv_iconst (v := nI 0) hx hb dX11_odds_91 (by decide) ?_
              refine va_put (D := D) (ci := 11) (ty := .int) (C := RX11) (T := TX11) (N := 35) hx hb hts inX11 tyX11 tyX11_ok nmX11 hown hK hw.2.1 hw.2.2 hS 0 rfl rfl 22 (by decide) (hts _ wd_696) (fun _ h9 => h9) rfl (by decide +kernel) rfl rfl (Nat.le_of_ble_eq_true rfl) dX11_odds_92 (fun H locs hP hD hS => ?_)
              have hw : wdH D z (mw ka h a (up (up N 0 5 x) 0 5 0) C f g ++ R) H := ⟨Nat.le_trans hz0 hS.1, hP, hD⟩
              rw [up05_0 hL] at hw
              refine lv_iload hx hb dX11_odds_95 (lv_at hl 4 rfl) ?_
              refine lv_i2l (v := lN cn) hx hb dX11_odds_97 (nI_l (by omega)) ?_
              refine lv_iload hx hb dX11_odds_98 (lv_at hl 5 rfl) ?_
              refine lv_i2l (v := lN (2 ^ (N 0 0))) hx hb dX11_odds_100 (nI_l (by omega)) ?_
              refine lv_iload_n hx hb dX11_odds_101 rfl (lv_at hl 3 rfl) ?_
              refine vp_callSl (ro_runS (c_X11_inLeastTerms l D ka cn (2 ^ (N 0 0)) m1 _ hm1 (by omega) (by omega)) X wd_959 wd_957 wd_958 wd_8 on_X11_inLeastTerms ⟨Nat.le_of_ble_eq_true rfl, Nat.le_of_ble_eq_true rfl⟩ trivial hl.1 rfl (Nat.le_of_ble_eq_true rfl) ⟨(Nat.zero_le _), (Nat.zero_le _)⟩ dX11_odds_102) (fun r_8 hr_8 => ?_)
              subst hr_8
              refine hret _ _ _ _ _ _ _ _ dX11_odds_105 hS hw (Nat.zero_le _) (Nat.zero_le _) ?_
              refine ⟨f, g, N, C, rfl, ?_⟩
              unfold sp_odds
              rw [if_pos (by omega), hcn, show x = 2 ^ N 0 0 by omega]
              rfl
            · have hNx := hNx (by omega)
              refine lv_iload hx hb dX11_odds_56 (lv_at hl 4 rfl) ?_
              refine lv_aload_n hx hb dX11_odds_58 rfl (lv_at hl 0 rfl) ?_
              refine lv_iload_n hx hb dX11_odds_59 rfl (lv_at hl 1 rfl) ?_
              refine lv_iconst (v := nI 0) hx hb dX11_odds_60 (by decide) ?_
              refine lv_iconst (v := nI 1) hx hb dX11_odds_61 (by decide) ?_
              refine vp_callSi (ro_runV (c_X11_holdsBy l D ka h a (up N 0 5 x) C f g R j 0 1 (by omega) (by omega) (by omega) (show 0 < N 0 0 by omega) hNx) X wd_879 wd_876 wd_878 ws_14 wd_8 on_X11_holdsBy ⟨Nat.le_of_ble_eq_true rfl, Nat.le_of_ble_eq_true rfl⟩ (va_recv hK hw.2.1 (ci := 11) (q0 := 0) rfl rfl) hw.2.1 hl.1 rfl (Nat.le_of_ble_eq_true rfl) ⟨(Nat.zero_le _), (Nat.zero_le _)⟩ dX11_odds_62) (fun r_10 hr_10 => ?_)
              subst hr_10
              have hd_9 := hld_le (up N 0 5 x) j 0 1
              refine lv_iload_n hx hb dX11_odds_65 rfl (lv_at hl 2 rfl) ?_
              refine i_icmp_lt (tgt := 73) hx hb (nT (by omega)) (nT (by omega)) dX11_odds_66 (by decide) (fun c_11 => ?_) (fun c_11 => ?_)
              · refine lv_iconst (v := nI 0) hx hb dX11_odds_73 (by decide) ?_
                refine n_iadd hx hb dX11_odds_74 ?_
                refine lv_istore (lv' := [(4, .int (nI (cn + 0))), (0, .ref h), (1, .int (nI j)), (2, .int (nI n1)), (3, .int m1), (5, .int (nI (2 ^ (N 0 0))))]) hx hb dX11_odds_75 hl (by decide) rfl (fun ls hl => ?_)
                refine lv_aload_n hx hb dX11_odds_77 rfl (lv_at hl 1 rfl) ?_
                refine lv_dup hx hb dX11_odds_78 rfl ?_
                refine va_get (D := D) (ci := 11) (v := .int (nI x)) (C := RX11) (T := TX11) (N := 35) hx hb hts inX11 hown hK hw.2.1 0 rfl rfl 22 (by decide) (hts _ wd_696) (fun _ h9 => h9) rfl dX11_odds_79 ?_
                refine lv_iconst (v := nI 1) hx hb dX11_odds_82 (by decide) ?_
                refine n_iadd hx hb dX11_odds_83 ?_
                refine va_put (D := D) (ci := 11) (ty := .int) (C := RX11) (T := TX11) (N := 35) hx hb hts inX11 tyX11 tyX11_ok nmX11 hown hK hw.2.1 hw.2.2 hS 0 rfl rfl 22 (by decide) (hts _ wd_696) (fun _ h9 => h9) rfl (by decide +kernel) rfl rfl (Nat.le_of_ble_eq_true rfl) dX11_odds_84 (fun H locs hP hD hS => ?_)
                have hw : wdH D z (mw ka h a (up (up N 0 5 x) 0 5 (x + 1)) C f g ++ R) H := ⟨Nat.le_trans hz0 hS.1, hP, hD⟩
                rw [up_up] at hw
                refine lv_goto (tgt := 47) hx hb dX11_odds_87 (by decide) ?_
                exact ih47 (cn + 0) (x + 1) (by omega) (by omega) (by rw [cntA, ← hcn]; first | rw [if_pos (by simp; omega)] | rw [if_neg (by simp; omega)]) _ _ hw hS ls (lv_sub hl [1, 2, 3, 4, 0, 5] rfl)
              · refine lv_iconst (v := nI 1) hx hb dX11_odds_69 (by decide) ?_
                refine lv_goto (tgt := 74) hx hb dX11_odds_70 (by decide) ?_
                refine n_iadd hx hb dX11_odds_74 ?_
                refine lv_istore (lv' := [(4, .int (nI (cn + 1))), (0, .ref h), (1, .int (nI j)), (2, .int (nI n1)), (3, .int m1), (5, .int (nI (2 ^ (N 0 0))))]) hx hb dX11_odds_75 hl (by decide) rfl (fun ls hl => ?_)
                refine lv_aload_n hx hb dX11_odds_77 rfl (lv_at hl 1 rfl) ?_
                refine lv_dup hx hb dX11_odds_78 rfl ?_
                refine va_get (D := D) (ci := 11) (v := .int (nI x)) (C := RX11) (T := TX11) (N := 35) hx hb hts inX11 hown hK hw.2.1 0 rfl rfl 22 (by decide) (hts _ wd_696) (fun _ h9 => h9) rfl dX11_odds_79 ?_
                refine lv_iconst (v := nI 1) hx hb dX11_odds_82 (by decide) ?_
                refine n_iadd hx hb dX11_odds_83 ?_
                refine va_put (D := D) (ci := 11) (ty := .int) (C := RX11) (T := TX11) (N := 35) hx hb hts inX11 tyX11 tyX11_ok nmX11 hown hK hw.2.1 hw.2.2 hS 0 rfl rfl 22 (by decide) (hts _ wd_696) (fun _ h9 => h9) rfl (by decide +kernel) rfl rfl (Nat.le_of_ble_eq_true rfl) dX11_odds_84 (fun H locs hP hD hS => ?_)
                have hw : wdH D z (mw ka h a (up (up N 0 5 x) 0 5 (x + 1)) C f g ++ R) H := ⟨Nat.le_trans hz0 hS.1, hP, hD⟩
                rw [up_up] at hw
                refine lv_goto (tgt := 47) hx hb dX11_odds_87 (by decide) ?_
                exact ih47 (cn + 1) (x + 1) (by omega) (by omega) (by rw [cntA, ← hcn]; first | rw [if_pos (by simp; omega)] | rw [if_neg (by simp; omega)]) _ _ hw hS ls (lv_sub hl [1, 2, 3, 4, 0, 5] rfl)
        exact loop47 _ 0 0 (Nat.lt_succ_self _) (by omega) rfl _ _ hw hS ls (lv_sub hl [2, 3, 4, 5, 1, 0] rfl)
      · refine lv_ldc2 (v := (-9223372036854775808 : Int64)) hx hb hown (hts _ wd_956) dX11_odds_27 ?_
        refine hret _ _ _ _ _ _ _ _ dX11_odds_30 hS hw (Nat.zero_le _) (Nat.zero_le _) ?_
        refine ⟨f, g, N, C, rfl, ?_⟩
        unfold sp_odds
        try simp only [Int.toNat_natCast]
        (repeat' split) <;> first | rfl | omega
