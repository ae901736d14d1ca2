set_option maxRecDepth 100000 in
set_option maxHeartbeats 4000000 in
theorem c_X11_tell (l : Launch) (D : va_G) (ka : Nat → ClassId) (z : Nat) (h : Nat) (a : Nat → Nat) (N : Nat → Nat → Nat) (C : Nat → Nat → Int32) (f : Nat → Int32) (g : Nat → Nat → Int32) (R : va_W) (k : Int32) (K : Int) (hk : k.toInt = K) (hN : WF N) : MU l D ka z yX11_tell cX11_tell 3 (some .int) 1 0 0 [.ref h, .int k] (mw ka h a N C f g ++ R) (Qi D z (fun r w => ∃ f' g' N' C', w = mw ka h a N' C' f' g' ++ R ∧ (r, N', C') = sp_tell N C K)) := by
  refine MU.ofI (by decide) (Nat.le_of_ble_eq_true rfl) ?_
  intro p e s m args below meth c Q X hw hS hret ls hl
  obtain ⟨hx, hb, hml, hown, hts, hE⟩ := id X
  have hK := hE.1
  have hz0 := hw.1
  have hl : lv_has ls 3 [(0, .ref h), (1, .int k)] := hl
  have hN1 := hN.1
  refine lv_aload_n hx hb dX11_tell_0 rfl (lv_at hl 0 rfl) ?_
  refine lv_iload_n hx hb dX11_tell_1 rfl (lv_at hl 1 rfl) ?_
  refine vp_callSi (ro_runV (c_X11_isTaker l D ka h a N C f g R k _ hk hN) X wd_836 wd_833 wd_835 ws_11 wd_8 on_X11_isTaker ⟨Nat.le_of_ble_eq_true rfl, Nat.le_of_ble_eq_true rfl⟩ (va_recv hK hw.2.1 (ci := 11) (q0 := 0) rfl rfl) hw.2.1 hl.1 rfl (Nat.le_of_ble_eq_true rfl) ⟨(Nat.zero_le _), (Nat.zero_le _)⟩ dX11_tell_2) (fun r_1 hr_1 => ?_)
  subst hr_1
  refine b_if_ne (tgt := 10) hx hb dX11_tell_5 (by decide) (fun c_2 => ?_) (fun c_2 => ?_)
  · obtain ⟨j, hlt_j, rfl, rfl⟩ := nat_ofK (n := N 0 1) hk (by omega) (by omega)
    refine lv_aload_n hx hb dX11_tell_10 rfl (lv_at hl 0 rfl) ?_
    refine va_get (D := D) (ci := 11) (v := .ref (a 10)) (C := RX11) (T := TX11) (N := 35) hx hb hts inX11 hown hK hw.2.1 0 rfl rfl 10 (by decide) (hts _ wd_684) (fun _ h9 => h9) rfl dX11_tell_11 ?_
    refine lv_iload_n hx hb dX11_tell_14 rfl (lv_at hl 1 rfl) ?_
    refine n_iald hx hb hK hw.2.1 6 0 rfl rfl (k := j) (by omega) (by decide) dX11_tell_15 ?_
    have hv_3 : N 3 j ≤ 99 := hN.2.2.2.1 j
    refine lv_istore_n (lv' := [(2, .int (nI (N 3 j))), (0, .ref h), (1, .int (nI j))]) hx hb dX11_tell_16 rfl hl (by decide) rfl (fun ls hl => ?_)
    refine lv_aload_n hx hb dX11_tell_17 rfl (lv_at hl 1 rfl) ?_
    refine va_get (D := D) (ci := 11) (v := .ref (a 9)) (C := RX11) (T := TX11) (N := 35) hx hb hts inX11 hown hK hw.2.1 0 rfl rfl 9 (by decide) (hts _ wd_683) (fun _ h9 => h9) rfl dX11_tell_18 ?_
    refine lv_iload_n hx hb dX11_tell_21 rfl (lv_at hl 2 rfl) ?_
    refine n_iald hx hb hK hw.2.1 5 0 rfl rfl (k := j) (by omega) (by decide) dX11_tell_22 ?_
    have hv_4 : N 2 j ≤ 2 := hN.2.2.1 j
    have hT_5 : (nI (N 2 j)).toInt = ((N 2 j : Nat) : Int) := (nT (by omega))
    by_cases cs_6 : ((N 2 j : Nat) : Int) = 1
    · refine lv_lookup (off := 25) (tgt := 48) hx hb dX11_tell_23 (by decide) (by rw [hT_5, cs_6]; rfl) (by decide) ?_
      refine lv_aload_n hx hb dX11_tell_48 rfl (lv_at hl 1 rfl) ?_
      refine lv_iconst (v := nI 2) hx hb dX11_tell_49 (by decide) ?_
      refine mu_v (mu_runV (c_X11_begins l D ka z h a N C f g R 2) X wd_991 wd_988 wd_990 ws_23 wd_8 on_X11_begins ⟨Nat.le_of_ble_eq_true rfl, Nat.le_of_ble_eq_true rfl⟩ (va_recv hK hw.2.1 (ci := 11) (q0 := 0) rfl rfl) hw hl.1 rfl (Nat.le_of_ble_eq_true rfl) ⟨Nat.le_of_ble_eq_true rfl, Nat.le_of_ble_eq_true rfl⟩ dX11_tell_50) hS (fun u_7 H locs hp_u_7 hw hS => ?_)
      subst hp_u_7
      refine lv_aload_n hx hb dX11_tell_53 rfl (lv_at hl 1 rfl) ?_
      refine lv_iconst (v := nI 1) hx hb dX11_tell_54 (by decide) ?_
      refine mu_v (mu_runV (c_X11_begins l D ka z h a N (tC C 2) f g R 1) X wd_991 wd_988 wd_990 ws_23 wd_8 on_X11_begins ⟨Nat.le_of_ble_eq_true rfl, Nat.le_of_ble_eq_true rfl⟩ (va_recv hK hw.2.1 (ci := 11) (q0 := 0) rfl rfl) hw hl.1 rfl (Nat.le_of_ble_eq_true rfl) ⟨Nat.le_of_ble_eq_true rfl, Nat.le_of_ble_eq_true rfl⟩ dX11_tell_55) hS (fun u_8 H locs hp_u_8 hw hS => ?_)
      subst hp_u_8
      refine lv_iload_n hx hb dX11_tell_58 rfl (lv_at hl 0 rfl) ?_
      refine lv_bipush (v := nI 100) hx hb dX11_tell_59 (by decide) ?_
      refine n_iadd hx hb dX11_tell_61 ?_
      refine hret _ _ _ _ _ _ _ _ dX11_tell_62 hS hw (Nat.zero_le _) (Nat.zero_le _) ?_
      refine ⟨f, g, N, (tC (tC C 2) 1), rfl, ?_⟩
      unfold sp_tell
      try simp only [Int.toNat_natCast]
      (repeat' split) <;> first | rfl | omega
    by_cases cs_9 : ((N 2 j : Nat) : Int) = 2
    · refine lv_lookup (off := 40) (tgt := 63) hx hb dX11_tell_23 (by decide) (by rw [hT_5, cs_9]; rfl) (by decide) ?_
      refine lv_aload_n hx hb dX11_tell_63 rfl (lv_at hl 1 rfl) ?_
      refine lv_iconst (v := nI 3) hx hb dX11_tell_64 (by decide) ?_
      refine mu_v (mu_runV (c_X11_begins l D ka z h a N C f g R 3) X wd_991 wd_988 wd_990 ws_23 wd_8 on_X11_begins ⟨Nat.le_of_ble_eq_true rfl, Nat.le_of_ble_eq_true rfl⟩ (va_recv hK hw.2.1 (ci := 11) (q0 := 0) rfl rfl) hw hl.1 rfl (Nat.le_of_ble_eq_true rfl) ⟨Nat.le_of_ble_eq_true rfl, Nat.le_of_ble_eq_true rfl⟩ dX11_tell_65) hS (fun u_10 H locs hp_u_10 hw hS => ?_)
      subst hp_u_10
      refine lv_aload_n hx hb dX11_tell_68 rfl (lv_at hl 1 rfl) ?_
      refine lv_iconst (v := nI 2) hx hb dX11_tell_69 (by decide) ?_
      refine mu_v (mu_runV (c_X11_begins l D ka z h a N (tC C 3) f g R 2) X wd_991 wd_988 wd_990 ws_23 wd_8 on_X11_begins ⟨Nat.le_of_ble_eq_true rfl, Nat.le_of_ble_eq_true rfl⟩ (va_recv hK hw.2.1 (ci := 11) (q0 := 0) rfl rfl) hw hl.1 rfl (Nat.le_of_ble_eq_true rfl) ⟨Nat.le_of_ble_eq_true rfl, Nat.le_of_ble_eq_true rfl⟩ dX11_tell_70) hS (fun u_11 H locs hp_u_11 hw hS => ?_)
      subst hp_u_11
      refine lv_aload_n hx hb dX11_tell_73 rfl (lv_at hl 1 rfl) ?_
      refine lv_iconst (v := nI 1) hx hb dX11_tell_74 (by decide) ?_
      refine mu_v (mu_runV (c_X11_begins l D ka z h a N (tC (tC C 3) 2) f g R 1) X wd_991 wd_988 wd_990 ws_23 wd_8 on_X11_begins ⟨Nat.le_of_ble_eq_true rfl, Nat.le_of_ble_eq_true rfl⟩ (va_recv hK hw.2.1 (ci := 11) (q0 := 0) rfl rfl) hw hl.1 rfl (Nat.le_of_ble_eq_true rfl) ⟨Nat.le_of_ble_eq_true rfl, Nat.le_of_ble_eq_true rfl⟩ dX11_tell_75) hS (fun u_12 H locs hp_u_12 hw hS => ?_)
      subst hp_u_12
      refine lv_aload_n hx hb dX11_tell_78 rfl (lv_at hl 1 rfl) ?_
      refine lv_iconst (v := nI 1) hx hb dX11_tell_79 (by decide) ?_
      refine mu_v (mu_runV (c_X11_begins l D ka z h a N (tC (tC (tC C 3) 2) 1) f g R 1) X wd_991 wd_988 wd_990 ws_23 wd_8 on_X11_begins ⟨Nat.le_of_ble_eq_true rfl, Nat.le_of_ble_eq_true rfl⟩ (va_recv hK hw.2.1 (ci := 11) (q0 := 0) rfl rfl) hw hl.1 rfl (Nat.le_of_ble_eq_true rfl) ⟨Nat.le_of_ble_eq_true rfl, Nat.le_of_ble_eq_true rfl⟩ dX11_tell_80) hS (fun u_13 H locs hp_u_13 hw hS => ?_)
      subst hp_u_13
      refine lv_iconst (v := nI 2) hx hb dX11_tell_83 (by decide) ?_
      refine lv_iload_n hx hb dX11_tell_84 rfl (lv_at hl 0 rfl) ?_
      refine n_imul hx hb dX11_tell_85 ?_
      refine lv_bipush (v := nI 100) hx hb dX11_tell_86 (by decide) ?_
      refine n_iadd hx hb dX11_tell_88 ?_
      refine hret _ _ _ _ _ _ _ _ dX11_tell_89 hS hw (Nat.zero_le _) (Nat.zero_le _) ?_
      refine ⟨f, g, N, (tC (tC (tC (tC C 3) 2) 1) 1), rfl, ?_⟩
      unfold sp_tell
      try simp only [Int.toNat_natCast]
      (repeat' split) <;> first | rfl | omega
    have cs_14 : ((N 2 j : Nat) : Int) = 0 := by omega
    refine lv_lookup (off := 67) (tgt := 90) hx hb dX11_tell_23 (by decide) (by rw [hT_5, cs_14]; rfl) (by decide) ?_
    refine lv_aload_n hx hb dX11_tell_90 rfl (lv_at hl 1 rfl) ?_
    refine lv_iconst (v := nI 1) hx hb dX11_tell_91 (by decide) ?_
    refine mu_v (mu_runV (c_X11_begins l D ka z h a N C f g R 1) X wd_991 wd_988 wd_990 ws_23 wd_8 on_X11_begins ⟨Nat.le_of_ble_eq_true rfl, Nat.le_of_ble_eq_true rfl⟩ (va_recv hK hw.2.1 (ci := 11) (q0 := 0) rfl rfl) hw hl.1 rfl (Nat.le_of_ble_eq_true rfl) ⟨Nat.le_of_ble_eq_true rfl, Nat.le_of_ble_eq_true rfl⟩ dX11_tell_92) hS (fun u_15 H locs hp_u_15 hw hS => ?_)
    subst hp_u_15
    refine lv_iload_n hx hb dX11_tell_95 rfl (lv_at hl 0 rfl) ?_
    refine hret _ _ _ _ _ _ _ _ dX11_tell_96 hS hw (Nat.zero_le _) (Nat.zero_le _) ?_
    refine ⟨f, g, N, (tC C 1), rfl, ?_⟩
    unfold sp_tell
    try simp only [Int.toNat_natCast]
    (repeat' split) <;> first | rfl | omega
  · refine lv_iconst (v := (-1)) hx hb dX11_tell_8 (by decide) ?_
    refine hret _ _ _ _ _ _ _ _ dX11_tell_9 hS hw (Nat.zero_le _) (Nat.zero_le _) ?_
    refine ⟨f, g, N, C, rfl, ?_⟩
    unfold sp_tell
    try simp only [Int.toNat_natCast]
    (repeat' split) <;> first | rfl | omega
set_option maxRecDepth 100000 in
set_option maxHeartbeats 4000000 in
theorem c_X11_ring (l : Launch) (D : va_G) (ka : Nat → ClassId) (z : Nat) (h : Nat) (a : Nat → Nat) (N : Nat → Nat → Nat) (C : Nat → Nat → Int32) (f : Nat → Int32) (g : Nat → Nat → Int32) (R : va_W) (k : Int32) (K : Int) (hk : k.toInt = K) (hN : WF N) : MU l D ka z yX11_ring cX11_ring 2 (some .int) 1 0 0 [.ref h, .int k] (mw ka h a N C f g ++ R) (Qi D z (fun r w => ∃ f' g' N' C', w = mw ka h a N' C' f' g' ++ R ∧ (r, N', C') = sp_ring N C K)) := by
  refine MU.ofI (by decide) (Nat.le_of_ble_eq_true rfl) ?_
  intro p e s m args below meth c Q X hw hS hret ls hl
  obtain ⟨hx, hb, hml, hown, hts, hE⟩ := id X
  have hK := hE.1
  have hz0 := hw.1
  have hl : lv_has ls 2 [(0, .ref h), (1, .int k)] := hl
  have hN1 := hN.1
  refine lv_aload_n hx hb dX11_ring_0 rfl (lv_at hl 0 rfl) ?_
  refine lv_iload_n hx hb dX11_ring_1 rfl (lv_at hl 1 rfl) ?_
  refine vp_callSi (ro_runV (c_X11_isTaker l D ka h a N C f g R k _ hk hN) X wd_836 wd_833 wd_835 ws_11 wd_8 on_X11_isTaker ⟨Nat.le_of_ble_eq_true rfl, Nat.le_of_ble_eq_true rfl⟩ (va_recv hK hw.2.1 (ci := 11) (q0 := 0) rfl rfl) hw.2.1 hl.1 rfl (Nat.le_of_ble_eq_true rfl) ⟨(Nat.zero_le _), (Nat.zero_le _)⟩ dX11_ring_2) (fun r_1 hr_1 => ?_)
  subst hr_1
  refine b_if_ne (tgt := 10) hx hb dX11_ring_5 (by decide) (fun c_2 => ?_) (fun c_2 => ?_)
  · obtain ⟨j, hlt_j, rfl, rfl⟩ := nat_ofK (n := N 0 1) hk (by omega) (by omega)
    refine lv_aload_n hx hb dX11_ring_10 rfl (lv_at hl 0 rfl) ?_
    refine lv_aload_n hx hb dX11_ring_11 rfl (lv_at hl 0 rfl) ?_
    refine va_get (D := D) (ci := 11) (v := .ref (a 9)) (C := RX11) (T := TX11) (N := 35) hx hb hts inX11 hown hK hw.2.1 0 rfl rfl 9 (by decide) (hts _ wd_683) (fun _ h9 => h9) rfl dX11_ring_12 ?_
    refine lv_iload_n hx hb dX11_ring_15 rfl (lv_at hl 1 rfl) ?_
    refine n_iald hx hb hK hw.2.1 5 0 rfl rfl (k := j) (by omega) (by decide) dX11_ring_16 ?_
    have hv_3 : N 2 j ≤ 2 := hN.2.2.1 j
    refine lv_iconst (v := nI 2) hx hb dX11_ring_17 (by decide) ?_
    refine i_icmp_ne (tgt := 25) hx hb (nT (by omega)) (nT (by decide)) dX11_ring_18 (by decide) (fun c_4 => ?_) (fun c_4 => ?_)
    · refine lv_iconst (v := nI 4) hx hb dX11_ring_25 (by decide) ?_
      refine mu_v (mu_runV (c_X11_begins l D ka z h a N C f g R 4) X wd_991 wd_988 wd_990 ws_23 wd_8 on_X11_begins ⟨Nat.le_of_ble_eq_true rfl, Nat.le_of_ble_eq_true rfl⟩ (va_recv hK hw.2.1 (ci := 11) (q0 := 0) rfl rfl) hw hl.1 rfl (Nat.le_of_ble_eq_true rfl) ⟨Nat.le_of_ble_eq_true rfl, Nat.le_of_ble_eq_true rfl⟩ dX11_ring_26) hS (fun u_5 H locs hp_u_5 hw hS => ?_)
      subst hp_u_5
      refine lv_aload_n hx hb dX11_ring_29 rfl (lv_at hl 0 rfl) ?_
      refine va_get (D := D) (ci := 11) (v := .ref (a 9)) (C := RX11) (T := TX11) (N := 35) hx hb hts inX11 hown hK hw.2.1 0 rfl rfl 9 (by decide) (hts _ wd_683) (fun _ h9 => h9) rfl dX11_ring_30 ?_
      refine lv_iload_n hx hb dX11_ring_33 rfl (lv_at hl 1 rfl) ?_
      refine n_iald hx hb hK hw.2.1 5 0 rfl rfl (k := j) (by omega) (by decide) dX11_ring_34 ?_
      have hv_6 : N 2 j ≤ 2 := hN.2.2.1 j
      refine lv_iconst (v := nI 2) hx hb dX11_ring_35 (by decide) ?_
      refine i_icmp_ne (tgt := 44) hx hb (nT (by omega)) (nT (by decide)) dX11_ring_36 (by decide) (fun c_7 => ?_) (fun c_7 => ?_)
      · refine lv_iload_n hx hb dX11_ring_44 rfl (lv_at hl 1 rfl) ?_
        refine hret _ _ _ _ _ _ _ _ dX11_ring_45 hS hw (Nat.zero_le _) (Nat.zero_le _) ?_
        refine ⟨f, g, N, (tC C 4), rfl, ?_⟩
        unfold sp_ring
        try simp only [Int.toNat_natCast]
        (repeat' split) <;> first | rfl | omega
      · refine lv_bipush (v := nI 40) hx hb dX11_ring_39 (by decide) ?_
        refine lv_goto (tgt := 45) hx hb dX11_ring_41 (by decide) ?_
        refine hret _ _ _ _ _ _ _ _ dX11_ring_45 hS hw (Nat.zero_le _) (Nat.zero_le _) ?_
        refine ⟨f, g, N, (tC C 4), rfl, ?_⟩
        unfold sp_ring
        try simp only [Int.toNat_natCast]
        (repeat' split) <;> first | rfl | omega
    · refine lv_iconst (v := nI 5) hx hb dX11_ring_21 (by decide) ?_
      refine lv_goto (tgt := 26) hx hb dX11_ring_22 (by decide) ?_
      refine mu_v (mu_runV (c_X11_begins l D ka z h a N C f g R 5) X wd_991 wd_988 wd_990 ws_23 wd_8 on_X11_begins ⟨Nat.le_of_ble_eq_true rfl, Nat.le_of_ble_eq_true rfl⟩ (va_recv hK hw.2.1 (ci := 11) (q0 := 0) rfl rfl) hw hl.1 rfl (Nat.le_of_ble_eq_true rfl) ⟨Nat.le_of_ble_eq_true rfl, Nat.le_of_ble_eq_true rfl⟩ dX11_ring_26) hS (fun u_8 H locs hp_u_8 hw hS => ?_)
      subst hp_u_8
      refine lv_aload_n hx hb dX11_ring_29 rfl (lv_at hl 0 rfl) ?_
      refine va_get (D := D) (ci := 11) (v := .ref (a 9)) (C := RX11) (T := TX11) (N := 35) hx hb hts inX11 hown hK hw.2.1 0 rfl rfl 9 (by decide) (hts _ wd_683) (fun _ h9 => h9) rfl dX11_ring_30 ?_
      refine lv_iload_n hx hb dX11_ring_33 rfl (lv_at hl 1 rfl) ?_
      refine n_iald hx hb hK hw.2.1 5 0 rfl rfl (k := j) (by omega) (by decide) dX11_ring_34 ?_
      have hv_9 : N 2 j ≤ 2 := hN.2.2.1 j
      refine lv_iconst (v := nI 2) hx hb dX11_ring_35 (by decide) ?_
      refine i_icmp_ne (tgt := 44) hx hb (nT (by omega)) (nT (by decide)) dX11_ring_36 (by decide) (fun c_10 => ?_) (fun c_10 => ?_)
      · refine lv_iload_n hx hb dX11_ring_44 rfl (lv_at hl 1 rfl) ?_
        refine hret _ _ _ _ _ _ _ _ dX11_ring_45 hS hw (Nat.zero_le _) (Nat.zero_le _) ?_
        refine ⟨f, g, N, (tC C 5), rfl, ?_⟩
        unfold sp_ring
        try simp only [Int.toNat_natCast]
        (repeat' split) <;> first | rfl | omega
      · refine lv_bipush (v := nI 40) hx hb dX11_ring_39 (by decide) ?_
        refine lv_goto (tgt := 45) hx hb dX11_ring_41 (by decide) ?_
        refine hret _ _ _ _ _ _ _ _ dX11_ring_45 hS hw (Nat.zero_le _) (Nat.zero_le _) ?_
        refine ⟨f, g, N, (tC C 5), rfl, ?_⟩
        unfold sp_ring
        try simp only [Int.toNat_natCast]
        (repeat' split) <;> first | rfl | omega
  · refine lv_iconst (v := (-1)) hx hb dX11_ring_8 (by decide) ?_
    refine hret _ _ _ _ _ _ _ _ dX11_ring_9 hS hw (Nat.zero_le _) (Nat.zero_le _) ?_
    refine ⟨f, g, N, C, rfl, ?_⟩
    unfold sp_ring
    try simp only [Int.toNat_natCast]
    (repeat' split) <;> first | rfl | omega
set_option maxRecDepth 100000 in
set_option maxHeartbeats 4000000 in
theorem c_X11_as (l : Launch) (D : va_G) (ka : Nat → ClassId) (z : Nat) (h : Nat) (a : Nat → Nat) (N : Nat → Nat → Nat) (C : Nat → Nat → Int32) (f : Nat → Int32) (g : Nat → Nat → Int32) (R : va_W) (k q : Int32) (K q2 : Int) (hk : k.toInt = K) (hq : q.toInt = q2) (hN : WF N) : MU l D ka z yX11_as cX11_as 3 (some .int) 1 0 0 [.ref h, .int k, .int q] (mw ka h a N C f g ++ R) (Qi D z (fun r w => ∃ f' g' N' C', w = mw ka h a N' C' f' g' ++ R ∧ (r, N', C') = sp_as N C K q2)) := by
  refine MU.ofI (by decide) (Nat.le_of_ble_eq_true rfl) ?_
  intro p e s m args below meth c Q X hw hS hret ls hl
  obtain ⟨hx, hb, hml, hown, hts, hE⟩ := id X
  have hK := hE.1
  have hz0 := hw.1
  have hl : lv_has ls 3 [(0, .ref h), (1, .int k), (2, .int q)] := hl
  have hN1 := hN.1
  refine lv_aload_n hx hb dX11_as_0 rfl (lv_at hl 0 rfl) ?_
  refine lv_iconst (v := nI 0) hx hb dX11_as_1 (by decide) ?_
  refine va_put (D := D) (ci := 11) (ty := .int) (C := RX11) (T := TX11) (N := 35) hx hb hts inX11 tyX11 tyX11_ok nmX11 hown hK hw.2.1 hw.2.2 hS 0 rfl rfl 0 (by decide) (hts _ wd_674) (fun _ h9 => h9) rfl (by decide +kernel) rfl rfl (Nat.le_of_ble_eq_true rfl) dX11_as_2 (fun H locs hP hD hS => ?_)
  have hw : wdH D z (mw ka h a (up N 0 4 0) C f g ++ R) H := ⟨Nat.le_trans hz0 hS.1, hP, hD⟩
  refine lv_aload_n hx hb dX11_as_5 rfl (lv_at hl 0 rfl) ?_
  refine lv_iload_n hx hb dX11_as_6 rfl (lv_at hl 1 rfl) ?_
  refine vp_callSi (ro_runV (c_X11_isTaker l D ka h a (up N 0 4 0) C f g R k _ hk (WF.up04 (v := 0) hN (by omega))) X wd_836 wd_833 wd_835 ws_11 wd_8 on_X11_isTaker ⟨Nat.le_of_ble_eq_true rfl, Nat.le_of_ble_eq_true rfl⟩ (va_recv hK hw.2.1 (ci := 11) (q0 := 0) rfl rfl) hw.2.1 hl.1 rfl (Nat.le_of_ble_eq_true rfl) ⟨(Nat.zero_le _), (Nat.zero_le _)⟩ dX11_as_7) (fun r_1 hr_1 => ?_)
  subst hr_1
  refine W.eq (g2 := F0 m 10 ls [.int (bI (0 ≤ K ∧ K < ((N 0 1 : Nat) : Int)))]) rfl ?_
  refine b_if_ne (tgt := 15) hx hb dX11_as_10 (by decide) (fun c_2 => ?_) (fun c_2 => ?_)
  · obtain ⟨j, hlt_j, rfl, rfl⟩ := nat_ofK (n := N 0 1) hk (by omega) (by omega)
    refine lv_iload_n hx hb dX11_as_15 rfl (lv_at hl 2 rfl) ?_
    refine lv_iconst (v := nI 0) hx hb dX11_as_16 (by decide) ?_
    refine lv_iconst (v := nI 2) hx hb dX11_as_17 (by decide) ?_
    refine vp_callSi (ro_runS (c_X11_within l D ka q (nI 0) (nI 2) _ _ _ hq (nT (by decide)) (nT (by decide))) X wd_789 wd_787 wd_788 wd_8 on_X11_within ⟨Nat.le_of_ble_eq_true rfl, Nat.le_of_ble_eq_true rfl⟩ trivial hl.1 rfl (Nat.le_of_ble_eq_true rfl) ⟨(Nat.zero_le _), (Nat.zero_le _)⟩ dX11_as_18) (fun r_3 hr_3 => ?_)
    subst hr_3
    refine b_if_ne (tgt := 27) hx hb dX11_as_21 (by decide) (fun c_4 => ?_) (fun c_4 => ?_)
    · refine lv_aload_n hx hb dX11_as_27 rfl (lv_at hl 0 rfl) ?_
      refine va_get (D := D) (ci := 11) (v := .ref (a 9)) (C := RX11) (T := TX11) (N := 35) hx hb hts inX11 hown hK hw.2.1 0 rfl rfl 9 (by decide) (hts _ wd_683) (fun _ h9 => h9) rfl dX11_as_28 ?_
      refine lv_iload_n hx hb dX11_as_31 rfl (lv_at hl 1 rfl) ?_
      refine n_iald hx hb hK hw.2.1 5 0 rfl rfl (k := j) (by omega) (by decide) dX11_as_32 ?_
      have hv_5 : N 2 j ≤ 2 := hN.2.2.1 j
      refine W.eq (g2 := F0 m 33 ls [.int (nI (N 2 j))]) rfl ?_
      refine lv_iload_n hx hb dX11_as_33 rfl (lv_at hl 2 rfl) ?_
      refine i_icmp_lt (tgt := 41) hx hb (nT (by omega)) hq dX11_as_34 (by decide) (fun c_6 => ?_) (fun c_6 => ?_)
      · refine lv_aload_n hx hb dX11_as_41 rfl (lv_at hl 0 rfl) ?_
        refine lv_iconst (v := nI 2) hx hb dX11_as_42 (by decide) ?_
        refine mu_i (mu_runV (c_X11_fails l D ka z h a (up N 0 4 0) C f g R 2 (by omega) (WF.up04 (v := 0) hN (by omega))) X wd_800 wd_797 wd_799 ws_3 wd_8 on_X11_fails ⟨Nat.le_of_ble_eq_true rfl, Nat.le_of_ble_eq_true rfl⟩ (va_recv hK hw.2.1 (ci := 11) (q0 := 0) rfl rfl) hw hl.1 rfl (Nat.le_of_ble_eq_true rfl) ⟨Nat.le_of_ble_eq_true rfl, Nat.le_of_ble_eq_true rfl⟩ dX11_as_43) hS (fun r_8 u_7 H locs hp_u_7 hw hS => ?_)
        obtain ⟨rfl, rfl⟩ := hp_u_7
        refine hret _ _ _ _ _ _ _ _ dX11_as_46 hS hw (Nat.zero_le _) (Nat.zero_le _) ?_
        refine ⟨f, g, (up (up N 0 4 0) 0 4 2), C, rfl, ?_⟩
        unfold sp_as
        try simp only [Int.toNat_natCast]
        (repeat' split) <;> first | rfl | omega
      · refine lv_iconst (v := nI 1) hx hb dX11_as_37 (by decide) ?_
        refine lv_goto (tgt := 46) hx hb dX11_as_38 (by decide) ?_
        refine hret _ _ _ _ _ _ _ _ dX11_as_46 hS hw (Nat.zero_le _) (Nat.zero_le _) ?_
        refine ⟨f, g, (up N 0 4 0), C, rfl, ?_⟩
        unfold sp_as
        try simp only [Int.toNat_natCast]
        (repeat' split) <;> first | rfl | omega
    · refine lv_bipush (v := (-2)) hx hb dX11_as_24 (by decide) ?_
      refine hret _ _ _ _ _ _ _ _ dX11_as_26 hS hw (Nat.zero_le _) (Nat.zero_le _) ?_
      refine ⟨f, g, (up N 0 4 0), C, rfl, ?_⟩
      unfold sp_as
      try simp only [Int.toNat_natCast]
      (repeat' split) <;> first | rfl | omega
  · refine lv_iconst (v := (-1)) hx hb dX11_as_13 (by decide) ?_
    refine hret _ _ _ _ _ _ _ _ dX11_as_14 hS hw (Nat.zero_le _) (Nat.zero_le _) ?_
    refine ⟨f, g, (up N 0 4 0), C, rfl, ?_⟩
    unfold sp_as
    try simp only [Int.toNat_natCast]
    (repeat' split) <;> first | rfl | omega
set_option maxRecDepth 100000 in
set_option maxHeartbeats 4000000 in
theorem c_X11_sheet (l : Launch) (D : va_G) (ka : Nat → ClassId) (z : Nat) (h : Nat) (a : Nat → Nat) (N : Nat → Nat → Nat) (C : Nat → Nat → Int32) (f : Nat → Int32) (g : Nat → Nat → Int32) (R : va_W) (k q m1 : Int32) (K q2 m2 : Int) (hk : k.toInt = K) (hq : q.toInt = q2) (hm1 : m1.toInt = m2) (hN : WF N) : MU l D ka z yX11_sheet cX11_sheet 5 (some .int) 2 0 0 [.ref h, .int k, .int q, .int m1] (mw ka h a N C f g ++ R) (Qi D z (fun r w => ∃ f' g' N' C', w = mw ka h a N' C' f' g' ++ R ∧ (r, N', C') = sp_sheet N C K q2 m2)) := by
  refine MU.ofI (by decide) (Nat.le_of_ble_eq_true rfl) ?_
  intro p e s m args below meth c Q X hw hS hret ls hl
  obtain ⟨hx, hb, hml, hown, hts, hE⟩ := id X
  have hK := hE.1
  have hz0 := hw.1
  have hl : lv_has ls 5 [(0, .ref h), (1, .int k), (2, .int q), (3, .int m1)] := hl
  have hN1 := hN.1
  refine lv_aload_n hx hb dX11_sheet_0 rfl (lv_at hl 0 rfl) ?_
  refine lv_iconst (v := nI 0) hx hb dX11_sheet_1 (by decide) ?_
  refine va_put (D := D) (ci := 11) (ty := .int) (C := RX11) (T := TX11) (N := 35) hx hb hts inX11 tyX11 tyX11_ok nmX11 hown hK hw.2.1 hw.2.2 hS 0 rfl rfl 0 (by decide) (hts _ wd_674) (fun _ h9 => h9) rfl (by decide +kernel) rfl rfl (Nat.le_of_ble_eq_true rfl) dX11_sheet_2 (fun H locs hP hD hS => ?_)
  have hw : wdH D z (mw ka h a (up N 0 4 0) C f g ++ R) H := ⟨Nat.le_trans hz0 hS.1, hP, hD⟩
  refine lv_iload_n hx hb dX11_sheet_5 rfl (lv_at hl 1 rfl) ?_
  refine vp_callSi (ro_runS (c_X11_isSheet l D ka k _ hk) X wd_786 wd_784 wd_785 wd_8 on_X11_isSheet ⟨Nat.le_of_ble_eq_true rfl, Nat.le_of_ble_eq_true rfl⟩ trivial hl.1 rfl (Nat.le_of_ble_eq_true rfl) ⟨(Nat.zero_le _), (Nat.zero_le _)⟩ dX11_sheet_6) (fun r_1 hr_1 => ?_)
  subst hr_1
  refine b_if_ne (tgt := 14) hx hb dX11_sheet_9 (by decide) (fun c_2 => ?_) (fun c_2 => ?_)
  · refine lv_iload_n hx hb dX11_sheet_14 rfl (lv_at hl 2 rfl) ?_
    refine vp_callSi (ro_runS (c_X11_isSort l D ka q _ hq) X wd_792 wd_790 wd_791 wd_8 on_X11_isSort ⟨Nat.le_of_ble_eq_true rfl, Nat.le_of_ble_eq_true rfl⟩ trivial hl.1 rfl (Nat.le_of_ble_eq_true rfl) ⟨(Nat.zero_le _), (Nat.zero_le _)⟩ dX11_sheet_15) (fun r_3 hr_3 => ?_)
    subst hr_3
    refine b_if_eq (tgt := 27) hx hb dX11_sheet_18 (by decide) (fun c_4 => ?_) (fun c_4 => ?_)
    · refine lv_bipush (v := (-2)) hx hb dX11_sheet_27 (by decide) ?_
      refine hret _ _ _ _ _ _ _ _ dX11_sheet_29 hS hw (Nat.zero_le _) (Nat.zero_le _) ?_
      refine ⟨f, g, (up N 0 4 0), C, rfl, ?_⟩
      unfold sp_sheet
      try simp only [Int.toNat_natCast]
      (repeat' split) <;> first | rfl | omega
    · refine lv_iload_n hx hb dX11_sheet_21 rfl (lv_at hl 3 rfl) ?_
      refine lv_bipush (v := nI 60) hx hb dX11_sheet_22 (by decide) ?_
      refine i_icmp_le (tgt := 30) hx hb hm1 (nT (by decide)) dX11_sheet_24 (by decide) (fun c_5 => ?_) (fun c_5 => ?_)
      · refine lv_iload_n hx hb dX11_sheet_30 rfl (lv_at hl 3 rfl) ?_
        refine i_if_ge (tgt := 40) hx hb hm1 dX11_sheet_31 (by decide) (fun c_6 => ?_) (fun c_6 => ?_)
        · obtain ⟨j, hlt_j, rfl, rfl⟩ := nat_ofK (n := 4) hk (by omega) (by omega)
          obtain ⟨i, hlt_i, rfl, rfl⟩ := nat_ofK (n := 3) hq (by omega) (by omega)
          obtain ⟨t, hlt_t, rfl, rfl⟩ := nat_ofK (n := 61) hm1 (by omega) (by omega)
          refine lv_aload_n hx hb dX11_sheet_40 rfl (lv_at hl 0 rfl) ?_
          refine va_get (D := D) (ci := 11) (v := .ref (a 2)) (C := RX11) (T := TX11) (N := 35) hx hb hts inX11 hown hK hw.2.1 0 rfl rfl 2 (by decide) (hts _ wd_676) (fun _ h9 => h9) rfl dX11_sheet_41 ?_
          refine lv_iload_n hx hb dX11_sheet_44 rfl (lv_at hl 1 rfl) ?_
          refine lv_iload_n hx hb dX11_sheet_45 rfl (lv_at hl 2 rfl) ?_
          refine n_iast hx hb hK hw.2.1 hw.2.2 hS 1 0 (φ := srt) (u := (up N 0 4 0) 9) (v := i) rfl rfl (k := j) (srt_of (by omega)) (by omega) (by decide) dX11_sheet_46 (fun H locs hP hD hS => ?_)
          have hw : wdH D z (mw ka h a (up (up N 0 4 0) 9 j i) C f g ++ R) H := ⟨Nat.le_trans hz0 hS.1, hP, hD⟩
          refine lv_aload_n hx hb dX11_sheet_47 rfl (lv_at hl 0 rfl) ?_
          refine va_get (D := D) (ci := 11) (v := .ref (a 3)) (C := RX11) (T := TX11) (N := 35) hx hb hts inX11 hown hK hw.2.1 0 rfl rfl 3 (by decide) (hts _ wd_677) (fun _ h9 => h9) rfl dX11_sheet_48 ?_
          refine lv_iload_n hx hb dX11_sheet_51 rfl (lv_at hl 1 rfl) ?_
          refine lv_iload_n hx hb dX11_sheet_52 rfl (lv_at hl 3 rfl) ?_
          refine n_iast hx hb hK hw.2.1 hw.2.2 hS 2 0 (φ := nI) (u := (up (up N 0 4 0) 9 j i) 10) (v := t) rfl rfl (k := j) rfl (by omega) (by decide) dX11_sheet_53 (fun H locs hP hD hS => ?_)
          have hw : wdH D z (mw ka h a (up (up (up N 0 4 0) 9 j i) 10 j t) C f g ++ R) H := ⟨Nat.le_trans hz0 hS.1, hP, hD⟩
          refine lv_iconst (v := nI 0) hx hb dX11_sheet_54 (by decide) ?_
          refine lv_istore (lv' := [(4, .int (nI 0)), (0, .ref h), (1, .int (nI j)), (2, .int (nI i)), (3, .int (nI t))]) hx hb dX11_sheet_55 hl (by decide) rfl (fun ls hl => ?_)
          rw [← zC_0 C j] at hw
          have loop57 : ∀ (fuel57 : Nat) (b : Nat), 60 - b < fuel57 → (b ≤ 60) → ∀ (H : Heap) (locs : List Loc), wdH D z (mw ka h a (up (up (up N 0 4 0) 9 j i) 10 j t) (zC C j b) f g ++ R) H → va_S (fun q => z ≤ q) s.heap H locs → ∀ ls : Array Slot, lv_has ls 5 [(0, .ref h), (1, .int (nI j)), (2, .int (nI i)), (3, .int (nI t)), (4, .int (nI b))] → W p l e (rmz 2 0 0) s m args below meth c H locs 0 0 Q (F0 m 57 ls []) := by
            intro fuel57
            induction fuel57 with
            | zero => intro b hfu; exact absurd hfu (Nat.not_lt_zero _)
            | succ fuel57 ih57 =>
              intro b hfu hi1 H locs hw hS ls hl
              refine lv_iload hx hb dX11_sheet_57 (lv_at hl 4 rfl) ?_
              refine lv_bipush (v := nI 60) hx hb dX11_sheet_59 (by decide) ?_
              refine i_icmp_ge (tgt := 83) hx hb (nT (by omega)) (nT (by decide)) dX11_sheet_61 (by decide) (fun c_7 => ?_) (fun c_7 => ?_)
              · refine lv_iconst (v := nI 1) hx hb dX11_sheet_83 (by decide) ?_
                rw [show b = 60 by omega] at hw
                refine hret _ _ _ _ _ _ _ _ dX11_sheet_84 hS hw (Nat.zero_le _) (Nat.zero_le _) ?_
                refine ⟨f, g, (up (up (up N 0 4 0) 9 j i) 10 j t), (zC C j 60), rfl, ?_⟩
                unfold sp_sheet
                try simp only [Int.toNat_natCast]
                (repeat' split) <;> first | rfl | omega
              · refine lv_aload_n hx hb dX11_sheet_64 rfl (lv_at hl 0 rfl) ?_
                refine va_get (D := D) (ci := 11) (v := .ref (a 4)) (C := RX11) (T := TX11) (N := 35) hx hb hts inX11 hown hK hw.2.1 0 rfl rfl 4 (by decide) (hts _ wd_678) (fun _ h9 => h9) rfl dX11_sheet_65 ?_
                refine lv_bipush (v := nI 60) hx hb dX11_sheet_68 (by decide) ?_
                refine lv_iload_n hx hb dX11_sheet_70 rfl (lv_at hl 1 rfl) ?_
                refine n_imul hx hb dX11_sheet_71 ?_
                refine lv_iload hx hb dX11_sheet_72 (lv_at hl 4 rfl) ?_
                refine n_iadd hx hb dX11_sheet_74 ?_
                refine lv_iconst (v := nI 0) hx hb dX11_sheet_75 (by decide) ?_
                refine r_iast hx hb hK hw.2.1 hw.2.2 hS 3 0 rfl rfl (k := (60 * j) + b) (by omega) (by decide) dX11_sheet_76 (fun H locs hP hD hS => ?_)
                rw [cells_upd (k := j) (i := b) (by omega), mw_cells (by omega)] at hP hD
                have hw : wdH D z (mw ka h a (up (up (up N 0 4 0) 9 j i) 10 j t) (upC (zC C j b) j b (nI 0)) f g ++ R) H := ⟨Nat.le_trans hz0 hS.1, hP, hD⟩
                rw [zC_s] at hw
                refine n_iinc (lv' := [(4, .int (nI (b + 1))), (0, .ref h), (1, .int (nI j)), (2, .int (nI i)), (3, .int (nI t))]) (k := 4) (d := 1) hx hb dX11_sheet_77 hl rfl rfl (by decide) rfl (fun ls hl => ?_)
                refine lv_goto (tgt := 57) hx hb dX11_sheet_80 (by decide) ?_
                exact ih57 (b + 1) (by omega) (by omega) _ _ hw hS ls (lv_sub hl [1, 2, 3, 4, 0] rfl)
          exact loop57 _ 0 (Nat.lt_succ_self _) (by omega) _ _ hw hS ls (lv_sub hl [1, 2, 3, 4, 0] rfl)
        · refine lv_aload_n hx hb dX11_sheet_34 rfl (lv_at hl 0 rfl) ?_
          refine lv_iconst (v := nI 4) hx hb dX11_sheet_35 (by decide) ?_
          refine mu_i (mu_runV (c_X11_fails l D ka z h a (up N 0 4 0) C f g R 4 (by omega) (WF.up04 (v := 0) hN (by omega))) X wd_800 wd_797 wd_799 ws_3 wd_8 on_X11_fails ⟨Nat.le_of_ble_eq_true rfl, Nat.le_of_ble_eq_true rfl⟩ (va_recv hK hw.2.1 (ci := 11) (q0 := 0) rfl rfl) hw hl.1 rfl (Nat.le_of_ble_eq_true rfl) ⟨Nat.le_of_ble_eq_true rfl, Nat.le_of_ble_eq_true rfl⟩ dX11_sheet_36) hS (fun r_9 u_8 H locs hp_u_8 hw hS => ?_)
          obtain ⟨rfl, rfl⟩ := hp_u_8
          refine hret _ _ _ _ _ _ _ _ dX11_sheet_39 hS hw (Nat.zero_le _) (Nat.zero_le _) ?_
          refine ⟨f, g, (up (up N 0 4 0) 0 4 4), C, rfl, ?_⟩
          unfold sp_sheet
          try simp only [Int.toNat_natCast]
          (repeat' split) <;> first | rfl | omega
      · refine lv_bipush (v := (-2)) hx hb dX11_sheet_27 (by decide) ?_
        refine hret _ _ _ _ _ _ _ _ dX11_sheet_29 hS hw (Nat.zero_le _) (Nat.zero_le _) ?_
        refine ⟨f, g, (up N 0 4 0), C, rfl, ?_⟩
        unfold sp_sheet
        try simp only [Int.toNat_natCast]
        (repeat' split) <;> first | rfl | omega
  · refine lv_iconst (v := (-1)) hx hb dX11_sheet_12 (by decide) ?_
    refine hret _ _ _ _ _ _ _ _ dX11_sheet_13 hS hw (Nat.zero_le _) (Nat.zero_le _) ?_
    refine ⟨f, g, (up N 0 4 0), C, rfl, ?_⟩
    unfold sp_sheet
    try simp only [Int.toNat_natCast]
    (repeat' split) <;> first | rfl | omega
set_option maxRecDepth 100000 in
set_option maxHeartbeats 4000000 in
theorem c_X11_lose (l : Launch) (D : va_G) (ka : Nat → ClassId) (z : Nat) (h : Nat) (a : Nat → Nat) (N : Nat → Nat → Nat) (C : Nat → Nat → Int32) (f : Nat → Int32) (g : Nat → Nat → Int32) (R : va_W) (k : Int32) (K : Int) (hk : k.toInt = K) (hN : WF N) : MU l D ka z yX11_lose cX11_lose 3 (some .int) 2 0 0 [.ref h, .int k] (mw ka h a N C f g ++ R) (Qi D z (fun r w => ∃ f' g' N' C', w = mw ka h a N' C' f' g' ++ R ∧ (r, N', C') = sp_lose N C K)) := by
  refine MU.ofI (by decide) (Nat.le_of_ble_eq_true rfl) ?_
  intro p e s m args below meth c Q X hw hS hret ls hl
  obtain ⟨hx, hb, hml, hown, hts, hE⟩ := id X
  have hK := hE.1
  have hz0 := hw.1
  have hl : lv_has ls 3 [(0, .ref h), (1, .int k)] := hl
  have hN1 := hN.1
  refine lv_iload_n hx hb dX11_lose_0 rfl (lv_at hl 1 rfl) ?_
  refine vp_callSi (ro_runS (c_X11_isSheet l D ka k _ hk) X wd_786 wd_784 wd_785 wd_8 on_X11_isSheet ⟨Nat.le_of_ble_eq_true rfl, Nat.le_of_ble_eq_true rfl⟩ trivial hl.1 rfl (Nat.le_of_ble_eq_true rfl) ⟨(Nat.zero_le _), (Nat.zero_le _)⟩ dX11_lose_1) (fun r_1 hr_1 => ?_)
  subst hr_1
  refine b_if_ne (tgt := 9) hx hb dX11_lose_4 (by decide) (fun c_2 => ?_) (fun c_2 => ?_)
  · obtain ⟨j, hlt_j, rfl, rfl⟩ := nat_ofK (n := 4) hk (by omega) (by omega)
    refine lv_aload_n hx hb dX11_lose_9 rfl (lv_at hl 0 rfl) ?_
    refine va_get (D := D) (ci := 11) (v := .ref (a 2)) (C := RX11) (T := TX11) (N := 35) hx hb hts inX11 hown hK hw.2.1 0 rfl rfl 2 (by decide) (hts _ wd_676) (fun _ h9 => h9) rfl dX11_lose_10 ?_
    refine lv_iload_n hx hb dX11_lose_13 rfl (lv_at hl 1 rfl) ?_
    refine n_iald hx hb hK hw.2.1 1 0 rfl rfl (k := j) (by omega) (by decide) dX11_lose_14 ?_
    have hv_3 : N 9 j ≤ 3 := hN.2.2.2.2.2.2.2.2.2.1 j
    refine lv_bipush (v := (-9)) hx hb dX11_lose_15 (by decide) ?_
    refine i_icmp_ne (tgt := 24) hx hb (srt_T (by omega)) ng9 dX11_lose_17 (by decide) (fun c_4 => ?_) (fun c_4 => ?_)
    · refine lv_iconst (v := nI 1) hx hb dX11_lose_24 (by decide) ?_
      refine lv_istore_n (lv' := [(2, .int (nI 1)), (0, .ref h), (1, .int (nI j))]) hx hb dX11_lose_25 rfl hl (by decide) rfl (fun ls hl => ?_)
      refine lv_aload_n hx hb dX11_lose_26 rfl (lv_at hl 1 rfl) ?_
      refine va_get (D := D) (ci := 11) (v := .ref (a 2)) (C := RX11) (T := TX11) (N := 35) hx hb hts inX11 hown hK hw.2.1 0 rfl rfl 2 (by decide) (hts _ wd_676) (fun _ h9 => h9) rfl dX11_lose_27 ?_
      refine lv_iload_n hx hb dX11_lose_30 rfl (lv_at hl 2 rfl) ?_
      refine lv_bipush (v := (-9)) hx hb dX11_lose_31 (by decide) ?_
      refine n_iast hx hb hK hw.2.1 hw.2.2 hS 1 0 (φ := srt) (u := N 9) (v := 3) rfl rfl (k := j) rfl (by omega) (by decide) dX11_lose_33 (fun H locs hP hD hS => ?_)
      have hw : wdH D z (mw ka h a (up N 9 j 3) C f g ++ R) H := ⟨Nat.le_trans hz0 hS.1, hP, hD⟩
      refine lv_iload_n hx hb dX11_lose_34 rfl (lv_at hl 0 rfl) ?_
      refine hret _ _ _ _ _ _ _ _ dX11_lose_35 hS hw (Nat.zero_le _) (Nat.zero_le _) ?_
      refine ⟨f, g, (up N 9 j 3), C, rfl, ?_⟩
      unfold sp_lose
      try simp only [Int.toNat_natCast]
      (repeat' split) <;> first | rfl | omega
    · refine lv_iconst (v := nI 0) hx hb dX11_lose_20 (by decide) ?_
      refine lv_goto (tgt := 25) hx hb dX11_lose_21 (by decide) ?_
      refine lv_istore_n (lv' := [(2, .int (nI 0)), (0, .ref h), (1, .int (nI j))]) hx hb dX11_lose_25 rfl hl (by decide) rfl (fun ls hl => ?_)
      refine lv_aload_n hx hb dX11_lose_26 rfl (lv_at hl 1 rfl) ?_
      refine va_get (D := D) (ci := 11) (v := .ref (a 2)) (C := RX11) (T := TX11) (N := 35) hx hb hts inX11 hown hK hw.2.1 0 rfl rfl 2 (by decide) (hts _ wd_676) (fun _ h9 => h9) rfl dX11_lose_27 ?_
      refine lv_iload_n hx hb dX11_lose_30 rfl (lv_at hl 2 rfl) ?_
      refine lv_bipush (v := (-9)) hx hb dX11_lose_31 (by decide) ?_
      refine n_iast hx hb hK hw.2.1 hw.2.2 hS 1 0 (φ := srt) (u := N 9) (v := 3) rfl rfl (k := j) rfl (by omega) (by decide) dX11_lose_33 (fun H locs hP hD hS => ?_)
      have hw : wdH D z (mw ka h a (up N 9 j 3) C f g ++ R) H := ⟨Nat.le_trans hz0 hS.1, hP, hD⟩
      refine lv_iload_n hx hb dX11_lose_34 rfl (lv_at hl 0 rfl) ?_
      refine hret _ _ _ _ _ _ _ _ dX11_lose_35 hS hw (Nat.zero_le _) (Nat.zero_le _) ?_
      refine ⟨f, g, (up N 9 j 3), C, rfl, ?_⟩
      unfold sp_lose
      try simp only [Int.toNat_natCast]
      (repeat' split) <;> first | rfl | omega
  · refine lv_iconst (v := (-1)) hx hb dX11_lose_7 (by decide) ?_
    refine hret _ _ _ _ _ _ _ _ dX11_lose_8 hS hw (Nat.zero_le _) (Nat.zero_le _) ?_
    refine ⟨f, g, N, C, rfl, ?_⟩
    unfold sp_lose
    try simp only [Int.toNat_natCast]
    (repeat' split) <;> first | rfl | omega
set_option maxRecDepth 100000 in
set_option maxHeartbeats 4000000 in
theorem c_X11_put (l : Launch) (D : va_G) (ka : Nat → ClassId) (z : Nat) (h : Nat) (a : Nat → Nat) (N : Nat → Nat → Nat) (C : Nat → Nat → Int32) (f : Nat → Int32) (g : Nat → Nat → Int32) (R : va_W) (k q v : Int32) (K q2 : Int) (hk : k.toInt = K) (hq : q.toInt = q2) (hN : WF N) : MU l D ka z yX11_put cX11_put 4 (some .int) 2 0 0 [.ref h, .int k, .int q, .int v] (mw ka h a N C f g ++ R) (Qi D z (fun r w => ∃ f' g' N' C', w = mw ka h a N' C' f' g' ++ R ∧ (r, N', C') = sp_put N C K q2 v)) := by
  refine MU.ofI (by decide) (Nat.le_of_ble_eq_true rfl) ?_
  intro p e s m args below meth c Q X hw hS hret ls hl
  obtain ⟨hx, hb, hml, hown, hts, hE⟩ := id X
  have hK := hE.1
  have hz0 := hw.1
  have hl : lv_has ls 4 [(0, .ref h), (1, .int k), (2, .int q), (3, .int v)] := hl
  have hN1 := hN.1
  refine lv_aload_n hx hb dX11_put_0 rfl (lv_at hl 0 rfl) ?_
  refine lv_iconst (v := nI 0) hx hb dX11_put_1 (by decide) ?_
  refine va_put (D := D) (ci := 11) (ty := .int) (C := RX11) (T := TX11) (N := 35) hx hb hts inX11 tyX11 tyX11_ok nmX11 hown hK hw.2.1 hw.2.2 hS 0 rfl rfl 0 (by decide) (hts _ wd_674) (fun _ h9 => h9) rfl (by decide +kernel) rfl rfl (Nat.le_of_ble_eq_true rfl) dX11_put_2 (fun H locs hP hD hS => ?_)
  have hw : wdH D z (mw ka h a (up N 0 4 0) C f g ++ R) H := ⟨Nat.le_trans hz0 hS.1, hP, hD⟩
  refine lv_iload_n hx hb dX11_put_5 rfl (lv_at hl 1 rfl) ?_
  refine vp_callSi (ro_runS (c_X11_isSheet l D ka k _ hk) X wd_786 wd_784 wd_785 wd_8 on_X11_isSheet ⟨Nat.le_of_ble_eq_true rfl, Nat.le_of_ble_eq_true rfl⟩ trivial hl.1 rfl (Nat.le_of_ble_eq_true rfl) ⟨(Nat.zero_le _), (Nat.zero_le _)⟩ dX11_put_6) (fun r_1 hr_1 => ?_)
  subst hr_1
  refine b_if_ne (tgt := 14) hx hb dX11_put_9 (by decide) (fun c_2 => ?_) (fun c_2 => ?_)
  · obtain ⟨j, hlt_j, rfl, rfl⟩ := nat_ofK (n := 4) hk (by omega) (by omega)
    have hl10 := hN.2.2.2.2.2.2.2.2.2.2 j
    refine lv_aload_n hx hb dX11_put_14 rfl (lv_at hl 0 rfl) ?_
    refine va_get (D := D) (ci := 11) (v := .ref (a 2)) (C := RX11) (T := TX11) (N := 35) hx hb hts inX11 hown hK hw.2.1 0 rfl rfl 2 (by decide) (hts _ wd_676) (fun _ h9 => h9) rfl dX11_put_15 ?_
    refine lv_iload_n hx hb dX11_put_18 rfl (lv_at hl 1 rfl) ?_
    refine n_iald hx hb hK hw.2.1 1 0 rfl rfl (k := j) (by omega) (by decide) dX11_put_19 ?_
    have hv_3 : N 9 j ≤ 3 := hN.2.2.2.2.2.2.2.2.2.1 j
    refine W.eq (g2 := F0 m 20 ls [.int (srt (N 9 j))]) rfl ?_
    refine lv_bipush (v := (-9)) hx hb dX11_put_20 (by decide) ?_
    refine i_icmp_ne (tgt := 31) hx hb (srt_T (by omega)) ng9 dX11_put_22 (by decide) (fun c_4 => ?_) (fun c_4 => ?_)
    · refine lv_iload_n hx hb dX11_put_31 rfl (lv_at hl 2 rfl) ?_
      refine lv_iconst (v := nI 0) hx hb dX11_put_32 (by decide) ?_
      refine lv_aload_n hx hb dX11_put_33 rfl (lv_at hl 0 rfl) ?_
      refine va_get (D := D) (ci := 11) (v := .ref (a 3)) (C := RX11) (T := TX11) (N := 35) hx hb hts inX11 hown hK hw.2.1 0 rfl rfl 3 (by decide) (hts _ wd_677) (fun _ h9 => h9) rfl dX11_put_34 ?_
      refine lv_iload_n hx hb dX11_put_37 rfl (lv_at hl 1 rfl) ?_
      refine n_iald hx hb hK hw.2.1 2 0 rfl rfl (k := j) (by omega) (by decide) dX11_put_38 ?_
      have hv_5 : N 10 j ≤ 60 := hN.2.2.2.2.2.2.2.2.2.2 j
      refine W.eq (g2 := F0 m 39 ls [.int (nI (N 10 j)), .int (nI 0), .int q]) rfl ?_
      refine lv_iconst (v := nI 1) hx hb dX11_put_39 (by decide) ?_
      refine lv_isub hx hb dX11_put_40 ?_
      refine vp_callSi (ro_runS (c_X11_within l D ka q (nI 0) (nI (N 10 j) - nI 1) _ _ _ hq (nT (by decide)) (pk_sub_toInt (a := N 10 j) (b := 1) (by omega) (by omega))) X wd_789 wd_787 wd_788 wd_8 on_X11_within ⟨Nat.le_of_ble_eq_true rfl, Nat.le_of_ble_eq_true rfl⟩ trivial hl.1 rfl (Nat.le_of_ble_eq_true rfl) ⟨(Nat.zero_le _), (Nat.zero_le _)⟩ dX11_put_41) (fun r_6 hr_6 => ?_)
      subst hr_6
      refine b_if_ne (tgt := 53) hx hb dX11_put_44 (by decide) (fun c_7 => ?_) (fun c_7 => ?_)
      · obtain ⟨i, hlt_i, rfl, rfl⟩ := nat_ofK (n := N 10 j) hq (by omega) (by omega)
        refine lv_aload_n hx hb dX11_put_53 rfl (lv_at hl 0 rfl) ?_
        refine va_get (D := D) (ci := 11) (v := .ref (a 4)) (C := RX11) (T := TX11) (N := 35) hx hb hts inX11 hown hK hw.2.1 0 rfl rfl 4 (by decide) (hts _ wd_678) (fun _ h9 => h9) rfl dX11_put_54 ?_
        refine lv_bipush (v := nI 60) hx hb dX11_put_57 (by decide) ?_
        refine lv_iload_n hx hb dX11_put_59 rfl (lv_at hl 1 rfl) ?_
        refine n_imul hx hb dX11_put_60 ?_
        refine lv_iload_n hx hb dX11_put_61 rfl (lv_at hl 2 rfl) ?_
        refine n_iadd hx hb dX11_put_62 ?_
        refine lv_aload_n hx hb dX11_put_63 rfl (lv_at hl 0 rfl) ?_
        refine va_get (D := D) (ci := 11) (v := .ref (a 2)) (C := RX11) (T := TX11) (N := 35) hx hb hts inX11 hown hK hw.2.1 0 rfl rfl 2 (by decide) (hts _ wd_676) (fun _ h9 => h9) rfl dX11_put_64 ?_
        refine lv_iload_n hx hb dX11_put_67 rfl (lv_at hl 1 rfl) ?_
        refine n_iald hx hb hK hw.2.1 1 0 rfl rfl (k := j) (by omega) (by decide) dX11_put_68 ?_
        have hv_8 : N 9 j ≤ 3 := hN.2.2.2.2.2.2.2.2.2.1 j
        refine W.eq (g2 := F0 m 69 ls [.int (srt (N 9 j)), .int (nI ((60 * j) + i)), .ref (a 4)]) rfl ?_
        refine i_if_ne (tgt := 77) hx hb (srt_T (by omega)) dX11_put_69 (by decide) (fun c_9 => ?_) (fun c_9 => ?_)
        · refine lv_aload_n hx hb dX11_put_77 rfl (lv_at hl 0 rfl) ?_
          refine va_get (D := D) (ci := 11) (v := .ref (a 2)) (C := RX11) (T := TX11) (N := 35) hx hb hts inX11 hown hK hw.2.1 0 rfl rfl 2 (by decide) (hts _ wd_676) (fun _ h9 => h9) rfl dX11_put_78 ?_
          refine lv_iload_n hx hb dX11_put_81 rfl (lv_at hl 1 rfl) ?_
          refine n_iald hx hb hK hw.2.1 1 0 rfl rfl (k := j) (by omega) (by decide) dX11_put_82 ?_
          have hv_10 : N 9 j ≤ 3 := hN.2.2.2.2.2.2.2.2.2.1 j
          refine W.eq (g2 := F0 m 83 ls [.int (srt (N 9 j)), .int (nI ((60 * j) + i)), .ref (a 4)]) rfl ?_
          refine lv_iconst (v := nI 1) hx hb dX11_put_83 (by decide) ?_
          refine i_icmp_ne (tgt := 92) hx hb (srt_T (by omega)) (nT (by decide)) dX11_put_84 (by decide) (fun c_11 => ?_) (fun c_11 => ?_)
          · refine lv_iload_n hx hb dX11_put_92 rfl (lv_at hl 3 rfl) ?_
            refine r_iast hx hb hK hw.2.1 hw.2.2 hS 3 0 rfl rfl (k := (60 * j) + i) (by omega) (by decide) dX11_put_93 (fun H locs hP hD hS => ?_)
            rw [cells_upd (k := j) (i := i) (by omega), mw_cells (by omega)] at hP hD
            have hw : wdH D z (mw ka h a (up N 0 4 0) (upC C j i v) f g ++ R) H := ⟨Nat.le_trans hz0 hS.1, hP, hD⟩
            refine lv_iconst (v := nI 1) hx hb dX11_put_94 (by decide) ?_
            refine hret _ _ _ _ _ _ _ _ dX11_put_95 hS hw (Nat.zero_le _) (Nat.zero_le _) ?_
            refine ⟨f, g, (up N 0 4 0), (upC C j i v), rfl, ?_⟩
            unfold sp_put cutv
            try simp only [Int.toNat_natCast]
            (repeat' split) <;> first | rfl | omega
          · refine lv_iload_n hx hb dX11_put_87 rfl (lv_at hl 3 rfl) ?_
            refine lv_i2s (v := v.toInt16.toInt32) hx hb dX11_put_88 rfl ?_
            refine lv_goto (tgt := 93) hx hb dX11_put_89 (by decide) ?_
            refine r_iast hx hb hK hw.2.1 hw.2.2 hS 3 0 rfl rfl (k := (60 * j) + i) (by omega) (by decide) dX11_put_93 (fun H locs hP hD hS => ?_)
            rw [cells_upd (k := j) (i := i) (by omega), mw_cells (by omega)] at hP hD
            have hw : wdH D z (mw ka h a (up N 0 4 0) (upC C j i v.toInt16.toInt32) f g ++ R) H := ⟨Nat.le_trans hz0 hS.1, hP, hD⟩
            refine lv_iconst (v := nI 1) hx hb dX11_put_94 (by decide) ?_
            refine hret _ _ _ _ _ _ _ _ dX11_put_95 hS hw (Nat.zero_le _) (Nat.zero_le _) ?_
            refine ⟨f, g, (up N 0 4 0), (upC C j i v.toInt16.toInt32), rfl, ?_⟩
            unfold sp_put cutv
            try simp only [Int.toNat_natCast]
            (repeat' split) <;> first | rfl | omega
        · refine lv_iload_n hx hb dX11_put_72 rfl (lv_at hl 3 rfl) ?_
          refine lv_i2b (v := v.toInt8.toInt32) hx hb dX11_put_73 rfl ?_
          refine lv_goto (tgt := 93) hx hb dX11_put_74 (by decide) ?_
          refine r_iast hx hb hK hw.2.1 hw.2.2 hS 3 0 rfl rfl (k := (60 * j) + i) (by omega) (by decide) dX11_put_93 (fun H locs hP hD hS => ?_)
          rw [cells_upd (k := j) (i := i) (by omega), mw_cells (by omega)] at hP hD
          have hw : wdH D z (mw ka h a (up N 0 4 0) (upC C j i v.toInt8.toInt32) f g ++ R) H := ⟨Nat.le_trans hz0 hS.1, hP, hD⟩
          refine lv_iconst (v := nI 1) hx hb dX11_put_94 (by decide) ?_
          refine hret _ _ _ _ _ _ _ _ dX11_put_95 hS hw (Nat.zero_le _) (Nat.zero_le _) ?_
          refine ⟨f, g, (up N 0 4 0), (upC C j i v.toInt8.toInt32), rfl, ?_⟩
          unfold sp_put cutv
          try simp only [Int.toNat_natCast]
          (repeat' split) <;> first | rfl | omega
      · refine lv_aload_n hx hb dX11_put_47 rfl (lv_at hl 0 rfl) ?_
        refine lv_iconst (v := nI 3) hx hb dX11_put_48 (by decide) ?_
        refine mu_i (mu_runV (c_X11_fails l D ka z h a (up N 0 4 0) C f g R 3 (by omega) (WF.up04 (v := 0) hN (by omega))) X wd_800 wd_797 wd_799 ws_3 wd_8 on_X11_fails ⟨Nat.le_of_ble_eq_true rfl, Nat.le_of_ble_eq_true rfl⟩ (va_recv hK hw.2.1 (ci := 11) (q0 := 0) rfl rfl) hw hl.1 rfl (Nat.le_of_ble_eq_true rfl) ⟨Nat.le_of_ble_eq_true rfl, Nat.le_of_ble_eq_true rfl⟩ dX11_put_49) hS (fun r_13 u_12 H locs hp_u_12 hw hS => ?_)
        obtain ⟨rfl, rfl⟩ := hp_u_12
        refine hret _ _ _ _ _ _ _ _ dX11_put_52 hS hw (Nat.zero_le _) (Nat.zero_le _) ?_
        refine ⟨f, g, (up (up N 0 4 0) 0 4 3), C, rfl, ?_⟩
        unfold sp_put cutv
        try simp only [Int.toNat_natCast]
        (repeat' split) <;> first | rfl | omega
    · refine lv_aload_n hx hb dX11_put_25 rfl (lv_at hl 0 rfl) ?_
      refine lv_iconst (v := nI 1) hx hb dX11_put_26 (by decide) ?_
      refine mu_i (mu_runV (c_X11_fails l D ka z h a (up N 0 4 0) C f g R 1 (by omega) (WF.up04 (v := 0) hN (by omega))) X wd_800 wd_797 wd_799 ws_3 wd_8 on_X11_fails ⟨Nat.le_of_ble_eq_true rfl, Nat.le_of_ble_eq_true rfl⟩ (va_recv hK hw.2.1 (ci := 11) (q0 := 0) rfl rfl) hw hl.1 rfl (Nat.le_of_ble_eq_true rfl) ⟨Nat.le_of_ble_eq_true rfl, Nat.le_of_ble_eq_true rfl⟩ dX11_put_27) hS (fun r_15 u_14 H locs hp_u_14 hw hS => ?_)
      obtain ⟨rfl, rfl⟩ := hp_u_14
      refine hret _ _ _ _ _ _ _ _ dX11_put_30 hS hw (Nat.zero_le _) (Nat.zero_le _) ?_
      refine ⟨f, g, (up (up N 0 4 0) 0 4 1), C, rfl, ?_⟩
      unfold sp_put cutv
      try simp only [Int.toNat_natCast]
      (repeat' split) <;> first | rfl | omega
  · refine lv_iconst (v := (-1)) hx hb dX11_put_12 (by decide) ?_
    refine hret _ _ _ _ _ _ _ _ dX11_put_13 hS hw (Nat.zero_le _) (Nat.zero_le _) ?_
    refine ⟨f, g, (up N 0 4 0), C, rfl, ?_⟩
    unfold sp_put cutv
    try simp only [Int.toNat_natCast]
    (repeat' split) <;> first | rfl | omega
set_option maxRecDepth 100000 in
set_option maxHeartbeats 4000000 in
theorem c_X11_cell (l : Launch) (D : va_G) (ka : Nat → ClassId) (z : Nat) (h : Nat) (a : Nat → Nat) (N : Nat → Nat → Nat) (C : Nat → Nat → Int32) (f : Nat → Int32) (g : Nat → Nat → Int32) (R : va_W) (k q m1 : Int32) (K q2 m2 : Int) (hk : k.toInt = K) (hq : q.toInt = q2) (hm1 : m1.toInt = m2) (hN : WF N) : MU l D ka z yX11_cell cX11_cell 4 (some .long) 2 0 0 [.ref h, .int k, .int q, .int m1] (mw ka h a N C f g ++ R) (Ql D z (fun r w => ∃ f' g' N' C', w = mw ka h a N' C' f' g' ++ R ∧ (r, N', C') = sp_cell N C K q2 m2)) := by
  refine MU.ofL (by decide) (Nat.le_of_ble_eq_true rfl) ?_
  intro p e s m args below meth c Q X hw hS hret ls hl
  obtain ⟨hx, hb, hml, hown, hts, hE⟩ := id X
  have hK := hE.1
  have hz0 := hw.1
  have hl : lv_has ls 4 [(0, .ref h), (1, .int k), (2, .int q), (3, .int m1)] := hl
  have hN1 := hN.1
  refine lv_aload_n hx hb dX11_cell_0 rfl (lv_at hl 0 rfl) ?_
  refine lv_iconst (v := nI 0) hx hb dX11_cell_1 (by decide) ?_
  refine va_put (D := D) (ci := 11) (ty := .int) (C := RX11) (T := TX11) (N := 35) hx hb hts inX11 tyX11 tyX11_ok nmX11 hown hK hw.2.1 hw.2.2 hS 0 rfl rfl 0 (by decide) (hts _ wd_674) (fun _ h9 => h9) rfl (by decide +kernel) rfl rfl (Nat.le_of_ble_eq_true rfl) dX11_cell_2 (fun H locs hP hD hS => ?_)
  have hw : wdH D z (mw ka h a (up N 0 4 0) C f g ++ R) H := ⟨Nat.le_trans hz0 hS.1, hP, hD⟩
  refine lv_iload_n hx hb dX11_cell_5 rfl (lv_at hl 1 rfl) ?_
  refine vp_callSi (ro_runS (c_X11_isSheet l D ka k _ hk) X wd_786 wd_784 wd_785 wd_8 on_X11_isSheet ⟨Nat.le_of_ble_eq_true rfl, Nat.le_of_ble_eq_true rfl⟩ trivial hl.1 rfl (Nat.le_of_ble_eq_true rfl) ⟨(Nat.zero_le _), (Nat.zero_le _)⟩ dX11_cell_6) (fun r_1 hr_1 => ?_)
  subst hr_1
  refine b_if_eq (tgt := 19) hx hb dX11_cell_9 (by decide) (fun c_2 => ?_) (fun c_2 => ?_)
  · refine lv_ldc2 (v := (-9223372036854775808 : Int64)) hx hb hown (hts _ wd_956) dX11_cell_19 ?_
    refine hret _ _ _ _ _ _ _ _ dX11_cell_22 hS hw (Nat.zero_le _) (Nat.zero_le _) ?_
    refine ⟨f, g, (up N 0 4 0), C, rfl, ?_⟩
    unfold sp_cell
    try simp only [Int.toNat_natCast]
    (repeat' split) <;> first | rfl | omega
  · refine lv_iload_n hx hb dX11_cell_12 rfl (lv_at hl 3 rfl) ?_
    refine vp_callSi (ro_runS (c_X11_isSort l D ka m1 _ hm1) X wd_792 wd_790 wd_791 wd_8 on_X11_isSort ⟨Nat.le_of_ble_eq_true rfl, Nat.le_of_ble_eq_true rfl⟩ trivial hl.1 rfl (Nat.le_of_ble_eq_true rfl) ⟨(Nat.zero_le _), (Nat.zero_le _)⟩ dX11_cell_13) (fun r_3 hr_3 => ?_)
    subst hr_3
    refine b_if_ne (tgt := 23) hx hb dX11_cell_16 (by decide) (fun c_4 => ?_) (fun c_4 => ?_)
    · obtain ⟨j, hlt_j, rfl, rfl⟩ := nat_ofK (n := 4) hk (by omega) (by omega)
      obtain ⟨t, hlt_t, rfl, rfl⟩ := nat_ofK (n := 3) hm1 (by omega) (by omega)
      have hl10 := hN.2.2.2.2.2.2.2.2.2.2 j
      refine lv_aload_n hx hb dX11_cell_23 rfl (lv_at hl 0 rfl) ?_
      refine va_get (D := D) (ci := 11) (v := .ref (a 2)) (C := RX11) (T := TX11) (N := 35) hx hb hts inX11 hown hK hw.2.1 0 rfl rfl 2 (by decide) (hts _ wd_676) (fun _ h9 => h9) rfl dX11_cell_24 ?_
      refine lv_iload_n hx hb dX11_cell_27 rfl (lv_at hl 1 rfl) ?_
      refine n_iald hx hb hK hw.2.1 1 0 rfl rfl (k := j) (by omega) (by decide) dX11_cell_28 ?_
      have hv_5 : N 9 j ≤ 3 := hN.2.2.2.2.2.2.2.2.2.1 j
      refine W.eq (g2 := F0 m 29 ls [.int (srt (N 9 j))]) rfl ?_
      refine lv_bipush (v := (-9)) hx hb dX11_cell_29 (by decide) ?_
      refine i_icmp_eq (tgt := 50) hx hb (srt_T (by omega)) ng9 dX11_cell_31 (by decide) (fun c_6 => ?_) (fun c_6 => ?_)
      · refine lv_aload_n hx hb dX11_cell_50 rfl (lv_at hl 0 rfl) ?_
        refine va_get (D := D) (ci := 11) (v := .ref (a 2)) (C := RX11) (T := TX11) (N := 35) hx hb hts inX11 hown hK hw.2.1 0 rfl rfl 2 (by decide) (hts _ wd_676) (fun _ h9 => h9) rfl dX11_cell_51 ?_
        refine lv_iload_n hx hb dX11_cell_54 rfl (lv_at hl 1 rfl) ?_
        refine n_iald hx hb hK hw.2.1 1 0 rfl rfl (k := j) (by omega) (by decide) dX11_cell_55 ?_
        have hv_7 : N 9 j ≤ 3 := hN.2.2.2.2.2.2.2.2.2.1 j
        refine W.eq (g2 := F0 m 56 ls [.int (srt (N 9 j))]) rfl ?_
        refine lv_bipush (v := (-9)) hx hb dX11_cell_56 (by decide) ?_
        refine i_icmp_ne (tgt := 67) hx hb (srt_T (by omega)) ng9 dX11_cell_58 (by decide) (fun c_8 => ?_) (fun c_8 => ?_)
        · refine lv_iload_n hx hb dX11_cell_67 rfl (lv_at hl 2 rfl) ?_
          refine lv_iconst (v := nI 0) hx hb dX11_cell_68 (by decide) ?_
          refine lv_aload_n hx hb dX11_cell_69 rfl (lv_at hl 0 rfl) ?_
          refine va_get (D := D) (ci := 11) (v := .ref (a 3)) (C := RX11) (T := TX11) (N := 35) hx hb hts inX11 hown hK hw.2.1 0 rfl rfl 3 (by decide) (hts _ wd_677) (fun _ h9 => h9) rfl dX11_cell_70 ?_
          refine lv_iload_n hx hb dX11_cell_73 rfl (lv_at hl 1 rfl) ?_
          refine n_iald hx hb hK hw.2.1 2 0 rfl rfl (k := j) (by omega) (by decide) dX11_cell_74 ?_
          have hv_9 : N 10 j ≤ 60 := hN.2.2.2.2.2.2.2.2.2.2 j
          refine W.eq (g2 := F0 m 75 ls [.int (nI (N 10 j)), .int (nI 0), .int q]) rfl ?_
          refine lv_iconst (v := nI 1) hx hb dX11_cell_75 (by decide) ?_
          refine lv_isub hx hb dX11_cell_76 ?_
          refine vp_callSi (ro_runS (c_X11_within l D ka q (nI 0) (nI (N 10 j) - nI 1) _ _ _ hq (nT (by decide)) (pk_sub_toInt (a := N 10 j) (b := 1) (by omega) (by omega))) X wd_789 wd_787 wd_788 wd_8 on_X11_within ⟨Nat.le_of_ble_eq_true rfl, Nat.le_of_ble_eq_true rfl⟩ trivial hl.1 rfl (Nat.le_of_ble_eq_true rfl) ⟨(Nat.zero_le _), (Nat.zero_le _)⟩ dX11_cell_77) (fun r_10 hr_10 => ?_)
          subst hr_10
          refine b_if_ne (tgt := 89) hx hb dX11_cell_80 (by decide) (fun c_11 => ?_) (fun c_11 => ?_)
          · obtain ⟨i, hlt_i, rfl, rfl⟩ := nat_ofK (n := N 10 j) hq (by omega) (by omega)
            refine lv_aload_n hx hb dX11_cell_89 rfl (lv_at hl 0 rfl) ?_
            refine va_get (D := D) (ci := 11) (v := .ref (a 4)) (C := RX11) (T := TX11) (N := 35) hx hb hts inX11 hown hK hw.2.1 0 rfl rfl 4 (by decide) (hts _ wd_678) (fun _ h9 => h9) rfl dX11_cell_90 ?_
            refine lv_bipush (v := nI 60) hx hb dX11_cell_93 (by decide) ?_
            refine lv_iload_n hx hb dX11_cell_95 rfl (lv_at hl 1 rfl) ?_
            refine n_imul hx hb dX11_cell_96 ?_
            refine lv_iload_n hx hb dX11_cell_97 rfl (lv_at hl 2 rfl) ?_
            refine n_iadd hx hb dX11_cell_98 ?_
            refine n_iald hx hb hK hw.2.1 3 0 rfl rfl (k := (60 * j) + i) (by omega) (by decide) dX11_cell_99 ?_
            refine W.eq (g2 := F0 m 100 ls [.int (C (((60 * j) + i) / 60) (((60 * j) + i) % 60))]) rfl ?_
            rw [show (60 * j + i) / 60 = j by omega, show (60 * j + i) % 60 = i by omega]
            refine lv_i2l (v := (C j i).toInt64) hx hb dX11_cell_100 rfl ?_
            refine hret _ _ _ _ _ _ _ _ dX11_cell_101 hS hw (Nat.zero_le _) (Nat.zero_le _) ?_
            refine ⟨f, g, (up N 0 4 0), C, rfl, ?_⟩
            unfold sp_cell
            try simp only [Int.toNat_natCast]
            (repeat' split) <;> first | rfl | omega
          · refine lv_aload_n hx hb dX11_cell_83 rfl (lv_at hl 0 rfl) ?_
            refine lv_iconst (v := nI 3) hx hb dX11_cell_84 (by decide) ?_
            refine mu_l (mu_runV (c_X11_lost l D ka z h a (up N 0 4 0) C f g R 3 (by omega) (WF.up04 (v := 0) hN (by omega))) X wd_979 wd_976 wd_978 ws_22 wd_8 on_X11_lost ⟨Nat.le_of_ble_eq_true rfl, Nat.le_of_ble_eq_true rfl⟩ (va_recv hK hw.2.1 (ci := 11) (q0 := 0) rfl rfl) hw hl.1 rfl (Nat.le_of_ble_eq_true rfl) ⟨Nat.le_of_ble_eq_true rfl, Nat.le_of_ble_eq_true rfl⟩ dX11_cell_85) hS (fun r_13 u_12 H locs hp_u_12 hw hS => ?_)
            obtain ⟨rfl, rfl⟩ := hp_u_12
            refine hret _ _ _ _ _ _ _ _ dX11_cell_88 hS hw (Nat.zero_le _) (Nat.zero_le _) ?_
            refine ⟨f, g, (up (up N 0 4 0) 0 4 3), C, rfl, ?_⟩
            unfold sp_cell
            try simp only [Int.toNat_natCast]
            (repeat' split) <;> first | rfl | omega
        · refine lv_aload_n hx hb dX11_cell_61 rfl (lv_at hl 0 rfl) ?_
          refine lv_iconst (v := nI 1) hx hb dX11_cell_62 (by decide) ?_
          refine mu_l (mu_runV (c_X11_lost l D ka z h a (up N 0 4 0) C f g R 1 (by omega) (WF.up04 (v := 0) hN (by omega))) X wd_979 wd_976 wd_978 ws_22 wd_8 on_X11_lost ⟨Nat.le_of_ble_eq_true rfl, Nat.le_of_ble_eq_true rfl⟩ (va_recv hK hw.2.1 (ci := 11) (q0 := 0) rfl rfl) hw hl.1 rfl (Nat.le_of_ble_eq_true rfl) ⟨Nat.le_of_ble_eq_true rfl, Nat.le_of_ble_eq_true rfl⟩ dX11_cell_63) hS (fun r_15 u_14 H locs hp_u_14 hw hS => ?_)
          obtain ⟨rfl, rfl⟩ := hp_u_14
          refine hret _ _ _ _ _ _ _ _ dX11_cell_66 hS hw (Nat.zero_le _) (Nat.zero_le _) ?_
          refine ⟨f, g, (up (up N 0 4 0) 0 4 1), C, rfl, ?_⟩
          unfold sp_cell
          try simp only [Int.toNat_natCast]
          (repeat' split) <;> first | rfl | omega
      · refine lv_aload_n hx hb dX11_cell_34 rfl (lv_at hl 0 rfl) ?_
        refine va_get (D := D) (ci := 11) (v := .ref (a 2)) (C := RX11) (T := TX11) (N := 35) hx hb hts inX11 hown hK hw.2.1 0 rfl rfl 2 (by decide) (hts _ wd_676) (fun _ h9 => h9) rfl dX11_cell_35 ?_
        refine lv_iload_n hx hb dX11_cell_38 rfl (lv_at hl 1 rfl) ?_
        refine n_iald hx hb hK hw.2.1 1 0 rfl rfl (k := j) (by omega) (by decide) dX11_cell_39 ?_
        have hv_16 : N 9 j ≤ 3 := hN.2.2.2.2.2.2.2.2.2.1 j
        refine W.eq (g2 := F0 m 40 ls [.int (srt (N 9 j))]) rfl ?_
        refine lv_iload_n hx hb dX11_cell_40 rfl (lv_at hl 3 rfl) ?_
        refine i_icmp_eq (tgt := 50) hx hb (srt_T (by omega)) (nT (by omega)) dX11_cell_41 (by decide) (fun c_17 => ?_) (fun c_17 => ?_)
        · refine lv_aload_n hx hb dX11_cell_50 rfl (lv_at hl 0 rfl) ?_
          refine va_get (D := D) (ci := 11) (v := .ref (a 2)) (C := RX11) (T := TX11) (N := 35) hx hb hts inX11 hown hK hw.2.1 0 rfl rfl 2 (by decide) (hts _ wd_676) (fun _ h9 => h9) rfl dX11_cell_51 ?_
          refine lv_iload_n hx hb dX11_cell_54 rfl (lv_at hl 1 rfl) ?_
          refine n_iald hx hb hK hw.2.1 1 0 rfl rfl (k := j) (by omega) (by decide) dX11_cell_55 ?_
          have hv_18 : N 9 j ≤ 3 := hN.2.2.2.2.2.2.2.2.2.1 j
          refine W.eq (g2 := F0 m 56 ls [.int (srt (N 9 j))]) rfl ?_
          refine lv_bipush (v := (-9)) hx hb dX11_cell_56 (by decide) ?_
          refine i_icmp_ne (tgt := 67) hx hb (srt_T (by omega)) ng9 dX11_cell_58 (by decide) (fun c_19 => ?_) (fun c_19 => ?_)
          · refine lv_iload_n hx hb dX11_cell_67 rfl (lv_at hl 2 rfl) ?_
            refine lv_iconst (v := nI 0) hx hb dX11_cell_68 (by decide) ?_
            refine lv_aload_n hx hb dX11_cell_69 rfl (lv_at hl 0 rfl) ?_
            refine va_get (D := D) (ci := 11) (v := .ref (a 3)) (C := RX11) (T := TX11) (N := 35) hx hb hts inX11 hown hK hw.2.1 0 rfl rfl 3 (by decide) (hts _ wd_677) (fun _ h9 => h9) rfl dX11_cell_70 ?_
            refine lv_iload_n hx hb dX11_cell_73 rfl (lv_at hl 1 rfl) ?_
            refine n_iald hx hb hK hw.2.1 2 0 rfl rfl (k := j) (by omega) (by decide) dX11_cell_74 ?_
            have hv_20 : N 10 j ≤ 60 := hN.2.2.2.2.2.2.2.2.2.2 j
            refine W.eq (g2 := F0 m 75 ls [.int (nI (N 10 j)), .int (nI 0), .int q]) rfl ?_
            refine lv_iconst (v := nI 1) hx hb dX11_cell_75 (by decide) ?_
            refine lv_isub hx hb dX11_cell_76 ?_
            refine vp_callSi (ro_runS (c_X11_within l D ka q (nI 0) (nI (N 10 j) - nI 1) _ _ _ hq (nT (by decide)) (pk_sub_toInt (a := N 10 j) (b := 1) (by omega) (by omega))) X wd_789 wd_787 wd_788 wd_8 on_X11_within ⟨Nat.le_of_ble_eq_true rfl, Nat.le_of_ble_eq_true rfl⟩ trivial hl.1 rfl (Nat.le_of_ble_eq_true rfl) ⟨(Nat.zero_le _), (Nat.zero_le _)⟩ dX11_cell_77) (fun r_21 hr_21 => ?_)
            subst hr_21
            refine b_if_ne (tgt := 89) hx hb dX11_cell_80 (by decide) (fun c_22 => ?_) (fun c_22 => ?_)
            · obtain ⟨i, hlt_i, rfl, rfl⟩ := nat_ofK (n := N 10 j) hq (by omega) (by omega)
              refine lv_aload_n hx hb dX11_cell_89 rfl (lv_at hl 0 rfl) ?_
              refine va_get (D := D) (ci := 11) (v := .ref (a 4)) (C := RX11) (T := TX11) (N := 35) hx hb hts inX11 hown hK hw.2.1 0 rfl rfl 4 (by decide) (hts _ wd_678) (fun _ h9 => h9) rfl dX11_cell_90 ?_
              refine lv_bipush (v := nI 60) hx hb dX11_cell_93 (by decide) ?_
              refine lv_iload_n hx hb dX11_cell_95 rfl (lv_at hl 1 rfl) ?_
              refine n_imul hx hb dX11_cell_96 ?_
              refine lv_iload_n hx hb dX11_cell_97 rfl (lv_at hl 2 rfl) ?_
              refine n_iadd hx hb dX11_cell_98 ?_
              refine n_iald hx hb hK hw.2.1 3 0 rfl rfl (k := (60 * j) + i) (by omega) (by decide) dX11_cell_99 ?_
              refine W.eq (g2 := F0 m 100 ls [.int (C (((60 * j) + i) / 60) (((60 * j) + i) % 60))]) rfl ?_
              rw [show (60 * j + i) / 60 = j by omega, show (60 * j + i) % 60 = i by omega]
              refine lv_i2l (v := (C j i).toInt64) hx hb dX11_cell_100 rfl ?_
              refine hret _ _ _ _ _ _ _ _ dX11_cell_101 hS hw (Nat.zero_le _) (Nat.zero_le _) ?_
              refine ⟨f, g, (up N 0 4 0), C, rfl, ?_⟩
              unfold sp_cell
              try simp only [Int.toNat_natCast]
              (repeat' split) <;> first | rfl | omega
            · refine lv_aload_n hx hb dX11_cell_83 rfl (lv_at hl 0 rfl) ?_
              refine lv_iconst (v := nI 3) hx hb dX11_cell_84 (by decide) ?_
              refine mu_l (mu_runV (c_X11_lost l D ka z h a (up N 0 4 0) C f g R 3 (by omega) (WF.up04 (v := 0) hN (by omega))) X wd_979 wd_976 wd_978 ws_22 wd_8 on_X11_lost ⟨Nat.le_of_ble_eq_true rfl, Nat.le_of_ble_eq_true rfl⟩ (va_recv hK hw.2.1 (ci := 11) (q0 := 0) rfl rfl) hw hl.1 rfl (Nat.le_of_ble_eq_true rfl) ⟨Nat.le_of_ble_eq_true rfl, Nat.le_of_ble_eq_true rfl⟩ dX11_cell_85) hS (fun r_24 u_23 H locs hp_u_23 hw hS => ?_)
              obtain ⟨rfl, rfl⟩ := hp_u_23
              refine hret _ _ _ _ _ _ _ _ dX11_cell_88 hS hw (Nat.zero_le _) (Nat.zero_le _) ?_
              refine ⟨f, g, (up (up N 0 4 0) 0 4 3), C, rfl, ?_⟩
              unfold sp_cell
              try simp only [Int.toNat_natCast]
              (repeat' split) <;> first | rfl | omega
          · refine lv_aload_n hx hb dX11_cell_61 rfl (lv_at hl 0 rfl) ?_
            refine lv_iconst (v := nI 1) hx hb dX11_cell_62 (by decide) ?_
            refine mu_l (mu_runV (c_X11_lost l D ka z h a (up N 0 4 0) C f g R 1 (by omega) (WF.up04 (v := 0) hN (by omega))) X wd_979 wd_976 wd_978 ws_22 wd_8 on_X11_lost ⟨Nat.le_of_ble_eq_true rfl, Nat.le_of_ble_eq_true rfl⟩ (va_recv hK hw.2.1 (ci := 11) (q0 := 0) rfl rfl) hw hl.1 rfl (Nat.le_of_ble_eq_true rfl) ⟨Nat.le_of_ble_eq_true rfl, Nat.le_of_ble_eq_true rfl⟩ dX11_cell_63) hS (fun r_26 u_25 H locs hp_u_25 hw hS => ?_)
            obtain ⟨rfl, rfl⟩ := hp_u_25
            refine hret _ _ _ _ _ _ _ _ dX11_cell_66 hS hw (Nat.zero_le _) (Nat.zero_le _) ?_
            refine ⟨f, g, (up (up N 0 4 0) 0 4 1), C, rfl, ?_⟩
            unfold sp_cell
            try simp only [Int.toNat_natCast]
            (repeat' split) <;> first | rfl | omega
        · refine lv_aload_n hx hb dX11_cell_44 rfl (lv_at hl 0 rfl) ?_
          refine lv_iconst (v := nI 2) hx hb dX11_cell_45 (by decide) ?_
          refine mu_l (mu_runV (c_X11_lost l D ka z h a (up N 0 4 0) C f g R 2 (by omega) (WF.up04 (v := 0) hN (by omega))) X wd_979 wd_976 wd_978 ws_22 wd_8 on_X11_lost ⟨Nat.le_of_ble_eq_true rfl, Nat.le_of_ble_eq_true rfl⟩ (va_recv hK hw.2.1 (ci := 11) (q0 := 0) rfl rfl) hw hl.1 rfl (Nat.le_of_ble_eq_true rfl) ⟨Nat.le_of_ble_eq_true rfl, Nat.le_of_ble_eq_true rfl⟩ dX11_cell_46) hS (fun r_28 u_27 H locs hp_u_27 hw hS => ?_)
          obtain ⟨rfl, rfl⟩ := hp_u_27
          refine hret _ _ _ _ _ _ _ _ dX11_cell_49 hS hw (Nat.zero_le _) (Nat.zero_le _) ?_
          refine ⟨f, g, (up (up N 0 4 0) 0 4 2), C, rfl, ?_⟩
          unfold sp_cell
          try simp only [Int.toNat_natCast]
          (repeat' split) <;> first | rfl | omega
    · refine lv_ldc2 (v := (-9223372036854775808 : Int64)) hx hb hown (hts _ wd_956) dX11_cell_19 ?_
      refine hret _ _ _ _ _ _ _ _ dX11_cell_22 hS hw (Nat.zero_le _) (Nat.zero_le _) ?_
      refine ⟨f, g, (up N 0 4 0), C, rfl, ?_⟩
      unfold sp_cell
      try simp only [Int.toNat_natCast]
      (repeat' split) <;> first | rfl | omega
