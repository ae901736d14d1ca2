set_option maxRecDepth 100000 in
set_option maxHeartbeats 4000000 in
theorem c_X8_clear (l : Launch) (D : va_G) (ka : Nat → ClassId) (z : Nat) (v : Nat → Nat) (np nt ng : Nat) (wf df : Nat → Int32) (tf : Nat → Option Nat) (R : va_W) : MU l D ka z yX8_clear cX8_clear 1 none 0 0 0 [.ref (v 0)] (vlw ka v np nt ng wf df tf ++ R) (Qv D z (fun w => w = vlw ka v 0 0 0 wf df tf ++ R)) := by
  refine MU.ofV (by decide) (Nat.le_of_ble_eq_true rfl) ?_
  intro p e s m args below meth c Q X hin hw hS hret ls hl
  obtain ⟨hx, hb, hml, hown, hts, hE⟩ := id X
  have hK := hE.1
  have hz0 := hw.1
  have hl : lv_has ls 1 [(0, .ref (v 0))] := hl
  refine lv_aload_n hx hb dX8_clear_0 rfl (lv_at hl 0 rfl) ?_
  refine lv_iconst (v := nI 0) hx hb dX8_clear_1 (by decide) ?_
  refine va_put (D := D) (ci := 8) (v := .int (nI 0)) (ty := .int) (C := RX8) (T := TX8) (N := 6) hx hb hts inX8 tyX8 tyX8_ok nmX8 hown hK hw.2.1 hw.2.2 hS 0 rfl rfl 3 (by decide) (hts _ wd_49) (fun _ h9 => h9) rfl (by decide +kernel) rfl rfl (Nat.le_of_ble_eq_true rfl) dX8_clear_2 (fun H locs hP hD hS => ?_)
  have hw : wdH D z (([((v 0), .inr (8, [.ref (v 1), .ref (v 2), .ref (v 3), .int (nI 0), .int (nI nt), .int (nI ng)])), ((v 1), .inl (ka 0, 6, .inl (wf))), ((v 2), .inl (ka 2, 5, .inr (.inr (.inr (.inr (tf)))))), ((v 3), .inl (ka 0, 5, .inl (df)))] : va_W) ++ R) H := ⟨Nat.le_trans hz0 hS.1, hP, hD⟩
  refine lv_aload_n hx hb dX8_clear_5 rfl (lv_at hl 0 rfl) ?_
  refine lv_iconst (v := nI 0) hx hb dX8_clear_6 (by decide) ?_
  refine va_put (D := D) (ci := 8) (v := .int (nI 0)) (ty := .int) (C := RX8) (T := TX8) (N := 6) hx hb hts inX8 tyX8 tyX8_ok nmX8 hown hK hw.2.1 hw.2.2 hS 0 rfl rfl 4 (by decide) (hts _ wd_52) (fun _ h9 => h9) rfl (by decide +kernel) rfl rfl (Nat.le_of_ble_eq_true rfl) dX8_clear_7 (fun H locs hP hD hS => ?_)
  have hw : wdH D z (([((v 0), .inr (8, [.ref (v 1), .ref (v 2), .ref (v 3), .int (nI 0), .int (nI 0), .int (nI ng)])), ((v 1), .inl (ka 0, 6, .inl (wf))), ((v 2), .inl (ka 2, 5, .inr (.inr (.inr (.inr (tf)))))), ((v 3), .inl (ka 0, 5, .inl (df)))] : va_W) ++ R) H := ⟨Nat.le_trans hz0 hS.1, hP, hD⟩
  refine lv_aload_n hx hb dX8_clear_10 rfl (lv_at hl 0 rfl) ?_
  refine lv_iconst (v := nI 0) hx hb dX8_clear_11 (by decide) ?_
  refine va_put (D := D) (ci := 8) (v := .int (nI 0)) (ty := .int) (C := RX8) (T := TX8) (N := 6) hx hb hts inX8 tyX8 tyX8_ok nmX8 hown hK hw.2.1 hw.2.2 hS 0 rfl rfl 5 (by decide) (hts _ wd_56) (fun _ h9 => h9) rfl (by decide +kernel) rfl rfl (Nat.le_of_ble_eq_true rfl) dX8_clear_12 (fun H locs hP hD hS => ?_)
  have hw : wdH D z (([((v 0), .inr (8, [.ref (v 1), .ref (v 2), .ref (v 3), .int (nI 0), .int (nI 0), .int (nI 0)])), ((v 1), .inl (ka 0, 6, .inl (wf))), ((v 2), .inl (ka 2, 5, .inr (.inr (.inr (.inr (tf)))))), ((v 3), .inl (ka 0, 5, .inl (df)))] : va_W) ++ R) H := ⟨Nat.le_trans hz0 hS.1, hP, hD⟩
  exact hret _ _ _ _ _ _ _ dX8_clear_15 hS hw (Nat.zero_le _) (Nat.zero_le _) rfl
set_option maxRecDepth 100000 in
set_option maxHeartbeats 4000000 in
theorem c_X2_add (l : Launch) (D : va_G) (ka : Nat → ClassId) (z : Nat) (b : Nat → Nat) (N : NN) (h8 : N 0 3 ≤ 8) (aq mq hq : Nat) (R : va_W) : MU l D ka z yX2_add cX2_add 4 (some .int) 0 0 0 [.ref (b 0), .int (nI aq), .int (nI mq), .int (nI hq)] (rdw ka b N ++ R) (Qi D z (fun r w => (N 0 3 = 8 ∧ r = -4 ∧ w = rdw ka b N ++ R) ∨ (N 0 3 < 8 ∧ r = nI (N 0 3) ∧ w = rdw ka b (up (up (up (up N 6 (N 0 3) aq) 7 (N 0 3) mq) 8 (N 0 3) hq) 0 3 (N 0 3 + 1)) ++ R))) := by
  refine MU.ofI (by decide) (Nat.le_of_ble_eq_true rfl) ?_
  intro p e s m args below meth c Q X hw hS hret ls hl
  obtain ⟨hx, hb, hml, hown, hts, hE⟩ := id X
  have hK := hE.1
  have hz0 := hw.1
  have hl : lv_has ls 4 [(0, .ref (b 0)), (1, .int (nI aq)), (2, .int (nI mq)), (3, .int (nI hq))] := hl
  refine lv_aload_n hx hb dX2_add_0 rfl (lv_at hl 0 rfl) ?_
  refine va_get (D := D) (ci := 2) (v := .int (nI (N 0 3))) (C := RX2) (T := TX2) (N := 4) hx hb hts inX2 hown hK hw.2.1 0 rfl rfl 3 (by decide) (hts _ wd_105) (fun _ h9 => h9) rfl dX2_add_1 ?_
  refine lv_bipush (v := nI 8) hx hb dX2_add_4 (by decide) ?_
  refine i_icmp_lt (tgt := 12) hx hb (nT (by omega)) (nT (by decide)) dX2_add_6 (by decide) (fun c_1 => ?_) (fun c_1 => ?_)
  · refine lv_aload_n hx hb dX2_add_12 rfl (lv_at hl 0 rfl) ?_
    refine va_get (D := D) (ci := 2) (v := .ref (b 1)) (C := RX2) (T := TX2) (N := 4) hx hb hts inX2 hown hK hw.2.1 0 rfl rfl 0 (by decide) (hts _ wd_102) (fun _ h9 => h9) rfl dX2_add_13 ?_
    refine lv_aload_n hx hb dX2_add_16 rfl (lv_at hl 0 rfl) ?_
    refine va_get (D := D) (ci := 2) (v := .int (nI (N 0 3))) (C := RX2) (T := TX2) (N := 4) hx hb hts inX2 hown hK hw.2.1 0 rfl rfl 3 (by decide) (hts _ wd_105) (fun _ h9 => h9) rfl dX2_add_17 ?_
    refine lv_iload_n hx hb dX2_add_20 rfl (lv_at hl 1 rfl) ?_
    refine r_iast hx hb hK hw.2.1 hw.2.2 hS 1 0 rfl rfl (k := N 0 3) (by omega) (by decide) dX2_add_21 (fun H locs hP hD hS => ?_)
    have hw : wdH D z (([((b 0), .inr (2, [.ref (b 1), .ref (b 2), .ref (b 3), .int (nI (N 0 3))])), ((b 1), .inl (ka 0, 8, .inl (upd (fun j => nI (N 6 j)) (N 0 3) (nI aq)))), ((b 2), .inl (ka 0, 8, .inl (fun j => nI (N 7 j)))), ((b 3), .inl (ka 0, 8, .inl (fun j => nI (N 8 j))))] : va_W) ++ R) H := ⟨Nat.le_trans hz0 hS.1, hP, hD⟩
    refine lv_aload_n hx hb dX2_add_22 rfl (lv_at hl 0 rfl) ?_
    refine va_get (D := D) (ci := 2) (v := .ref (b 2)) (C := RX2) (T := TX2) (N := 4) hx hb hts inX2 hown hK hw.2.1 0 rfl rfl 1 (by decide) (hts _ wd_103) (fun _ h9 => h9) rfl dX2_add_23 ?_
    refine lv_aload_n hx hb dX2_add_26 rfl (lv_at hl 0 rfl) ?_
    refine va_get (D := D) (ci := 2) (v := .int (nI (N 0 3))) (C := RX2) (T := TX2) (N := 4) hx hb hts inX2 hown hK hw.2.1 0 rfl rfl 3 (by decide) (hts _ wd_105) (fun _ h9 => h9) rfl dX2_add_27 ?_
    refine lv_iload_n hx hb dX2_add_30 rfl (lv_at hl 2 rfl) ?_
    refine r_iast hx hb hK hw.2.1 hw.2.2 hS 2 0 rfl rfl (k := N 0 3) (by omega) (by decide) dX2_add_31 (fun H locs hP hD hS => ?_)
    have hw : wdH D z (([((b 0), .inr (2, [.ref (b 1), .ref (b 2), .ref (b 3), .int (nI (N 0 3))])), ((b 1), .inl (ka 0, 8, .inl (upd (fun j => nI (N 6 j)) (N 0 3) (nI aq)))), ((b 2), .inl (ka 0, 8, .inl (upd (fun j => nI (N 7 j)) (N 0 3) (nI mq)))), ((b 3), .inl (ka 0, 8, .inl (fun j => nI (N 8 j))))] : va_W) ++ R) H := ⟨Nat.le_trans hz0 hS.1, hP, hD⟩
    refine lv_aload_n hx hb dX2_add_32 rfl (lv_at hl 0 rfl) ?_
    refine va_get (D := D) (ci := 2) (v := .ref (b 3)) (C := RX2) (T := TX2) (N := 4) hx hb hts inX2 hown hK hw.2.1 0 rfl rfl 2 (by decide) (hts _ wd_104) (fun _ h9 => h9) rfl dX2_add_33 ?_
    refine lv_aload_n hx hb dX2_add_36 rfl (lv_at hl 0 rfl) ?_
    refine va_get (D := D) (ci := 2) (v := .int (nI (N 0 3))) (C := RX2) (T := TX2) (N := 4) hx hb hts inX2 hown hK hw.2.1 0 rfl rfl 3 (by decide) (hts _ wd_105) (fun _ h9 => h9) rfl dX2_add_37 ?_
    refine lv_iload_n hx hb dX2_add_40 rfl (lv_at hl 3 rfl) ?_
    refine r_iast hx hb hK hw.2.1 hw.2.2 hS 3 0 rfl rfl (k := N 0 3) (by omega) (by decide) dX2_add_41 (fun H locs hP hD hS => ?_)
    have hw : wdH D z (([((b 0), .inr (2, [.ref (b 1), .ref (b 2), .ref (b 3), .int (nI (N 0 3))])), ((b 1), .inl (ka 0, 8, .inl (upd (fun j => nI (N 6 j)) (N 0 3) (nI aq)))), ((b 2), .inl (ka 0, 8, .inl (upd (fun j => nI (N 7 j)) (N 0 3) (nI mq)))), ((b 3), .inl (ka 0, 8, .inl (upd (fun j => nI (N 8 j)) (N 0 3) (nI hq))))] : va_W) ++ R) H := ⟨Nat.le_trans hz0 hS.1, hP, hD⟩
    refine lv_aload_n hx hb dX2_add_42 rfl (lv_at hl 0 rfl) ?_
    refine lv_dup hx hb dX2_add_43 rfl ?_
    refine va_get (D := D) (ci := 2) (v := .int (nI (N 0 3))) (C := RX2) (T := TX2) (N := 4) hx hb hts inX2 hown hK hw.2.1 0 rfl rfl 3 (by decide) (hts _ wd_105) (fun _ h9 => h9) rfl dX2_add_44 ?_
    refine lv_iconst (v := nI 1) hx hb dX2_add_47 (by decide) ?_
    refine n_iadd hx hb dX2_add_48 ?_
    refine va_put (D := D) (ci := 2) (v := .int (nI ((N 0 3) + 1))) (ty := .int) (C := RX2) (T := TX2) (N := 4) hx hb hts inX2 tyX2 tyX2_ok nmX2 hown hK hw.2.1 hw.2.2 hS 0 rfl rfl 3 (by decide) (hts _ wd_105) (fun _ h9 => h9) rfl (by decide +kernel) rfl rfl (Nat.le_of_ble_eq_true rfl) dX2_add_49 (fun H locs hP hD hS => ?_)
    have hw : wdH D z (([((b 0), .inr (2, [.ref (b 1), .ref (b 2), .ref (b 3), .int (nI ((N 0 3) + 1))])), ((b 1), .inl (ka 0, 8, .inl (upd (fun j => nI (N 6 j)) (N 0 3) (nI aq)))), ((b 2), .inl (ka 0, 8, .inl (upd (fun j => nI (N 7 j)) (N 0 3) (nI mq)))), ((b 3), .inl (ka 0, 8, .inl (upd (fun j => nI (N 8 j)) (N 0 3) (nI hq))))] : va_W) ++ R) H := ⟨Nat.le_trans hz0 hS.1, hP, hD⟩
    refine lv_aload_n hx hb dX2_add_52 rfl (lv_at hl 0 rfl) ?_
    refine va_get (D := D) (ci := 2) (v := .int (nI ((N 0 3) + 1))) (C := RX2) (T := TX2) (N := 4) hx hb hts inX2 hown hK hw.2.1 0 rfl rfl 3 (by decide) (hts _ wd_105) (fun _ h9 => h9) rfl dX2_add_53 ?_
    refine lv_iconst (v := nI 1) hx hb dX2_add_56 (by decide) ?_
    refine n_isub hx hb (by omega) dX2_add_57 ?_
    exact hret _ _ _ _ _ _ _ _ dX2_add_58 hS hw (Nat.zero_le _) (Nat.zero_le _) (Or.inr ⟨by omega, rfl, by rw [upd_phi (φ := nI) (u := N 6), upd_phi (φ := nI) (u := N 7), upd_phi (φ := nI) (u := N 8)]; rfl⟩)
  · refine lv_bipush (v := (-4)) hx hb dX2_add_9 (by decide) ?_
    exact hret _ _ _ _ _ _ _ _ dX2_add_11 hS hw (Nat.zero_le _) (Nat.zero_le _) (Or.inl ⟨by omega, rfl, rfl⟩)
set_option maxRecDepth 100000 in
set_option maxHeartbeats 4000000 in
theorem c_X3_init (l : Launch) (D : va_G) (ka : Nat → ClassId) (z : Nat) (q la n1 : Nat) (hn1 : n1 ≤ 60) (R : va_W) : MU l D ka z yX3_init cX3_init 3 none 1 1 60 [.ref q, .int (nI la), .int (nI n1)] (([(q, .inr (3, [.int 0, .null]))] : va_W) ++ R) (Qv D z (fun w => ∃ c : Nat, w = ([(q, .inr (3, [.int (nI la), .ref c])), (c, .inl (ka 0, n1, .inl (fun _ => 0)))] : va_W) ++ R)) := by
  refine MU.ofV (by decide) (Nat.le_of_ble_eq_true rfl) ?_
  intro p e s m args below meth c Q X hin hw hS hret ls hl
  obtain ⟨hx, hb, hml, hown, hts, hE⟩ := id X
  have hK := hE.1
  have hz0 := hw.1
  have hl : lv_has ls 3 [(0, .ref q), (1, .int (nI la)), (2, .int (nI n1))] := hl
  refine lv_aload_n hx hb dX3_init_0 rfl (lv_at hl 0 rfl) ?_
  refine W.objInit hx hb hown (hts _ wd_566) (hts _ wd_21) (hts _ wd_22) rfl (by rw [hml]; exact hl.1) rfl dX3_init_1 (Nat.le_of_ble_eq_true rfl) (Nat.le_of_ble_eq_true rfl) ?_
  refine W.eq (g2 := F0 m 4 ls []) rfl ?_
  refine lv_aload_n hx hb dX3_init_4 rfl (lv_at hl 0 rfl) ?_
  refine lv_iload_n hx hb dX3_init_5 rfl (lv_at hl 1 rfl) ?_
  refine va_putF (D := D) (ci := 3) (v := .int (nI la)) (ty := .int) (C := RX3) (T := TX3) (N := 2) hx hb hts inX3 tyX3 tyX3_ok nmX3 hown hK hw.2.1 hw.2.2 hS 0 rfl rfl 0 (by decide) (hts _ wd_568) (fun _ h9 => h9) rfl (hin rfl) rfl (by decide +kernel) rfl rfl (Nat.le_of_ble_eq_true rfl) dX3_init_6 (fun H locs hP hD hS => ?_)
  have hw : wdH D z (([(q, .inr (3, [.int (nI la), .null]))] : va_W) ++ R) H := ⟨Nat.le_trans hz0 hS.1, hP, hD⟩
  refine lv_aload_n hx hb dX3_init_9 rfl (lv_at hl 0 rfl) ?_
  refine lv_iconst (v := nI 0) hx hb dX3_init_10 (by decide) ?_
  refine lv_iload_n hx hb dX3_init_11 rfl (lv_at hl 2 rfl) ?_
  refine va_mmax hx hb (hml.trans hl.1.symm) hown (hts _ wd_567) (hts _ wd_367) (hts _ wd_12) (hts _ wd_368) (Nat.le_of_ble_eq_true rfl) (Nat.le_of_ble_eq_true rfl) (Nat.zero_le _) (Nat.zero_le _) dX3_init_12 ?_
  rw [n_max (a := 0) (b := n1) (by omega) (by omega)]
  rw [Nat.zero_max]
  refine n_newa (L := [(q, .inr (3, [.int (nI la), .null]))]) (Rw := R) X wd_73 hw hS hz0 (n := n1) (by omega) (Nat.le_of_ble_eq_true rfl) (by show 0 + n1 ≤ 60; omega) dX3_init_15 (fun q_1 H hw hS => ?_)
  have hw : wdH D z (([(q, .inr (3, [.int (nI la), .null])), (q_1, .inl (ka 0, n1, .inl (fun _ => 0)))] : va_W) ++ R) H := hw
  refine va_putF (D := D) (ci := 3) (v := .ref q_1) (ty := (.array .int)) (C := RX3) (T := TX3) (N := 2) hx hb hts inX3 tyX3 tyX3_ok nmX3 hown hK hw.2.1 hw.2.2 hS 0 rfl rfl 1 (by decide) (hts _ wd_570) (fun _ h9 => h9) rfl (hin rfl) rfl (by decide +kernel) rfl rfl (Nat.le_of_ble_eq_true rfl) dX3_init_17 (fun H locs hP hD hS => ?_)
  have hw : wdH D z (([(q, .inr (3, [.int (nI la), .ref q_1])), (q_1, .inl (ka 0, n1, .inl (fun _ => 0)))] : va_W) ++ R) H := ⟨Nat.le_trans hz0 hS.1, hP, hD⟩
  exact hret _ _ _ _ _ _ _ dX3_init_20 hS hw (Nat.le_of_ble_eq_true rfl) (by show 0 + n1 ≤ 60; omega) ⟨q_1, rfl⟩
set_option maxRecDepth 100000 in
set_option maxHeartbeats 4000000 in
theorem c_X6_tt6 (l : Launch) (D : va_G) (ka : Nat → ClassId) (z : Nat) (tr q : Nat) (tv nu : Int32) (nv mi : Nat) (R : va_W) : MU l D ka z yX6_takersTelling cX6_takersTelling 2 (some .int) 1 0 0 [.ref q, .ref tr] (([(tr, .inr (7, [.int tv])), (q, .inr (6, [.int nu, .int (nI nv), .int (nI mi)]))] : va_W) ++ R) (Qi D z (fun r w => r = nI nv ∧ w = ([(tr, .inr (7, [.int (bg tv 1)])), (q, .inr (6, [.int nu, .int (nI nv), .int (nI mi)]))] : va_W) ++ R)) := by
  refine MU.ofI (by decide) (Nat.le_of_ble_eq_true rfl) ?_
  intro p e s m args below meth c Q X hw hS hret ls hl
  obtain ⟨hx, hb, hml, hown, hts, hE⟩ := id X
  have hK := hE.1
  have hz0 := hw.1
  have hl : lv_has ls 2 [(0, .ref q), (1, .ref tr)] := hl
  refine lv_aload_n hx hb dX6_takersTelling_0 rfl (lv_at hl 1 rfl) ?_
  refine lv_iconst (v := nI 1) hx hb dX6_takersTelling_1 (by decide) ?_
  refine mu_v (mu_runV (c_X7_leave l D ka z tr tv (([(q, .inr (6, [.int nu, .int (nI nv), .int (nI mi)]))] : va_W) ++ R) 1) X wd_620 wd_628 wd_618 wd_619 wd_7 on_X7_leave ⟨Nat.le_of_ble_eq_true rfl, Nat.le_of_ble_eq_true rfl⟩ (va_recv hK hw.2.1 (ci := 7) (q0 := 0) rfl rfl) hw hl.1 rfl (Nat.le_of_ble_eq_true rfl) ⟨Nat.le_of_ble_eq_true rfl, Nat.le_of_ble_eq_true rfl⟩ dX6_takersTelling_2) hS (fun u_1 H locs hp_u_1 hw hS => ?_)
  subst hp_u_1
  have hw : wdH D z (([(tr, .inr (7, [.int (bg tv 1)])), (q, .inr (6, [.int nu, .int (nI nv), .int (nI mi)]))] : va_W) ++ R) H := hw
  refine lv_aload_n hx hb dX6_takersTelling_5 rfl (lv_at hl 0 rfl) ?_
  refine va_get (D := D) (ci := 6) (v := .int (nI nv)) (C := RX6) (T := TX6) (N := 3) hx hb hts inX6 hown hK hw.2.1 1 rfl rfl 1 (by decide) (hts _ wd_271) (fun _ h9 => h9) rfl dX6_takersTelling_6 ?_
  exact hret _ _ _ _ _ _ _ _ dX6_takersTelling_9 hS hw (Nat.zero_le _) (Nat.zero_le _) ⟨rfl, rfl⟩
set_option maxRecDepth 100000 in
set_option maxHeartbeats 4000000 in
theorem c_X6_tt5 (l : Launch) (D : va_G) (ka : Nat → ClassId) (z : Nat) (tr q : Nat) (tv nu : Int32) (nv mi : Nat) (R : va_W) : MU l D ka z yX6_takersTelling cX6_takersTelling 2 (some .int) 1 0 0 [.ref q, .ref tr] (([(tr, .inr (7, [.int tv])), (q, .inr (5, [.int nu, .int (nI nv), .int (nI mi)]))] : va_W) ++ R) (Qi D z (fun r w => r = nI nv ∧ w = ([(tr, .inr (7, [.int (bg tv 1)])), (q, .inr (5, [.int nu, .int (nI nv), .int (nI mi)]))] : va_W) ++ R)) := by
  refine MU.ofI (by decide) (Nat.le_of_ble_eq_true rfl) ?_
  intro p e s m args below meth c Q X hw hS hret ls hl
  obtain ⟨hx, hb, hml, hown, hts, hE⟩ := id X
  have hK := hE.1
  have hz0 := hw.1
  have hl : lv_has ls 2 [(0, .ref q), (1, .ref tr)] := hl
  refine lv_aload_n hx hb dX6_takersTelling_0 rfl (lv_at hl 1 rfl) ?_
  refine lv_iconst (v := nI 1) hx hb dX6_takersTelling_1 (by decide) ?_
  refine mu_v (mu_runV (c_X7_leave l D ka z tr tv (([(q, .inr (5, [.int nu, .int (nI nv), .int (nI mi)]))] : va_W) ++ R) 1) X wd_620 wd_628 wd_618 wd_619 wd_7 on_X7_leave ⟨Nat.le_of_ble_eq_true rfl, Nat.le_of_ble_eq_true rfl⟩ (va_recv hK hw.2.1 (ci := 7) (q0 := 0) rfl rfl) hw hl.1 rfl (Nat.le_of_ble_eq_true rfl) ⟨Nat.le_of_ble_eq_true rfl, Nat.le_of_ble_eq_true rfl⟩ dX6_takersTelling_2) hS (fun u_1 H locs hp_u_1 hw hS => ?_)
  subst hp_u_1
  have hw : wdH D z (([(tr, .inr (7, [.int (bg tv 1)])), (q, .inr (5, [.int nu, .int (nI nv), .int (nI mi)]))] : va_W) ++ R) H := hw
  refine lv_aload_n hx hb dX6_takersTelling_5 rfl (lv_at hl 0 rfl) ?_
  refine va_get (D := D) (ci := 5) (v := .int (nI nv)) (C := RX5) (T := TX5) (N := 3) hx hb hts inX5 hown hK hw.2.1 1 rfl rfl 1 (by decide) (hts _ wd_271) (fun _ h9 => h9) rfl dX6_takersTelling_6 ?_
  exact hret _ _ _ _ _ _ _ _ dX6_takersTelling_9 hS hw (Nat.zero_le _) (Nat.zero_le _) ⟨rfl, rfl⟩
set_option maxRecDepth 100000 in
set_option maxHeartbeats 4000000 in
theorem c_X6_tt9 (l : Launch) (D : va_G) (ka : Nat → ClassId) (z : Nat) (tr q : Nat) (tv nu : Int32) (nv mi : Nat) (R : va_W) : MU l D ka z yX6_takersTelling cX6_takersTelling 2 (some .int) 1 0 0 [.ref q, .ref tr] (([(tr, .inr (7, [.int tv])), (q, .inr (9, [.int nu, .int (nI nv), .int (nI mi)]))] : va_W) ++ R) (Qi D z (fun r w => r = nI nv ∧ w = ([(tr, .inr (7, [.int (bg tv 1)])), (q, .inr (9, [.int nu, .int (nI nv), .int (nI mi)]))] : va_W) ++ R)) := by
  refine MU.ofI (by decide) (Nat.le_of_ble_eq_true rfl) ?_
  intro p e s m args below meth c Q X hw hS hret ls hl
  obtain ⟨hx, hb, hml, hown, hts, hE⟩ := id X
  have hK := hE.1
  have hz0 := hw.1
  have hl : lv_has ls 2 [(0, .ref q), (1, .ref tr)] := hl
  refine lv_aload_n hx hb dX6_takersTelling_0 rfl (lv_at hl 1 rfl) ?_
  refine lv_iconst (v := nI 1) hx hb dX6_takersTelling_1 (by decide) ?_
  refine mu_v (mu_runV (c_X7_leave l D ka z tr tv (([(q, .inr (9, [.int nu, .int (nI nv), .int (nI mi)]))] : va_W) ++ R) 1) X wd_620 wd_628 wd_618 wd_619 wd_7 on_X7_leave ⟨Nat.le_of_ble_eq_true rfl, Nat.le_of_ble_eq_true rfl⟩ (va_recv hK hw.2.1 (ci := 7) (q0 := 0) rfl rfl) hw hl.1 rfl (Nat.le_of_ble_eq_true rfl) ⟨Nat.le_of_ble_eq_true rfl, Nat.le_of_ble_eq_true rfl⟩ dX6_takersTelling_2) hS (fun u_1 H locs hp_u_1 hw hS => ?_)
  subst hp_u_1
  have hw : wdH D z (([(tr, .inr (7, [.int (bg tv 1)])), (q, .inr (9, [.int nu, .int (nI nv), .int (nI mi)]))] : va_W) ++ R) H := hw
  refine lv_aload_n hx hb dX6_takersTelling_5 rfl (lv_at hl 0 rfl) ?_
  refine va_get (D := D) (ci := 9) (v := .int (nI nv)) (C := RX9) (T := TX9) (N := 3) hx hb hts inX9 hown hK hw.2.1 1 rfl rfl 1 (by decide) (hts _ wd_271) (fun _ h9 => h9) rfl dX6_takersTelling_6 ?_
  exact hret _ _ _ _ _ _ _ _ dX6_takersTelling_9 hS hw (Nat.zero_le _) (Nat.zero_le _) ⟨rfl, rfl⟩
set_option maxRecDepth 100000 in
set_option maxHeartbeats 4000000 in
theorem c_X6_rung6 (l : Launch) (D : va_G) (ka : Nat → ClassId) (z : Nat) (tr q : Nat) (tv nu : Int32) (nv mi : Nat) (R : va_W) : MU l D ka z yX6_rung cX6_rung 2 (some .int) 1 0 0 [.ref q, .ref tr] (([(tr, .inr (7, [.int tv])), (q, .inr (6, [.int nu, .int (nI nv), .int (nI mi)]))] : va_W) ++ R) (Qi D z (fun r w => r = nu ∧ w = ([(tr, .inr (7, [.int (bg tv 4)])), (q, .inr (6, [.int nu, .int (nI nv), .int (nI mi)]))] : va_W) ++ R)) := by
  refine MU.ofI (by decide) (Nat.le_of_ble_eq_true rfl) ?_
  intro p e s m args below meth c Q X hw hS hret ls hl
  obtain ⟨hx, hb, hml, hown, hts, hE⟩ := id X
  have hK := hE.1
  have hz0 := hw.1
  have hl : lv_has ls 2 [(0, .ref q), (1, .ref tr)] := hl
  refine lv_aload_n hx hb dX6_rung_0 rfl (lv_at hl 1 rfl) ?_
  refine lv_iconst (v := nI 4) hx hb dX6_rung_1 (by decide) ?_
  refine mu_v (mu_runV (c_X7_leave l D ka z tr tv (([(q, .inr (6, [.int nu, .int (nI nv), .int (nI mi)]))] : va_W) ++ R) 4) X wd_620 wd_628 wd_618 wd_619 wd_7 on_X7_leave ⟨Nat.le_of_ble_eq_true rfl, Nat.le_of_ble_eq_true rfl⟩ (va_recv hK hw.2.1 (ci := 7) (q0 := 0) rfl rfl) hw hl.1 rfl (Nat.le_of_ble_eq_true rfl) ⟨Nat.le_of_ble_eq_true rfl, Nat.le_of_ble_eq_true rfl⟩ dX6_rung_2) hS (fun u_1 H locs hp_u_1 hw hS => ?_)
  subst hp_u_1
  have hw : wdH D z (([(tr, .inr (7, [.int (bg tv 4)])), (q, .inr (6, [.int nu, .int (nI nv), .int (nI mi)]))] : va_W) ++ R) H := hw
  refine lv_aload_n hx hb dX6_rung_5 rfl (lv_at hl 0 rfl) ?_
  refine va_get (D := D) (ci := 6) (v := .int nu) (C := RX6) (T := TX6) (N := 3) hx hb hts inX6 hown hK hw.2.1 1 rfl rfl 0 (by decide) (hts _ wd_269) (fun _ h9 => h9) rfl dX6_rung_6 ?_
  exact hret _ _ _ _ _ _ _ _ dX6_rung_9 hS hw (Nat.zero_le _) (Nat.zero_le _) ⟨rfl, rfl⟩
set_option maxRecDepth 100000 in
set_option maxHeartbeats 4000000 in
theorem c_X6_rung5 (l : Launch) (D : va_G) (ka : Nat → ClassId) (z : Nat) (tr q : Nat) (tv nu : Int32) (nv mi : Nat) (R : va_W) : MU l D ka z yX6_rung cX6_rung 2 (some .int) 1 0 0 [.ref q, .ref tr] (([(tr, .inr (7, [.int tv])), (q, .inr (5, [.int nu, .int (nI nv), .int (nI mi)]))] : va_W) ++ R) (Qi D z (fun r w => r = nu ∧ w = ([(tr, .inr (7, [.int (bg tv 4)])), (q, .inr (5, [.int nu, .int (nI nv), .int (nI mi)]))] : va_W) ++ R)) := by
  refine MU.ofI (by decide) (Nat.le_of_ble_eq_true rfl) ?_
  intro p e s m args below meth c Q X hw hS hret ls hl
  obtain ⟨hx, hb, hml, hown, hts, hE⟩ := id X
  have hK := hE.1
  have hz0 := hw.1
  have hl : lv_has ls 2 [(0, .ref q), (1, .ref tr)] := hl
  refine lv_aload_n hx hb dX6_rung_0 rfl (lv_at hl 1 rfl) ?_
  refine lv_iconst (v := nI 4) hx hb dX6_rung_1 (by decide) ?_
  refine mu_v (mu_runV (c_X7_leave l D ka z tr tv (([(q, .inr (5, [.int nu, .int (nI nv), .int (nI mi)]))] : va_W) ++ R) 4) X wd_620 wd_628 wd_618 wd_619 wd_7 on_X7_leave ⟨Nat.le_of_ble_eq_true rfl, Nat.le_of_ble_eq_true rfl⟩ (va_recv hK hw.2.1 (ci := 7) (q0 := 0) rfl rfl) hw hl.1 rfl (Nat.le_of_ble_eq_true rfl) ⟨Nat.le_of_ble_eq_true rfl, Nat.le_of_ble_eq_true rfl⟩ dX6_rung_2) hS (fun u_1 H locs hp_u_1 hw hS => ?_)
  subst hp_u_1
  have hw : wdH D z (([(tr, .inr (7, [.int (bg tv 4)])), (q, .inr (5, [.int nu, .int (nI nv), .int (nI mi)]))] : va_W) ++ R) H := hw
  refine lv_aload_n hx hb dX6_rung_5 rfl (lv_at hl 0 rfl) ?_
  refine va_get (D := D) (ci := 5) (v := .int nu) (C := RX5) (T := TX5) (N := 3) hx hb hts inX5 hown hK hw.2.1 1 rfl rfl 0 (by decide) (hts _ wd_269) (fun _ h9 => h9) rfl dX6_rung_6 ?_
  exact hret _ _ _ _ _ _ _ _ dX6_rung_9 hS hw (Nat.zero_le _) (Nat.zero_le _) ⟨rfl, rfl⟩
set_option maxRecDepth 100000 in
set_option maxHeartbeats 4000000 in
theorem c_X9_rung9 (l : Launch) (D : va_G) (ka : Nat → ClassId) (z : Nat) (tr q : Nat) (tv nu : Int32) (nv mi : Nat) (R : va_W) : MU l D ka z yX9_rung cX9_rung 2 (some .int) 1 0 0 [.ref q, .ref tr] (([(tr, .inr (7, [.int tv])), (q, .inr (9, [.int nu, .int (nI nv), .int (nI mi)]))] : va_W) ++ R) (Qi D z (fun r w => r = nI 40 ∧ w = ([(tr, .inr (7, [.int (bg tv 5)])), (q, .inr (9, [.int nu, .int (nI nv), .int (nI mi)]))] : va_W) ++ R)) := by
  refine MU.ofI (by decide) (Nat.le_of_ble_eq_true rfl) ?_
  intro p e s m args below meth c Q X hw hS hret ls hl
  obtain ⟨hx, hb, hml, hown, hts, hE⟩ := id X
  have hK := hE.1
  have hz0 := hw.1
  have hl : lv_has ls 2 [(0, .ref q), (1, .ref tr)] := hl
  refine lv_aload_n hx hb dX9_rung_0 rfl (lv_at hl 1 rfl) ?_
  refine lv_iconst (v := nI 5) hx hb dX9_rung_1 (by decide) ?_
  refine mu_v (mu_runV (c_X7_leave l D ka z tr tv (([(q, .inr (9, [.int nu, .int (nI nv), .int (nI mi)]))] : va_W) ++ R) 5) X wd_620 wd_632 wd_618 wd_619 wd_7 on_X7_leave ⟨Nat.le_of_ble_eq_true rfl, Nat.le_of_ble_eq_true rfl⟩ (va_recv hK hw.2.1 (ci := 7) (q0 := 0) rfl rfl) hw hl.1 rfl (Nat.le_of_ble_eq_true rfl) ⟨Nat.le_of_ble_eq_true rfl, Nat.le_of_ble_eq_true rfl⟩ dX9_rung_2) hS (fun u_1 H locs hp_u_1 hw hS => ?_)
  subst hp_u_1
  have hw : wdH D z (([(tr, .inr (7, [.int (bg tv 5)])), (q, .inr (9, [.int nu, .int (nI nv), .int (nI mi)]))] : va_W) ++ R) H := hw
  refine lv_bipush (v := nI 40) hx hb dX9_rung_5 (by decide) ?_
  exact hret _ _ _ _ _ _ _ _ dX9_rung_7 hS hw (Nat.zero_le _) (Nat.zero_le _) ⟨rfl, rfl⟩
set_option maxRecDepth 100000 in
set_option maxHeartbeats 4000000 in
theorem c_X6_telling6 (l : Launch) (D : va_G) (ka : Nat → ClassId) (z : Nat) (tr q : Nat) (tv nu : Int32) (nv mi : Nat) (R : va_W) : MU l D ka z yX6_telling cX6_telling 2 (some .int) 2 0 0 [.ref q, .ref tr] (([(tr, .inr (7, [.int tv])), (q, .inr (6, [.int nu, .int (nI nv), .int (nI mi)]))] : va_W) ++ R) (Qi D z (fun r w => r = nI nv ∧ w = ([(tr, .inr (7, [.int (bg tv 1)])), (q, .inr (6, [.int nu, .int (nI nv), .int (nI mi)]))] : va_W) ++ R)) := by
  refine MU.ofI (by decide) (Nat.le_of_ble_eq_true rfl) ?_
  intro p e s m args below meth c Q X hw hS hret ls hl
  obtain ⟨hx, hb, hml, hown, hts, hE⟩ := id X
  have hK := hE.1
  have hz0 := hw.1
  have hl : lv_has ls 2 [(0, .ref q), (1, .ref tr)] := hl
  refine lv_aload_n hx hb dX6_telling_0 rfl (lv_at hl 0 rfl) ?_
  refine lv_aload_n hx hb dX6_telling_1 rfl (lv_at hl 1 rfl) ?_
  refine mu_i (mu_runV (c_X6_tt6 l D ka z tr q tv nu nv mi R) X wd_627 wd_638 wd_626 wd_1015 wd_9 on_X6_takersTelling ⟨Nat.le_of_ble_eq_true rfl, Nat.le_of_ble_eq_true rfl⟩ (va_recv hK hw.2.1 (ci := 6) (q0 := 1) rfl rfl) hw hl.1 rfl (Nat.le_of_ble_eq_true rfl) ⟨Nat.le_of_ble_eq_true rfl, Nat.le_of_ble_eq_true rfl⟩ dX6_telling_2) hS (fun r_2 u_1 H locs hp_u_1 hw hS => ?_)
  obtain ⟨rfl, rfl⟩ := hp_u_1
  have hw : wdH D z (([(tr, .inr (7, [.int (bg tv 1)])), (q, .inr (6, [.int nu, .int (nI nv), .int (nI mi)]))] : va_W) ++ R) H := hw
  exact hret _ _ _ _ _ _ _ _ dX6_telling_5 hS hw (Nat.zero_le _) (Nat.zero_le _) ⟨rfl, rfl⟩
set_option maxRecDepth 100000 in
set_option maxHeartbeats 4000000 in
theorem c_X5_telling5 (l : Launch) (D : va_G) (ka : Nat → ClassId) (z : Nat) (tr q : Nat) (tv nu : Int32) (nv mi : Nat) (R : va_W) (hnv : nv ≤ 99) : MU l D ka z yX5_telling cX5_telling 2 (some .int) 2 0 0 [.ref q, .ref tr] (([(tr, .inr (7, [.int tv])), (q, .inr (5, [.int nu, .int (nI nv), .int (nI mi)]))] : va_W) ++ R) (Qi D z (fun r w => r = nI (nv + 100) ∧ w = ([(tr, .inr (7, [.int (bg (bg tv 2) 1)])), (q, .inr (5, [.int nu, .int (nI nv), .int (nI mi)]))] : va_W) ++ R)) := by
  refine MU.ofI (by decide) (Nat.le_of_ble_eq_true rfl) ?_
  intro p e s m args below meth c Q X hw hS hret ls hl
  obtain ⟨hx, hb, hml, hown, hts, hE⟩ := id X
  have hK := hE.1
  have hz0 := hw.1
  have hl : lv_has ls 2 [(0, .ref q), (1, .ref tr)] := hl
  refine lv_aload_n hx hb dX5_telling_0 rfl (lv_at hl 1 rfl) ?_
  refine lv_iconst (v := nI 2) hx hb dX5_telling_1 (by decide) ?_
  refine mu_v (mu_runV (c_X7_leave l D ka z tr tv (([(q, .inr (5, [.int nu, .int (nI nv), .int (nI mi)]))] : va_W) ++ R) 2) X wd_620 wd_617 wd_618 wd_619 wd_7 on_X7_leave ⟨Nat.le_of_ble_eq_true rfl, Nat.le_of_ble_eq_true rfl⟩ (va_recv hK hw.2.1 (ci := 7) (q0 := 0) rfl rfl) hw hl.1 rfl (Nat.le_of_ble_eq_true rfl) ⟨Nat.le_of_ble_eq_true rfl, Nat.le_of_ble_eq_true rfl⟩ dX5_telling_2) hS (fun u_1 H locs hp_u_1 hw hS => ?_)
  subst hp_u_1
  have hw : wdH D z (([(tr, .inr (7, [.int (bg tv 2)])), (q, .inr (5, [.int nu, .int (nI nv), .int (nI mi)]))] : va_W) ++ R) H := hw
  refine lv_aload_n hx hb dX5_telling_5 rfl (lv_at hl 0 rfl) ?_
  refine lv_aload_n hx hb dX5_telling_6 rfl (lv_at hl 1 rfl) ?_
  refine mu_i (mu_runH (x := ({ cls := "FourVault$Singer", name := "takersTelling", desc := "(LFourVault$Trace;)I" } : MethodName)) (C := "FourVault$Singer") (owner := "FourVault$Taker") (c_X6_tt5 l D ka z tr q (bg tv 2) nu nv mi R) X wd_627 wd_621 wd_622 wd_624 wd_626 wd_9 rfl on_X6_takersTelling ⟨Nat.le_of_ble_eq_true rfl, Nat.le_of_ble_eq_true rfl⟩ (va_recv hK hw.2.1 (ci := 5) (q0 := 1) rfl rfl) hw hl.1 rfl (Nat.le_of_ble_eq_true rfl) ⟨Nat.le_of_ble_eq_true rfl, Nat.le_of_ble_eq_true rfl⟩ dX5_telling_7) hS (fun r_3 u_2 H locs hp_u_2 hw hS => ?_)
  obtain ⟨rfl, rfl⟩ := hp_u_2
  have hw : wdH D z (([(tr, .inr (7, [.int (bg (bg tv 2) 1)])), (q, .inr (5, [.int nu, .int (nI nv), .int (nI mi)]))] : va_W) ++ R) H := hw
  refine lv_bipush (v := nI 100) hx hb dX5_telling_10 (by decide) ?_
  refine n_iadd hx hb dX5_telling_12 ?_
  exact hret _ _ _ _ _ _ _ _ dX5_telling_13 hS hw (Nat.zero_le _) (Nat.zero_le _) ⟨rfl, rfl⟩
set_option maxRecDepth 100000 in
set_option maxHeartbeats 4000000 in
theorem c_X5_telling9 (l : Launch) (D : va_G) (ka : Nat → ClassId) (z : Nat) (tr q : Nat) (tv nu : Int32) (nv mi : Nat) (R : va_W) (hnv : nv ≤ 99) : MU l D ka z yX5_telling cX5_telling 2 (some .int) 2 0 0 [.ref q, .ref tr] (([(tr, .inr (7, [.int tv])), (q, .inr (9, [.int nu, .int (nI nv), .int (nI mi)]))] : va_W) ++ R) (Qi D z (fun r w => r = nI (nv + 100) ∧ w = ([(tr, .inr (7, [.int (bg (bg tv 2) 1)])), (q, .inr (9, [.int nu, .int (nI nv), .int (nI mi)]))] : va_W) ++ R)) := by
  refine MU.ofI (by decide) (Nat.le_of_ble_eq_true rfl) ?_
  intro p e s m args below meth c Q X hw hS hret ls hl
  obtain ⟨hx, hb, hml, hown, hts, hE⟩ := id X
  have hK := hE.1
  have hz0 := hw.1
  have hl : lv_has ls 2 [(0, .ref q), (1, .ref tr)] := hl
  refine lv_aload_n hx hb dX5_telling_0 rfl (lv_at hl 1 rfl) ?_
  refine lv_iconst (v := nI 2) hx hb dX5_telling_1 (by decide) ?_
  refine mu_v (mu_runV (c_X7_leave l D ka z tr tv (([(q, .inr (9, [.int nu, .int (nI nv), .int (nI mi)]))] : va_W) ++ R) 2) X wd_620 wd_617 wd_618 wd_619 wd_7 on_X7_leave ⟨Nat.le_of_ble_eq_true rfl, Nat.le_of_ble_eq_true rfl⟩ (va_recv hK hw.2.1 (ci := 7) (q0 := 0) rfl rfl) hw hl.1 rfl (Nat.le_of_ble_eq_true rfl) ⟨Nat.le_of_ble_eq_true rfl, Nat.le_of_ble_eq_true rfl⟩ dX5_telling_2) hS (fun u_1 H locs hp_u_1 hw hS => ?_)
  subst hp_u_1
  have hw : wdH D z (([(tr, .inr (7, [.int (bg tv 2)])), (q, .inr (9, [.int nu, .int (nI nv), .int (nI mi)]))] : va_W) ++ R) H := hw
  refine lv_aload_n hx hb dX5_telling_5 rfl (lv_at hl 0 rfl) ?_
  refine lv_aload_n hx hb dX5_telling_6 rfl (lv_at hl 1 rfl) ?_
  refine mu_i (mu_runH (x := ({ cls := "FourVault$Singer", name := "takersTelling", desc := "(LFourVault$Trace;)I" } : MethodName)) (C := "FourVault$Widow") (owner := "FourVault$Taker") (c_X6_tt9 l D ka z tr q (bg tv 2) nu nv mi R) X wd_627 wd_621 wd_622 wd_625 wd_626 wd_9 rfl on_X6_takersTelling ⟨Nat.le_of_ble_eq_true rfl, Nat.le_of_ble_eq_true rfl⟩ (va_recv hK hw.2.1 (ci := 9) (q0 := 1) rfl rfl) hw hl.1 rfl (Nat.le_of_ble_eq_true rfl) ⟨Nat.le_of_ble_eq_true rfl, Nat.le_of_ble_eq_true rfl⟩ dX5_telling_7) hS (fun r_3 u_2 H locs hp_u_2 hw hS => ?_)
  obtain ⟨rfl, rfl⟩ := hp_u_2
  have hw : wdH D z (([(tr, .inr (7, [.int (bg (bg tv 2) 1)])), (q, .inr (9, [.int nu, .int (nI nv), .int (nI mi)]))] : va_W) ++ R) H := hw
  refine lv_bipush (v := nI 100) hx hb dX5_telling_10 (by decide) ?_
  refine n_iadd hx hb dX5_telling_12 ?_
  exact hret _ _ _ _ _ _ _ _ dX5_telling_13 hS hw (Nat.zero_le _) (Nat.zero_le _) ⟨rfl, rfl⟩
set_option maxRecDepth 100000 in
set_option maxHeartbeats 4000000 in
theorem c_X9_telling9 (l : Launch) (D : va_G) (ka : Nat → ClassId) (z : Nat) (tr q : Nat) (tv nu : Int32) (nv mi : Nat) (R : va_W) (hnv : nv ≤ 99) : MU l D ka z yX9_telling cX9_telling 3 (some .int) 3 0 0 [.ref q, .ref tr] (([(tr, .inr (7, [.int tv])), (q, .inr (9, [.int nu, .int (nI nv), .int (nI mi)]))] : va_W) ++ R) (Qi D z (fun r w => r = nI (nv + 100 + nv) ∧ w = ([(tr, .inr (7, [.int (bg (bg (bg (bg tv 3) 2) 1) 1)])), (q, .inr (9, [.int nu, .int (nI nv), .int (nI mi)]))] : va_W) ++ R)) := by
  refine MU.ofI (by decide) (Nat.le_of_ble_eq_true rfl) ?_
  intro p e s m args below meth c Q X hw hS hret ls hl
  obtain ⟨hx, hb, hml, hown, hts, hE⟩ := id X
  have hK := hE.1
  have hz0 := hw.1
  have hl : lv_has ls 3 [(0, .ref q), (1, .ref tr)] := hl
  refine lv_aload_n hx hb dX9_telling_0 rfl (lv_at hl 1 rfl) ?_
  refine lv_iconst (v := nI 3) hx hb dX9_telling_1 (by decide) ?_
  refine mu_v (mu_runV (c_X7_leave l D ka z tr tv (([(q, .inr (9, [.int nu, .int (nI nv), .int (nI mi)]))] : va_W) ++ R) 3) X wd_620 wd_632 wd_618 wd_619 wd_7 on_X7_leave ⟨Nat.le_of_ble_eq_true rfl, Nat.le_of_ble_eq_true rfl⟩ (va_recv hK hw.2.1 (ci := 7) (q0 := 0) rfl rfl) hw hl.1 rfl (Nat.le_of_ble_eq_true rfl) ⟨Nat.le_of_ble_eq_true rfl, Nat.le_of_ble_eq_true rfl⟩ dX9_telling_2) hS (fun u_1 H locs hp_u_1 hw hS => ?_)
  subst hp_u_1
  have hw : wdH D z (([(tr, .inr (7, [.int (bg tv 3)])), (q, .inr (9, [.int nu, .int (nI nv), .int (nI mi)]))] : va_W) ++ R) H := hw
  refine lv_aload_n hx hb dX9_telling_5 rfl (lv_at hl 0 rfl) ?_
  refine lv_aload_n hx hb dX9_telling_6 rfl (lv_at hl 1 rfl) ?_
  refine mu_i (mu_runSU (C := "FourVault$Widow") (ci := 9) (c_X5_telling9 l D ka z tr q (bg tv 3) nu nv mi R hnv) X wd_616 wd_633 wd_1012 wd_296 wd_615 wd_10 (by decide) on_X5_telling ⟨Nat.le_of_ble_eq_true rfl, Nat.le_of_ble_eq_true rfl⟩ rfl (va_recv hK hw.2.1 (ci := 9) (q0 := 1) rfl rfl) hw hl.1 rfl (Nat.le_of_ble_eq_true rfl) ⟨Nat.le_of_ble_eq_true rfl, Nat.le_of_ble_eq_true rfl⟩ dX9_telling_7) hS (fun r_3 u_2 H locs hp_u_2 hw hS => ?_)
  obtain ⟨rfl, rfl⟩ := hp_u_2
  have hw : wdH D z (([(tr, .inr (7, [.int (bg (bg (bg tv 3) 2) 1)])), (q, .inr (9, [.int nu, .int (nI nv), .int (nI mi)]))] : va_W) ++ R) H := hw
  refine lv_istore_n (lv' := [(2, .int (nI (nv + 100))), (0, .ref q), (1, .ref tr)]) hx hb dX9_telling_10 rfl hl (by decide) rfl (fun ls hl => ?_)
  refine lv_iload_n hx hb dX9_telling_11 rfl (lv_at hl 0 rfl) ?_
  refine lv_aload_n hx hb dX9_telling_12 rfl (lv_at hl 1 rfl) ?_
  refine lv_aload_n hx hb dX9_telling_13 rfl (lv_at hl 2 rfl) ?_
  refine mu_i (mu_runH (x := ({ cls := "FourVault$Widow", name := "takersTelling", desc := "(LFourVault$Trace;)I" } : MethodName)) (C := "FourVault$Widow") (owner := "FourVault$Taker") (c_X6_tt9 l D ka z tr q (bg (bg (bg tv 3) 2) 1) nu nv mi R) X wd_627 wd_634 wd_635 wd_636 wd_626 wd_9 rfl on_X6_takersTelling ⟨Nat.le_of_ble_eq_true rfl, Nat.le_of_ble_eq_true rfl⟩ (va_recv hK hw.2.1 (ci := 9) (q0 := 1) rfl rfl) hw hl.1 rfl (Nat.le_of_ble_eq_true rfl) ⟨Nat.le_of_ble_eq_true rfl, Nat.le_of_ble_eq_true rfl⟩ dX9_telling_14) hS (fun r_5 u_4 H locs hp_u_4 hw hS => ?_)
  obtain ⟨rfl, rfl⟩ := hp_u_4
  have hw : wdH D z (([(tr, .inr (7, [.int (bg (bg (bg (bg tv 3) 2) 1) 1)])), (q, .inr (9, [.int nu, .int (nI nv), .int (nI mi)]))] : va_W) ++ R) H := hw
  refine n_iadd hx hb dX9_telling_17 ?_
  exact hret _ _ _ _ _ _ _ _ dX9_telling_18 hS hw (Nat.zero_le _) (Nat.zero_le _) ⟨rfl, rfl⟩
