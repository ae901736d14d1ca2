set_option maxRecDepth 100000 in
set_option maxHeartbeats 4000000 in
theorem c_X10_put (l : Launch) (D : va_G) (ka : Nat → ClassId) (z : Nat) (h : Nat) (A b nb sb v ra ca : Nat → Nat) (N : NN) (hN : WF N)(k : Int32) (K9 : Int) (hk : k.toInt = K9)(q : Int32) (Q9 : Int) (hq : q.toInt = Q9)(v1 : Int32) (C : CC) (R : va_W) : MU l D ka z yX10_put cX10_put 5 (some .int) 1 0 0 [.ref h, .int k, .int q, .int v1] (([(h, .inr (10, [.ref (A 0), .ref (A 1), .ref (b 0), .ref (nb 0), .ref (sb 0), .ref (A 2), .ref (v 0), .int (nI (N 0 4))])), ((A 0), .inl (ka 1, 4, .inr (.inr (.inr (.inr (shf N ra))))))] : va_W) ++ (rows ka ra ca N C ++ R)) (Qi D z (fun r w => ∃ N' C', w = ([(h, .inr (10, [.ref (A 0), .ref (A 1), .ref (b 0), .ref (nb 0), .ref (sb 0), .ref (A 2), .ref (v 0), .int (nI (N' 0 4))])), ((A 0), .inl (ka 1, 4, .inr (.inr (.inr (.inr (shf N' ra))))))] : va_W) ++ (rows ka ra ca N' C' ++ R) ∧ (r, N', C') = sp_put N C K9 Q9 v1)) := by
  refine MU.ofI (by decide) (Nat.le_of_ble_eq_true rfl) ?_
  intro p e s m args below meth c Q X hw hS hret ls hl
  obtain ⟨hx, hb, hml, hown, hts, hE⟩ := id X
  have hK := hE.1
  have hz0 := hw.1
  have hl : lv_has ls 5 [(0, .ref h), (1, .int k), (2, .int q), (3, .int v1)] := hl
  have hN1 := hN.1
  refine lv_aload_n hx hb dX10_put_0 rfl (lv_at hl 0 rfl) ?_
  refine lv_iconst (v := nI 0) hx hb dX10_put_1 (by decide) ?_
  refine va_put (D := D) (ci := 10) (v := .int (nI 0)) (ty := .int) (C := RX10) (T := TX10) (N := 8) hx hb hts inX10 tyX10 tyX10_ok nmX10 hown hK hw.2.1 hw.2.2 hS 0 rfl rfl 7 (by decide) (hts _ wd_170) (fun _ h9 => h9) rfl (by decide +kernel) rfl rfl (Nat.le_of_ble_eq_true rfl) dX10_put_2 (fun H locs hP hD hS => ?_)
  have hw : wdH D z (([(h, .inr (10, [.ref (A 0), .ref (A 1), .ref (b 0), .ref (nb 0), .ref (sb 0), .ref (A 2), .ref (v 0), .int (nI 0)])), ((A 0), .inl (ka 1, 4, .inr (.inr (.inr (.inr (shf N ra))))))] : va_W) ++ (rows ka ra ca N C ++ R)) H := ⟨Nat.le_trans hz0 hS.1, hP, hD⟩
  refine lv_iload_n hx hb dX10_put_5 rfl (lv_at hl 1 rfl) ?_
  refine vp_callSi (ro_runS (c_X10_isSheet l D ka k _ hk) X wd_194 wd_192 wd_193 wd_1 on_X10_isSheet ⟨Nat.le_of_ble_eq_true rfl, Nat.le_of_ble_eq_true rfl⟩ trivial hl.1 rfl (Nat.le_of_ble_eq_true rfl) ⟨(Nat.zero_le _), (Nat.zero_le _)⟩ dX10_put_6) (fun r_1 hr_1 => ?_)
  subst hr_1
  refine b_if_ne (tgt := 14) hx hb dX10_put_9 (by decide) (fun c_2 => ?_) (fun c_2 => ?_)
  · obtain ⟨k1, hlt_k1, rfl, rfl⟩ := nat_ofK (n := 4) hk (by omega) (by omega)
    refine lv_aload_n hx hb dX10_put_14 rfl (lv_at hl 0 rfl) ?_
    refine va_get (D := D) (ci := 10) (v := .ref (A 0)) (C := RX10) (T := TX10) (N := 8) hx hb hts inX10 hown hK hw.2.1 0 rfl rfl 0 (by decide) (hts _ wd_163) (fun _ h9 => h9) rfl dX10_put_15 ?_
    refine lv_iload_n hx hb dX10_put_18 rfl (lv_at hl 1 rfl) ?_
    refine n_aald hx hb hK hw.2.1 1 1 rfl rfl (k := k1) (by omega) (by decide) dX10_put_19 ?_
    by_cases h3 : N 9 k1 = 3
    · rw [show (shf N ra) k1 = none from if_pos (Or.inl h3)]
      refine W.eq (g2 := F0 m 20 ls [.null]) rfl ?_
      refine lv_astoreN (lv' := [(4, .null), (0, .ref h), (1, .int (nI k1)), (2, .int q), (3, .int v1)]) hx hb dX10_put_20 hl (by decide) rfl (fun ls hl => ?_)
      refine lv_aloadN hx hb dX10_put_22 (lv_at hl 0 rfl) ?_
      refine lv_ifnonnullN hx hb dX10_put_24 ?_
      refine lv_aload_n hx hb dX10_put_27 rfl (lv_at hl 1 rfl) ?_
      refine lv_iconst (v := nI 1) hx hb dX10_put_28 (by decide) ?_
      refine mu_i (mu_runV (c_X10_faulted l D ka z h A b nb sb v 0 1 (by decide) (([((A 0), .inl (ka 1, 4, .inr (.inr (.inr (.inr (shf N ra))))))] : va_W) ++ (rows ka ra ca N C ++ R))) X wd_201 wd_198 wd_200 ws_0 wd_1 on_X10_faulted ⟨Nat.le_of_ble_eq_true rfl, Nat.le_of_ble_eq_true rfl⟩ (va_recv hK hw.2.1 (ci := 10) (q0 := 0) rfl rfl) hw hl.1 rfl (Nat.le_of_ble_eq_true rfl) ⟨Nat.le_of_ble_eq_true rfl, Nat.le_of_ble_eq_true rfl⟩ dX10_put_29) hS (fun r_4 u_3 H locs hp_u_3 hw hS => ?_)
      obtain ⟨rfl, rfl⟩ := hp_u_3
      have hw : wdH D z (([(h, .inr (10, [.ref (A 0), .ref (A 1), .ref (b 0), .ref (nb 0), .ref (sb 0), .ref (A 2), .ref (v 0), .int (nI 1)])), ((A 0), .inl (ka 1, 4, .inr (.inr (.inr (.inr (shf N ra))))))] : va_W) ++ (rows ka ra ca N C ++ R)) H := hw
      refine hret _ _ _ _ _ _ _ _ dX10_put_32 hS hw (Nat.zero_le _) (Nat.zero_le _) ⟨ff N 1, C, rfl, ?_⟩
      unfold sp_put
      rw [if_pos (by omega)]
      simp only [Int.toNat_natCast]
      rw [if_pos h3]
    · rw [show (shf N ra) k1 = some (ra k1) from if_neg (by omega)]
      refine W.eq (g2 := F0 m 20 ls [.ref (ra k1)]) rfl ?_
      have hw : wdH D z (([(h, .inr (10, [.ref (A 0), .ref (A 1), .ref (b 0), .ref (nb 0), .ref (sb 0), .ref (A 2), .ref (v 0), .int (nI 0)])), ((A 0), .inl (ka 1, 4, .inr (.inr (.inr (.inr (shf N ra)))))), ((ra k1), .inr (3, [.int (nI (N 9 k1)), .ref (ca k1)])), ((ca k1), .inl (ka 0, N 10 k1, .inl (rof (C k1))))] : va_W) ++ (rowsX ka ra ca N C k1 ++ R)) H := rows_open (L := [(h, .inr (10, [.ref (A 0), .ref (A 1), .ref (b 0), .ref (nb 0), .ref (sb 0), .ref (A 2), .ref (v 0), .int (nI 0)])), ((A 0), .inl (ka 1, 4, .inr (.inr (.inr (.inr (shf N ra))))))]) (by omega) h3 hw
      have hl10k1 := hN.2.2.2.2.2.2.2.2.2.2 k1
      have hl9k1 := hN.2.2.2.2.2.2.2.2.2.1 k1
      refine lv_astore (lv' := [(4, .ref (ra k1)), (0, .ref h), (1, .int (nI k1)), (2, .int q), (3, .int v1)]) hx hb dX10_put_20 hl (by decide) rfl (fun ls hl => ?_)
      refine lv_aload hx hb dX10_put_22 (lv_at hl 0 rfl) ?_
      refine lv_ifnonnull (tgt := 33) hx hb dX10_put_24 (by decide) ?_
      refine lv_aload hx hb dX10_put_33 (lv_at hl 0 rfl) ?_
      refine lv_iload_n hx hb dX10_put_35 rfl (lv_at hl 3 rfl) ?_
      refine lv_iconst (v := nI 1) hx hb dX10_put_36 (by decide) ?_
      refine vp_callSi (ro_runV (c_X3_hasCells l D ka (ra k1) (ca k1) (N 9 k1) (N 10 k1) (rof (C k1)) (([] : va_W) ++ (rowsX ka ra ca N C k1 ++ R)) q (nI 1) _ _ hq (nT (by decide)) (by omega)) X wd_205 wd_202 wd_203 wd_204 wd_13 on_X3_hasCells ⟨Nat.le_of_ble_eq_true rfl, Nat.le_of_ble_eq_true rfl⟩ (va_recv hK hw.2.1 (ci := 3) (q0 := 2) rfl rfl) (va_P.right (w1 := [(h, .inr (10, [.ref (A 0), .ref (A 1), .ref (b 0), .ref (nb 0), .ref (sb 0), .ref (A 2), .ref (v 0), .int (nI 0)])), ((A 0), .inl (ka 1, 4, .inr (.inr (.inr (.inr (shf N ra))))))]) (w2 := ([((ra k1), .inr (3, [.int (nI (N 9 k1)), .ref (ca k1)])), ((ca k1), .inl (ka 0, N 10 k1, .inl (rof (C k1))))] : va_W) ++ (rowsX ka ra ca N C k1 ++ R)) hw.2.1) hl.1 rfl (Nat.le_of_ble_eq_true rfl) ⟨(Nat.zero_le _), (Nat.zero_le _)⟩ dX10_put_37) (fun r_5 hr_5 => ?_)
      subst hr_5
      refine b_if_ne (tgt := 49) hx hb dX10_put_40 (by decide) (fun c_6 => ?_) (fun c_6 => ?_)
      · obtain ⟨i1, hlt_i1, rfl, rfl⟩ := nat_ofK (n := N 10 k1) hq (by omega) (by omega)
        refine lv_aload hx hb dX10_put_49 (lv_at hl 0 rfl) ?_
        refine va_get (D := D) (ci := 3) (v := .ref (ca k1)) (C := RX3) (T := TX3) (N := 2) hx hb hts inX3 hown hK hw.2.1 2 rfl rfl 1 (by decide) (hts _ wd_573) (fun _ h9 => h9) rfl dX10_put_51 ?_
        refine lv_iload_n hx hb dX10_put_54 rfl (lv_at hl 3 rfl) ?_
        refine lv_aload hx hb dX10_put_55 (lv_at hl 0 rfl) ?_
        refine lv_iload_n hx hb dX10_put_57 rfl (lv_at hl 4 rfl) ?_
        refine vp_callSi (ro_runV (c_X3_cut l D ka (ra k1) (ca k1) (N 9 k1) (N 10 k1) (rof (C k1)) (([] : va_W) ++ (rowsX ka ra ca N C k1 ++ R)) v1 (by omega)) X wd_590 wd_587 wd_588 wd_589 wd_13 on_X3_cut ⟨Nat.le_of_ble_eq_true rfl, Nat.le_of_ble_eq_true rfl⟩ (va_recv hK hw.2.1 (ci := 3) (q0 := 2) rfl rfl) (va_P.right (w1 := [(h, .inr (10, [.ref (A 0), .ref (A 1), .ref (b 0), .ref (nb 0), .ref (sb 0), .ref (A 2), .ref (v 0), .int (nI 0)])), ((A 0), .inl (ka 1, 4, .inr (.inr (.inr (.inr (shf N ra))))))]) (w2 := ([((ra k1), .inr (3, [.int (nI (N 9 k1)), .ref (ca k1)])), ((ca k1), .inl (ka 0, N 10 k1, .inl (rof (C k1))))] : va_W) ++ (rowsX ka ra ca N C k1 ++ R)) hw.2.1) hl.1 rfl (Nat.le_of_ble_eq_true rfl) ⟨(Nat.zero_le _), (Nat.zero_le _)⟩ dX10_put_58) (fun r_7 hr_7 => ?_)
        subst hr_7
        refine r_iast hx hb hK hw.2.1 hw.2.2 hS 3 0 rfl rfl (k := i1) (by omega) (by omega) dX10_put_61 (fun H locs hP hD hS => ?_)
        have hw : wdH D z (([(h, .inr (10, [.ref (A 0), .ref (A 1), .ref (b 0), .ref (nb 0), .ref (sb 0), .ref (A 2), .ref (v 0), .int (nI 0)])), ((A 0), .inl (ka 1, 4, .inr (.inr (.inr (.inr (shf N ra)))))), ((ra k1), .inr (3, [.int (nI (N 9 k1)), .ref (ca k1)])), ((ca k1), .inl (ka 0, N 10 k1, .inl (upd (rof (C k1)) i1 (cutv (N 9 k1) v1))))] : va_W) ++ (rowsX ka ra ca N C k1 ++ R)) H := ⟨Nat.le_trans hz0 hS.1, hP, hD⟩
        refine lv_iconst (v := nI 1) hx hb dX10_put_62 (by decide) ?_
        rw [rof_upd (by omega)] at hw
        have hw : wdH D z (([(h, .inr (10, [.ref (A 0), .ref (A 1), .ref (b 0), .ref (nb 0), .ref (sb 0), .ref (A 2), .ref (v 0), .int (nI ((f0 N) 0 4))])), ((A 0), .inl (ka 1, 4, .inr (.inr (.inr (.inr (shf (f0 N) ra))))))] : va_W) ++ (rows ka ra ca (f0 N) (upC C k1 i1 (cutv (N 9 k1) v1)) ++ R)) H := rows_shut2 (ra' := ra) (ca' := ca) (N' := f0 N) (C' := (upC C k1 i1 (cutv (N 9 k1) v1))) (k := k1) (L := [(h, .inr (10, [.ref (A 0), .ref (A 1), .ref (b 0), .ref (nb 0), .ref (sb 0), .ref (A 2), .ref (v 0), .int (nI 0)])), ((A 0), .inl (ka 1, 4, .inr (.inr (.inr (.inr (shf N ra))))))]) (by omega) rfl rfl rfl rfl rfl h3 (fun j hj => rowb_D rfl rfl rfl rfl (by rw [upC_ne hj])) hw
        refine hret _ _ _ _ _ _ _ _ dX10_put_63 hS hw (Nat.zero_le _) (Nat.zero_le _) ⟨f0 N, (upC C k1 i1 (cutv (N 9 k1) v1)), rfl, ?_⟩
        unfold sp_put
        rw [if_pos (by omega)]
        simp only [Int.toNat_natCast]
        rw [if_neg h3, if_pos (by omega)]
      · refine lv_aload_n hx hb dX10_put_43 rfl (lv_at hl 1 rfl) ?_
        refine lv_iconst (v := nI 3) hx hb dX10_put_44 (by decide) ?_
        refine mu_i (mu_runV (c_X10_faulted l D ka z h A b nb sb v 0 3 (by decide) (([((A 0), .inl (ka 1, 4, .inr (.inr (.inr (.inr (shf N ra)))))), ((ra k1), .inr (3, [.int (nI (N 9 k1)), .ref (ca k1)])), ((ca k1), .inl (ka 0, N 10 k1, .inl (rof (C k1))))] : va_W) ++ (rowsX ka ra ca N C k1 ++ R))) X wd_201 wd_198 wd_200 ws_0 wd_1 on_X10_faulted ⟨Nat.le_of_ble_eq_true rfl, Nat.le_of_ble_eq_true rfl⟩ (va_recv hK hw.2.1 (ci := 10) (q0 := 0) rfl rfl) hw hl.1 rfl (Nat.le_of_ble_eq_true rfl) ⟨Nat.le_of_ble_eq_true rfl, Nat.le_of_ble_eq_true rfl⟩ dX10_put_45) hS (fun r_9 u_8 H locs hp_u_8 hw hS => ?_)
        obtain ⟨rfl, rfl⟩ := hp_u_8
        have hw : wdH D z (([(h, .inr (10, [.ref (A 0), .ref (A 1), .ref (b 0), .ref (nb 0), .ref (sb 0), .ref (A 2), .ref (v 0), .int (nI 3)])), ((A 0), .inl (ka 1, 4, .inr (.inr (.inr (.inr (shf N ra)))))), ((ra k1), .inr (3, [.int (nI (N 9 k1)), .ref (ca k1)])), ((ca k1), .inl (ka 0, N 10 k1, .inl (rof (C k1))))] : va_W) ++ (rowsX ka ra ca N C k1 ++ R)) H := hw
        have hw : wdH D z (([(h, .inr (10, [.ref (A 0), .ref (A 1), .ref (b 0), .ref (nb 0), .ref (sb 0), .ref (A 2), .ref (v 0), .int (nI ((ff N 3) 0 4))])), ((A 0), .inl (ka 1, 4, .inr (.inr (.inr (.inr (shf (ff N 3) ra))))))] : va_W) ++ (rows ka ra ca (ff N 3) C ++ R)) H := rows_shut2 (ra' := ra) (ca' := ca) (N' := ff N 3) (C' := C) (k := k1) (L := [(h, .inr (10, [.ref (A 0), .ref (A 1), .ref (b 0), .ref (nb 0), .ref (sb 0), .ref (A 2), .ref (v 0), .int (nI 3)])), ((A 0), .inl (ka 1, 4, .inr (.inr (.inr (.inr (shf N ra))))))]) (by omega) rfl rfl rfl rfl rfl h3 (fun j hj => rfl) hw
        refine hret _ _ _ _ _ _ _ _ dX10_put_48 hS hw (Nat.zero_le _) (Nat.zero_le _) ⟨ff N 3, C, rfl, ?_⟩
        unfold sp_put
        rw [if_pos (by omega)]
        simp only [Int.toNat_natCast]
        rw [if_neg h3, if_neg (by omega)]
  · refine lv_iconst (v := (-1)) hx hb dX10_put_12 (by decide) ?_
    refine hret _ _ _ _ _ _ _ _ dX10_put_13 hS hw (Nat.zero_le _) (Nat.zero_le _) ⟨f0 N, C, rfl, ?_⟩
    unfold sp_put
    rw [if_neg (by omega)]
set_option maxRecDepth 100000 in
set_option maxHeartbeats 4000000 in
theorem c_X10_cell (l : Launch) (D : va_G) (ka : Nat → ClassId) (z : Nat) (h : Nat) (A b nb sb v ra ca : Nat → Nat) (N : NN) (hN : WF N)(k : Int32) (K9 : Int) (hk : k.toInt = K9)(q : Int32) (Q9 : Int) (hq : q.toInt = Q9)(m1 : Int32) (M9 : Int) (hm1 : m1.toInt = M9) (C : CC) (R : va_W) : MU l D ka z yX10_cell cX10_cell 5 (some .long) 1 0 0 [.ref h, .int k, .int q, .int m1] (([(h, .inr (10, [.ref (A 0), .ref (A 1), .ref (b 0), .ref (nb 0), .ref (sb 0), .ref (A 2), .ref (v 0), .int (nI (N 0 4))])), ((A 0), .inl (ka 1, 4, .inr (.inr (.inr (.inr (shf N ra))))))] : va_W) ++ (rows ka ra ca N C ++ R)) (Ql D z (fun r w => ∃ N' C', w = ([(h, .inr (10, [.ref (A 0), .ref (A 1), .ref (b 0), .ref (nb 0), .ref (sb 0), .ref (A 2), .ref (v 0), .int (nI (N' 0 4))])), ((A 0), .inl (ka 1, 4, .inr (.inr (.inr (.inr (shf N' ra))))))] : va_W) ++ (rows ka ra ca N' C' ++ R) ∧ (r, N', C') = sp_cell N C K9 Q9 M9)) := by
  refine MU.ofL (by decide) (Nat.le_of_ble_eq_true rfl) ?_
  intro p e s m args below meth c Q X hw hS hret ls hl
  obtain ⟨hx, hb, hml, hown, hts, hE⟩ := id X
  have hK := hE.1
  have hz0 := hw.1
  have hl : lv_has ls 5 [(0, .ref h), (1, .int k), (2, .int q), (3, .int m1)] := hl
  have hN1 := hN.1
  refine lv_aload_n hx hb dX10_cell_0 rfl (lv_at hl 0 rfl) ?_
  refine lv_iconst (v := nI 0) hx hb dX10_cell_1 (by decide) ?_
  refine va_put (D := D) (ci := 10) (v := .int (nI 0)) (ty := .int) (C := RX10) (T := TX10) (N := 8) hx hb hts inX10 tyX10 tyX10_ok nmX10 hown hK hw.2.1 hw.2.2 hS 0 rfl rfl 7 (by decide) (hts _ wd_170) (fun _ h9 => h9) rfl (by decide +kernel) rfl rfl (Nat.le_of_ble_eq_true rfl) dX10_cell_2 (fun H locs hP hD hS => ?_)
  have hw : wdH D z (([(h, .inr (10, [.ref (A 0), .ref (A 1), .ref (b 0), .ref (nb 0), .ref (sb 0), .ref (A 2), .ref (v 0), .int (nI 0)])), ((A 0), .inl (ka 1, 4, .inr (.inr (.inr (.inr (shf N ra))))))] : va_W) ++ (rows ka ra ca N C ++ R)) H := ⟨Nat.le_trans hz0 hS.1, hP, hD⟩
  refine lv_iload_n hx hb dX10_cell_5 rfl (lv_at hl 1 rfl) ?_
  refine vp_callSi (ro_runS (c_X10_isSheet l D ka k _ hk) X wd_194 wd_192 wd_193 wd_1 on_X10_isSheet ⟨Nat.le_of_ble_eq_true rfl, Nat.le_of_ble_eq_true rfl⟩ trivial hl.1 rfl (Nat.le_of_ble_eq_true rfl) ⟨(Nat.zero_le _), (Nat.zero_le _)⟩ dX10_cell_6) (fun r_1 hr_1 => ?_)
  subst hr_1
  refine b_if_eq (tgt := 19) hx hb dX10_cell_9 (by decide) (fun c_2 => ?_) (fun c_2 => ?_)
  · refine lv_ldc2 (v := (-9223372036854775808 : Int64)) hx hb hown (hts _ wd_549) dX10_cell_19 ?_
    refine hret _ _ _ _ _ _ _ _ dX10_cell_22 hS hw (Nat.zero_le _) (Nat.zero_le _) ⟨f0 N, C, rfl, ?_⟩
    unfold sp_cell
    rw [if_neg (by omega)]
  · refine lv_iload_n hx hb dX10_cell_12 rfl (lv_at hl 3 rfl) ?_
    refine vp_callSi (ro_runS (c_X10_isLane l D ka m1 _ hm1) X wd_197 wd_195 wd_196 wd_1 on_X10_isLane ⟨Nat.le_of_ble_eq_true rfl, Nat.le_of_ble_eq_true rfl⟩ trivial hl.1 rfl (Nat.le_of_ble_eq_true rfl) ⟨(Nat.zero_le _), (Nat.zero_le _)⟩ dX10_cell_13) (fun r_3 hr_3 => ?_)
    subst hr_3
    refine b_if_ne (tgt := 23) hx hb dX10_cell_16 (by decide) (fun c_4 => ?_) (fun c_4 => ?_)
    · obtain ⟨k1, hlt_k1, rfl, rfl⟩ := nat_ofK (n := 4) hk (by omega) (by omega)
      refine lv_aload_n hx hb dX10_cell_23 rfl (lv_at hl 0 rfl) ?_
      refine va_get (D := D) (ci := 10) (v := .ref (A 0)) (C := RX10) (T := TX10) (N := 8) hx hb hts inX10 hown hK hw.2.1 0 rfl rfl 0 (by decide) (hts _ wd_163) (fun _ h9 => h9) rfl dX10_cell_24 ?_
      refine lv_iload_n hx hb dX10_cell_27 rfl (lv_at hl 1 rfl) ?_
      refine n_aald hx hb hK hw.2.1 1 1 rfl rfl (k := k1) (by omega) (by decide) dX10_cell_28 ?_
      by_cases h3 : N 9 k1 = 3
      · rw [show (shf N ra) k1 = none from if_pos (Or.inl h3)]
        refine W.eq (g2 := F0 m 29 ls [.null]) rfl ?_
        refine lv_astoreN (lv' := [(4, .null), (0, .ref h), (1, .int (nI k1)), (2, .int q), (3, .int m1)]) hx hb dX10_cell_29 hl (by decide) rfl (fun ls hl => ?_)
        refine lv_aloadN hx hb dX10_cell_31 (lv_at hl 0 rfl) ?_
        refine lv_ifnonnullN hx hb dX10_cell_33 ?_
        refine lv_aload_n hx hb dX10_cell_36 rfl (lv_at hl 1 rfl) ?_
        refine lv_iconst (v := nI 1) hx hb dX10_cell_37 (by decide) ?_
        refine mu_l (mu_runV (c_X10_lost l D ka z h A b nb sb v 0 1 (by decide) (([((A 0), .inl (ka 1, 4, .inr (.inr (.inr (.inr (shf N ra))))))] : va_W) ++ (rows ka ra ca N C ++ R))) X wd_598 wd_595 wd_597 ws_1 wd_1 on_X10_lost ⟨Nat.le_of_ble_eq_true rfl, Nat.le_of_ble_eq_true rfl⟩ (va_recv hK hw.2.1 (ci := 10) (q0 := 0) rfl rfl) hw hl.1 rfl (Nat.le_of_ble_eq_true rfl) ⟨Nat.le_of_ble_eq_true rfl, Nat.le_of_ble_eq_true rfl⟩ dX10_cell_38) hS (fun r_6 u_5 H locs hp_u_5 hw hS => ?_)
        obtain ⟨rfl, rfl⟩ := hp_u_5
        have hw : wdH D z (([(h, .inr (10, [.ref (A 0), .ref (A 1), .ref (b 0), .ref (nb 0), .ref (sb 0), .ref (A 2), .ref (v 0), .int (nI 1)])), ((A 0), .inl (ka 1, 4, .inr (.inr (.inr (.inr (shf N ra))))))] : va_W) ++ (rows ka ra ca N C ++ R)) H := hw
        refine hret _ _ _ _ _ _ _ _ dX10_cell_41 hS hw (Nat.zero_le _) (Nat.zero_le _) ⟨ff N 1, C, rfl, ?_⟩
        unfold sp_cell
        rw [if_pos (by omega)]
        simp only [Int.toNat_natCast]
        rw [if_neg (fun q => q.1 h3), if_pos h3]
      · rw [show (shf N ra) k1 = some (ra k1) from if_neg (by omega)]
        refine W.eq (g2 := F0 m 29 ls [.ref (ra k1)]) rfl ?_
        have hw : wdH D z (([(h, .inr (10, [.ref (A 0), .ref (A 1), .ref (b 0), .ref (nb 0), .ref (sb 0), .ref (A 2), .ref (v 0), .int (nI 0)])), ((A 0), .inl (ka 1, 4, .inr (.inr (.inr (.inr (shf N ra)))))), ((ra k1), .inr (3, [.int (nI (N 9 k1)), .ref (ca k1)])), ((ca k1), .inl (ka 0, N 10 k1, .inl (rof (C k1))))] : va_W) ++ (rowsX ka ra ca N C k1 ++ R)) H := rows_open (L := [(h, .inr (10, [.ref (A 0), .ref (A 1), .ref (b 0), .ref (nb 0), .ref (sb 0), .ref (A 2), .ref (v 0), .int (nI 0)])), ((A 0), .inl (ka 1, 4, .inr (.inr (.inr (.inr (shf N ra))))))]) (by omega) h3 hw
        have hl10k1 := hN.2.2.2.2.2.2.2.2.2.2 k1
        have hl9k1 := hN.2.2.2.2.2.2.2.2.2.1 k1
        refine lv_astore (lv' := [(4, .ref (ra k1)), (0, .ref h), (1, .int (nI k1)), (2, .int q), (3, .int m1)]) hx hb dX10_cell_29 hl (by decide) rfl (fun ls hl => ?_)
        refine lv_aload hx hb dX10_cell_31 (lv_at hl 0 rfl) ?_
        refine lv_ifnonnull (tgt := 42) hx hb dX10_cell_33 (by decide) ?_
        refine lv_aload hx hb dX10_cell_42 (lv_at hl 0 rfl) ?_
        refine va_get (D := D) (ci := 3) (v := .int (nI (N 9 k1))) (C := RX3) (T := TX3) (N := 2) hx hb hts inX3 hown hK hw.2.1 2 rfl rfl 0 (by decide) (hts _ wd_569) (fun _ h9 => h9) rfl dX10_cell_44 ?_
        refine lv_iload_n hx hb dX10_cell_47 rfl (lv_at hl 4 rfl) ?_
        refine i_icmp_eq (tgt := 57) hx hb (nT (by omega)) hm1 dX10_cell_48 (by decide) (fun c_7 => ?_) (fun c_7 => ?_)
        · refine lv_aload hx hb dX10_cell_57 (lv_at hl 0 rfl) ?_
          refine lv_iload_n hx hb dX10_cell_59 rfl (lv_at hl 3 rfl) ?_
          refine lv_iconst (v := nI 1) hx hb dX10_cell_60 (by decide) ?_
          refine vp_callSi (ro_runV (c_X3_hasCells l D ka (ra k1) (ca k1) (N 9 k1) (N 10 k1) (rof (C k1)) (([] : va_W) ++ (rowsX ka ra ca N C k1 ++ R)) q (nI 1) _ _ hq (nT (by decide)) (by omega)) X wd_205 wd_202 wd_203 wd_204 wd_13 on_X3_hasCells ⟨Nat.le_of_ble_eq_true rfl, Nat.le_of_ble_eq_true rfl⟩ (va_recv hK hw.2.1 (ci := 3) (q0 := 2) rfl rfl) (va_P.right (w1 := [(h, .inr (10, [.ref (A 0), .ref (A 1), .ref (b 0), .ref (nb 0), .ref (sb 0), .ref (A 2), .ref (v 0), .int (nI 0)])), ((A 0), .inl (ka 1, 4, .inr (.inr (.inr (.inr (shf N ra))))))]) (w2 := ([((ra k1), .inr (3, [.int (nI (N 9 k1)), .ref (ca k1)])), ((ca k1), .inl (ka 0, N 10 k1, .inl (rof (C k1))))] : va_W) ++ (rowsX ka ra ca N C k1 ++ R)) hw.2.1) hl.1 rfl (Nat.le_of_ble_eq_true rfl) ⟨(Nat.zero_le _), (Nat.zero_le _)⟩ dX10_cell_61) (fun r_8 hr_8 => ?_)
          subst hr_8
          refine b_if_ne (tgt := 73) hx hb dX10_cell_64 (by decide) (fun c_9 => ?_) (fun c_9 => ?_)
          · obtain ⟨i1, hlt_i1, rfl, rfl⟩ := nat_ofK (n := N 10 k1) hq (by omega) (by omega)
            refine lv_aload hx hb dX10_cell_73 (lv_at hl 0 rfl) ?_
            refine va_get (D := D) (ci := 3) (v := .ref (ca k1)) (C := RX3) (T := TX3) (N := 2) hx hb hts inX3 hown hK hw.2.1 2 rfl rfl 1 (by decide) (hts _ wd_573) (fun _ h9 => h9) rfl dX10_cell_75 ?_
            refine lv_iload_n hx hb dX10_cell_78 rfl (lv_at hl 3 rfl) ?_
            refine n_iald hx hb hK hw.2.1 3 0 rfl rfl (k := i1) (by omega) (by omega) dX10_cell_79 ?_
            rw [rof_at (f := C k1) (i := i1) (by omega)]
            refine lv_i2l (v := (C k1 i1).toInt64) hx hb dX10_cell_80 rfl ?_
            have hw : wdH D z (([(h, .inr (10, [.ref (A 0), .ref (A 1), .ref (b 0), .ref (nb 0), .ref (sb 0), .ref (A 2), .ref (v 0), .int (nI ((f0 N) 0 4))])), ((A 0), .inl (ka 1, 4, .inr (.inr (.inr (.inr (shf (f0 N) ra))))))] : va_W) ++ (rows ka ra ca (f0 N) C ++ R)) H := rows_shut2 (ra' := ra) (ca' := ca) (N' := f0 N) (C' := C) (k := k1) (L := [(h, .inr (10, [.ref (A 0), .ref (A 1), .ref (b 0), .ref (nb 0), .ref (sb 0), .ref (A 2), .ref (v 0), .int (nI 0)])), ((A 0), .inl (ka 1, 4, .inr (.inr (.inr (.inr (shf N ra))))))]) (by omega) rfl rfl rfl rfl rfl h3 (fun j hj => rfl) hw
            refine hret _ _ _ _ _ _ _ _ dX10_cell_81 hS hw (Nat.zero_le _) (Nat.zero_le _) ⟨f0 N, C, rfl, ?_⟩
            unfold sp_cell
            rw [if_pos (by omega)]
            simp only [Int.toNat_natCast]
            rw [if_neg (by omega), if_neg h3, if_pos (by omega)]
          · refine lv_aload_n hx hb dX10_cell_67 rfl (lv_at hl 1 rfl) ?_
            refine lv_iconst (v := nI 3) hx hb dX10_cell_68 (by decide) ?_
            refine mu_l (mu_runV (c_X10_lost l D ka z h A b nb sb v 0 3 (by decide) (([((A 0), .inl (ka 1, 4, .inr (.inr (.inr (.inr (shf N ra)))))), ((ra k1), .inr (3, [.int (nI (N 9 k1)), .ref (ca k1)])), ((ca k1), .inl (ka 0, N 10 k1, .inl (rof (C k1))))] : va_W) ++ (rowsX ka ra ca N C k1 ++ R))) X wd_598 wd_595 wd_597 ws_1 wd_1 on_X10_lost ⟨Nat.le_of_ble_eq_true rfl, Nat.le_of_ble_eq_true rfl⟩ (va_recv hK hw.2.1 (ci := 10) (q0 := 0) rfl rfl) hw hl.1 rfl (Nat.le_of_ble_eq_true rfl) ⟨Nat.le_of_ble_eq_true rfl, Nat.le_of_ble_eq_true rfl⟩ dX10_cell_69) hS (fun r_11 u_10 H locs hp_u_10 hw hS => ?_)
            obtain ⟨rfl, rfl⟩ := hp_u_10
            have hw : wdH D z (([(h, .inr (10, [.ref (A 0), .ref (A 1), .ref (b 0), .ref (nb 0), .ref (sb 0), .ref (A 2), .ref (v 0), .int (nI 3)])), ((A 0), .inl (ka 1, 4, .inr (.inr (.inr (.inr (shf N ra)))))), ((ra k1), .inr (3, [.int (nI (N 9 k1)), .ref (ca k1)])), ((ca k1), .inl (ka 0, N 10 k1, .inl (rof (C k1))))] : va_W) ++ (rowsX ka ra ca N C k1 ++ R)) H := hw
            have hw : wdH D z (([(h, .inr (10, [.ref (A 0), .ref (A 1), .ref (b 0), .ref (nb 0), .ref (sb 0), .ref (A 2), .ref (v 0), .int (nI ((ff N 3) 0 4))])), ((A 0), .inl (ka 1, 4, .inr (.inr (.inr (.inr (shf (ff N 3) ra))))))] : va_W) ++ (rows ka ra ca (ff N 3) C ++ R)) H := rows_shut2 (ra' := ra) (ca' := ca) (N' := ff N 3) (C' := C) (k := k1) (L := [(h, .inr (10, [.ref (A 0), .ref (A 1), .ref (b 0), .ref (nb 0), .ref (sb 0), .ref (A 2), .ref (v 0), .int (nI 3)])), ((A 0), .inl (ka 1, 4, .inr (.inr (.inr (.inr (shf N ra))))))]) (by omega) rfl rfl rfl rfl rfl h3 (fun j hj => rfl) hw
            refine hret _ _ _ _ _ _ _ _ dX10_cell_72 hS hw (Nat.zero_le _) (Nat.zero_le _) ⟨ff N 3, C, rfl, ?_⟩
            unfold sp_cell
            rw [if_pos (by omega)]
            simp only [Int.toNat_natCast]
            rw [if_neg (by omega), if_neg h3, if_neg (by omega)]
        · refine lv_aload_n hx hb dX10_cell_51 rfl (lv_at hl 1 rfl) ?_
          refine lv_iconst (v := nI 2) hx hb dX10_cell_52 (by decide) ?_
          refine mu_l (mu_runV (c_X10_lost l D ka z h A b nb sb v 0 2 (by decide) (([((A 0), .inl (ka 1, 4, .inr (.inr (.inr (.inr (shf N ra)))))), ((ra k1), .inr (3, [.int (nI (N 9 k1)), .ref (ca k1)])), ((ca k1), .inl (ka 0, N 10 k1, .inl (rof (C k1))))] : va_W) ++ (rowsX ka ra ca N C k1 ++ R))) X wd_598 wd_595 wd_597 ws_1 wd_1 on_X10_lost ⟨Nat.le_of_ble_eq_true rfl, Nat.le_of_ble_eq_true rfl⟩ (va_recv hK hw.2.1 (ci := 10) (q0 := 0) rfl rfl) hw hl.1 rfl (Nat.le_of_ble_eq_true rfl) ⟨Nat.le_of_ble_eq_true rfl, Nat.le_of_ble_eq_true rfl⟩ dX10_cell_53) hS (fun r_13 u_12 H locs hp_u_12 hw hS => ?_)
          obtain ⟨rfl, rfl⟩ := hp_u_12
          have hw : wdH D z (([(h, .inr (10, [.ref (A 0), .ref (A 1), .ref (b 0), .ref (nb 0), .ref (sb 0), .ref (A 2), .ref (v 0), .int (nI 2)])), ((A 0), .inl (ka 1, 4, .inr (.inr (.inr (.inr (shf N ra)))))), ((ra k1), .inr (3, [.int (nI (N 9 k1)), .ref (ca k1)])), ((ca k1), .inl (ka 0, N 10 k1, .inl (rof (C k1))))] : va_W) ++ (rowsX ka ra ca N C k1 ++ R)) H := hw
          have hw : wdH D z (([(h, .inr (10, [.ref (A 0), .ref (A 1), .ref (b 0), .ref (nb 0), .ref (sb 0), .ref (A 2), .ref (v 0), .int (nI ((ff N 2) 0 4))])), ((A 0), .inl (ka 1, 4, .inr (.inr (.inr (.inr (shf (ff N 2) ra))))))] : va_W) ++ (rows ka ra ca (ff N 2) C ++ R)) H := rows_shut2 (ra' := ra) (ca' := ca) (N' := ff N 2) (C' := C) (k := k1) (L := [(h, .inr (10, [.ref (A 0), .ref (A 1), .ref (b 0), .ref (nb 0), .ref (sb 0), .ref (A 2), .ref (v 0), .int (nI 2)])), ((A 0), .inl (ka 1, 4, .inr (.inr (.inr (.inr (shf N ra))))))]) (by omega) rfl rfl rfl rfl rfl h3 (fun j hj => rfl) hw
          refine hret _ _ _ _ _ _ _ _ dX10_cell_56 hS hw (Nat.zero_le _) (Nat.zero_le _) ⟨ff N 2, C, rfl, ?_⟩
          unfold sp_cell
          rw [if_pos (by omega)]
          simp only [Int.toNat_natCast]
          rw [if_pos (by omega)]
    · refine lv_ldc2 (v := (-9223372036854775808 : Int64)) hx hb hown (hts _ wd_549) dX10_cell_19 ?_
      refine hret _ _ _ _ _ _ _ _ dX10_cell_22 hS hw (Nat.zero_le _) (Nat.zero_le _) ⟨f0 N, C, rfl, ?_⟩
      unfold sp_cell
      rw [if_neg (by omega)]
set_option maxRecDepth 100000 in
set_option maxHeartbeats 4000000 in
theorem c_X10_lose (l : Launch) (D : va_G) (ka : Nat → ClassId) (z : Nat) (h : Nat) (A b nb sb v ra ca : Nat → Nat) (N : NN) (hN : WF N)(k : Int32) (K9 : Int) (hk : k.toInt = K9) (C : CC) (R : va_W) : MU l D ka z yX10_lose cX10_lose 3 (some .int) 1 0 0 [.ref h, .int k] (([(h, .inr (10, [.ref (A 0), .ref (A 1), .ref (b 0), .ref (nb 0), .ref (sb 0), .ref (A 2), .ref (v 0), .int (nI (N 0 4))])), ((A 0), .inl (ka 1, 4, .inr (.inr (.inr (.inr (shf N ra))))))] : va_W) ++ (rows ka ra ca N C ++ R)) (Qi D z (fun r w => ∃ N' C', w = ([(h, .inr (10, [.ref (A 0), .ref (A 1), .ref (b 0), .ref (nb 0), .ref (sb 0), .ref (A 2), .ref (v 0), .int (nI (N' 0 4))])), ((A 0), .inl (ka 1, 4, .inr (.inr (.inr (.inr (shf N' ra))))))] : va_W) ++ (rows ka ra ca N' C' ++ R) ∧ (r, N', C') = sp_lose N C K9)) := by
  refine MU.ofI (by decide) (Nat.le_of_ble_eq_true rfl) ?_
  intro p e s m args below meth c Q X hw hS hret ls hl
  obtain ⟨hx, hb, hml, hown, hts, hE⟩ := id X
  have hK := hE.1
  have hz0 := hw.1
  have hl : lv_has ls 3 [(0, .ref h), (1, .int k)] := hl
  have hN1 := hN.1
  refine lv_iload_n hx hb dX10_lose_0 rfl (lv_at hl 1 rfl) ?_
  refine vp_callSi (ro_runS (c_X10_isSheet l D ka k _ hk) X wd_194 wd_192 wd_193 wd_1 on_X10_isSheet ⟨Nat.le_of_ble_eq_true rfl, Nat.le_of_ble_eq_true rfl⟩ trivial hl.1 rfl (Nat.le_of_ble_eq_true rfl) ⟨(Nat.zero_le _), (Nat.zero_le _)⟩ dX10_lose_1) (fun r_1 hr_1 => ?_)
  subst hr_1
  refine b_if_ne (tgt := 9) hx hb dX10_lose_4 (by decide) (fun c_2 => ?_) (fun c_2 => ?_)
  · obtain ⟨k1, hlt_k1, rfl, rfl⟩ := nat_ofK (n := 4) hk (by omega) (by omega)
    refine lv_aload_n hx hb dX10_lose_9 rfl (lv_at hl 0 rfl) ?_
    refine va_get (D := D) (ci := 10) (v := .ref (A 0)) (C := RX10) (T := TX10) (N := 8) hx hb hts inX10 hown hK hw.2.1 0 rfl rfl 0 (by decide) (hts _ wd_163) (fun _ h9 => h9) rfl dX10_lose_10 ?_
    refine lv_iload_n hx hb dX10_lose_13 rfl (lv_at hl 1 rfl) ?_
    refine n_aald hx hb hK hw.2.1 1 1 rfl rfl (k := k1) (by omega) (by decide) dX10_lose_14 ?_
    by_cases h3 : N 9 k1 = 3
    · rw [show (shf N ra) k1 = none from if_pos (Or.inl h3)]
      refine W.eq (g2 := F0 m 15 ls [.null]) rfl ?_
      refine lv_ifnonnullN hx hb dX10_lose_15 ?_
      refine lv_iconst (v := nI 0) hx hb dX10_lose_18 (by decide) ?_
      refine lv_goto (tgt := 23) hx hb dX10_lose_19 (by decide) ?_
      refine lv_istore_n (lv' := [(2, .int (nI 0)), (0, .ref h), (1, .int (nI k1))]) hx hb dX10_lose_23 rfl hl (by decide) rfl (fun ls hl => ?_)
      refine lv_aload_n hx hb dX10_lose_24 rfl (lv_at hl 1 rfl) ?_
      refine va_get (D := D) (ci := 10) (v := .ref (A 0)) (C := RX10) (T := TX10) (N := 8) hx hb hts inX10 hown hK hw.2.1 0 rfl rfl 0 (by decide) (hts _ wd_163) (fun _ h9 => h9) rfl dX10_lose_25 ?_
      refine lv_iload_n hx hb dX10_lose_28 rfl (lv_at hl 2 rfl) ?_
      refine lv_null hx hb dX10_lose_29 ?_
      refine n_aastN X hw.2.1 hw.2.2 hS 1 rfl (k := k1) (by omega) (by decide) dX10_lose_30 (fun H locs hP hD hS => ?_)
      have hw : wdH D z (([(h, .inr (10, [.ref (A 0), .ref (A 1), .ref (b 0), .ref (nb 0), .ref (sb 0), .ref (A 2), .ref (v 0), .int (nI (N 0 4))])), ((A 0), .inl (ka 1, 4, .inr (.inr (.inr (.inr (va_up (shf N ra) k1 none))))))] : va_W) ++ (rows ka ra ca N C ++ R)) H := ⟨Nat.le_trans hz0 hS.1, hP, hD⟩
      refine lv_iload_n hx hb dX10_lose_31 rfl (lv_at hl 0 rfl) ?_
      rw [shf_lose] at hw
      have hw := rows_drop (L := [(h, .inr (10, [.ref (A 0), .ref (A 1), .ref (b 0), .ref (nb 0), .ref (sb 0), .ref (A 2), .ref (v 0), .int (nI (N 0 4))])), ((A 0), .inl (ka 1, 4, .inr (.inr (.inr (.inr (shf (up N 9 k1 3) ra))))))]) (k := k1) (by omega) hw
      have hw : wdH D z (([(h, .inr (10, [.ref (A 0), .ref (A 1), .ref (b 0), .ref (nb 0), .ref (sb 0), .ref (A 2), .ref (v 0), .int (nI ((up N 9 k1 3) 0 4))])), ((A 0), .inl (ka 1, 4, .inr (.inr (.inr (.inr (shf (up N 9 k1 3) ra))))))] : va_W) ++ (rows ka ra ca (up N 9 k1 3) C ++ R)) H := rows_none (ra' := ra) (ca' := ca) (N' := up N 9 k1 3) (C' := C) (L := [(h, .inr (10, [.ref (A 0), .ref (A 1), .ref (b 0), .ref (nb 0), .ref (sb 0), .ref (A 2), .ref (v 0), .int (nI (N 0 4))])), ((A 0), .inl (ka 1, 4, .inr (.inr (.inr (.inr (shf (up N 9 k1 3) ra))))))]) (k := k1) (by omega) (show upN (N 9) k1 3 k1 = 3 from if_pos rfl) (fun j hj => rowb_D rfl rfl (show upN (N 9) k1 3 j = N 9 j from if_neg hj) rfl rfl) hw
      refine hret _ _ _ _ _ _ _ _ dX10_lose_32 hS hw (Nat.zero_le _) (Nat.zero_le _) ⟨up N 9 k1 3, C, rfl, ?_⟩
      unfold sp_lose
      rw [if_pos (by omega)]
      show _ = ((if N 9 k1 = 3 then nI 0 else nI 1), up N 9 k1 3, C)
      rw [if_pos h3]
    · rw [show (shf N ra) k1 = some (ra k1) from if_neg (by omega)]
      refine W.eq (g2 := F0 m 15 ls [.ref (ra k1)]) rfl ?_
      refine lv_ifnonnull (tgt := 22) hx hb dX10_lose_15 (by decide) ?_
      refine lv_iconst (v := nI 1) hx hb dX10_lose_22 (by decide) ?_
      refine lv_istore_n (lv' := [(2, .int (nI 1)), (0, .ref h), (1, .int (nI k1))]) hx hb dX10_lose_23 rfl hl (by decide) rfl (fun ls hl => ?_)
      refine lv_aload_n hx hb dX10_lose_24 rfl (lv_at hl 1 rfl) ?_
      refine va_get (D := D) (ci := 10) (v := .ref (A 0)) (C := RX10) (T := TX10) (N := 8) hx hb hts inX10 hown hK hw.2.1 0 rfl rfl 0 (by decide) (hts _ wd_163) (fun _ h9 => h9) rfl dX10_lose_25 ?_
      refine lv_iload_n hx hb dX10_lose_28 rfl (lv_at hl 2 rfl) ?_
      refine lv_null hx hb dX10_lose_29 ?_
      refine n_aastN X hw.2.1 hw.2.2 hS 1 rfl (k := k1) (by omega) (by decide) dX10_lose_30 (fun H locs hP hD hS => ?_)
      have hw : wdH D z (([(h, .inr (10, [.ref (A 0), .ref (A 1), .ref (b 0), .ref (nb 0), .ref (sb 0), .ref (A 2), .ref (v 0), .int (nI (N 0 4))])), ((A 0), .inl (ka 1, 4, .inr (.inr (.inr (.inr (va_up (shf N ra) k1 none))))))] : va_W) ++ (rows ka ra ca N C ++ R)) H := ⟨Nat.le_trans hz0 hS.1, hP, hD⟩
      refine lv_iload_n hx hb dX10_lose_31 rfl (lv_at hl 0 rfl) ?_
      rw [shf_lose] at hw
      have hw := rows_drop (L := [(h, .inr (10, [.ref (A 0), .ref (A 1), .ref (b 0), .ref (nb 0), .ref (sb 0), .ref (A 2), .ref (v 0), .int (nI (N 0 4))])), ((A 0), .inl (ka 1, 4, .inr (.inr (.inr (.inr (shf (up N 9 k1 3) ra))))))]) (k := k1) (by omega) hw
      have hw : wdH D z (([(h, .inr (10, [.ref (A 0), .ref (A 1), .ref (b 0), .ref (nb 0), .ref (sb 0), .ref (A 2), .ref (v 0), .int (nI ((up N 9 k1 3) 0 4))])), ((A 0), .inl (ka 1, 4, .inr (.inr (.inr (.inr (shf (up N 9 k1 3) ra))))))] : va_W) ++ (rows ka ra ca (up N 9 k1 3) C ++ R)) H := rows_none (ra' := ra) (ca' := ca) (N' := up N 9 k1 3) (C' := C) (L := [(h, .inr (10, [.ref (A 0), .ref (A 1), .ref (b 0), .ref (nb 0), .ref (sb 0), .ref (A 2), .ref (v 0), .int (nI (N 0 4))])), ((A 0), .inl (ka 1, 4, .inr (.inr (.inr (.inr (shf (up N 9 k1 3) ra))))))]) (k := k1) (by omega) (show upN (N 9) k1 3 k1 = 3 from if_pos rfl) (fun j hj => rowb_D rfl rfl (show upN (N 9) k1 3 j = N 9 j from if_neg hj) rfl rfl) hw
      refine hret _ _ _ _ _ _ _ _ dX10_lose_32 hS hw (Nat.zero_le _) (Nat.zero_le _) ⟨up N 9 k1 3, C, rfl, ?_⟩
      unfold sp_lose
      rw [if_pos (by omega)]
      show _ = ((if N 9 k1 = 3 then nI 0 else nI 1), up N 9 k1 3, C)
      rw [if_neg h3]
  · refine lv_iconst (v := (-1)) hx hb dX10_lose_7 (by decide) ?_
    refine hret _ _ _ _ _ _ _ _ dX10_lose_8 hS hw (Nat.zero_le _) (Nat.zero_le _) ⟨N, C, rfl, ?_⟩
    unfold sp_lose
    rw [if_neg (by omega)]
set_option maxRecDepth 100000 in
set_option maxHeartbeats 4000000 in
theorem c_X10_sheet (l : Launch) (D : va_G) (ka : Nat → ClassId) (z : Nat) (h : Nat) (A b nb sb v ra ca : Nat → Nat) (N : NN) (hN : WF N)(k : Int32) (K9 : Int) (hk : k.toInt = K9)(q : Int32) (Q9 : Int) (hq : q.toInt = Q9)(m1 : Int32) (M9 : Int) (hm1 : m1.toInt = M9) (C : CC) (R : va_W) : MU l D ka z yX10_sheet cX10_sheet 4 (some .int) 2 2 62 [.ref h, .int k, .int q, .int m1] (([(h, .inr (10, [.ref (A 0), .ref (A 1), .ref (b 0), .ref (nb 0), .ref (sb 0), .ref (A 2), .ref (v 0), .int (nI (N 0 4))])), ((A 0), .inl (ka 1, 4, .inr (.inr (.inr (.inr (shf N ra))))))] : va_W) ++ (rows ka ra ca N C ++ R)) (Qi D z (fun r w => ∃ N' C' ra' ca', w = ([(h, .inr (10, [.ref (A 0), .ref (A 1), .ref (b 0), .ref (nb 0), .ref (sb 0), .ref (A 2), .ref (v 0), .int (nI (N' 0 4))])), ((A 0), .inl (ka 1, 4, .inr (.inr (.inr (.inr (shf N' ra'))))))] : va_W) ++ (rows ka ra' ca' N' C' ++ R) ∧ (r, N', C') = sp_sheet N C K9 Q9 M9)) := by
  refine MU.ofI (by decide) (Nat.le_of_ble_eq_true rfl) ?_
  intro p e s m args below meth c Q X hw hS hret ls hl
  obtain ⟨hx, hb, hml, hown, hts, hE⟩ := id X
  have hK := hE.1
  have hz0 := hw.1
  have hl : lv_has ls 4 [(0, .ref h), (1, .int k), (2, .int q), (3, .int m1)] := hl
  have hN1 := hN.1
  refine lv_aload_n hx hb dX10_sheet_0 rfl (lv_at hl 0 rfl) ?_
  refine lv_iconst (v := nI 0) hx hb dX10_sheet_1 (by decide) ?_
  refine va_put (D := D) (ci := 10) (v := .int (nI 0)) (ty := .int) (C := RX10) (T := TX10) (N := 8) hx hb hts inX10 tyX10 tyX10_ok nmX10 hown hK hw.2.1 hw.2.2 hS 0 rfl rfl 7 (by decide) (hts _ wd_170) (fun _ h9 => h9) rfl (by decide +kernel) rfl rfl (Nat.le_of_ble_eq_true rfl) dX10_sheet_2 (fun H locs hP hD hS => ?_)
  have hw : wdH D z (([(h, .inr (10, [.ref (A 0), .ref (A 1), .ref (b 0), .ref (nb 0), .ref (sb 0), .ref (A 2), .ref (v 0), .int (nI 0)])), ((A 0), .inl (ka 1, 4, .inr (.inr (.inr (.inr (shf N ra))))))] : va_W) ++ (rows ka ra ca N C ++ R)) H := ⟨Nat.le_trans hz0 hS.1, hP, hD⟩
  refine lv_iload_n hx hb dX10_sheet_5 rfl (lv_at hl 1 rfl) ?_
  refine vp_callSi (ro_runS (c_X10_isSheet l D ka k _ hk) X wd_194 wd_192 wd_193 wd_1 on_X10_isSheet ⟨Nat.le_of_ble_eq_true rfl, Nat.le_of_ble_eq_true rfl⟩ trivial hl.1 rfl (Nat.le_of_ble_eq_true rfl) ⟨(Nat.zero_le _), (Nat.zero_le _)⟩ dX10_sheet_6) (fun r_1 hr_1 => ?_)
  subst hr_1
  refine b_if_ne (tgt := 14) hx hb dX10_sheet_9 (by decide) (fun c_2 => ?_) (fun c_2 => ?_)
  · refine lv_iload_n hx hb dX10_sheet_14 rfl (lv_at hl 2 rfl) ?_
    refine vp_callSi (ro_runS (c_X10_isLane l D ka q _ hq) X wd_197 wd_195 wd_196 wd_1 on_X10_isLane ⟨Nat.le_of_ble_eq_true rfl, Nat.le_of_ble_eq_true rfl⟩ trivial hl.1 rfl (Nat.le_of_ble_eq_true rfl) ⟨(Nat.zero_le _), (Nat.zero_le _)⟩ dX10_sheet_15) (fun r_3 hr_3 => ?_)
    subst hr_3
    refine b_if_eq (tgt := 27) hx hb dX10_sheet_18 (by decide) (fun c_4 => ?_) (fun c_4 => ?_)
    · refine lv_bipush (v := (-2)) hx hb dX10_sheet_27 (by decide) ?_
      refine hret _ _ _ _ _ _ _ _ dX10_sheet_29 hS hw (Nat.zero_le _) (Nat.zero_le _) ⟨f0 N, C, ra, ca, rfl, ?_⟩
      unfold sp_sheet
      rw [if_pos (by omega), if_neg (by omega)]
    · refine lv_iload_n hx hb dX10_sheet_21 rfl (lv_at hl 3 rfl) ?_
      refine lv_bipush (v := nI 60) hx hb dX10_sheet_22 (by decide) ?_
      refine i_icmp_le (tgt := 30) hx hb hm1 (nT (by decide)) dX10_sheet_24 (by decide) (fun c_5 => ?_) (fun c_5 => ?_)
      · refine lv_iload_n hx hb dX10_sheet_30 rfl (lv_at hl 3 rfl) ?_
        refine i_if_ge (tgt := 40) hx hb hm1 dX10_sheet_31 (by decide) (fun c_6 => ?_) (fun c_6 => ?_)
        · obtain ⟨k1, hlt_k1, rfl, rfl⟩ := nat_ofK (n := 4) hk (by omega) (by omega)
          obtain ⟨q1, hlt_q1, rfl, rfl⟩ := nat_ofK (n := 3) hq (by omega) (by omega)
          obtain ⟨n1, hlt_n1, rfl, rfl⟩ := nat_ofK (n := 61) hm1 (by omega) (by omega)
          have hw : wdH D z (([(h, .inr (10, [.ref (A 0), .ref (A 1), .ref (b 0), .ref (nb 0), .ref (sb 0), .ref (A 2), .ref (v 0), .int (nI 0)])), ((A 0), .inl (ka 1, 4, .inr (.inr (.inr (.inr (shf N ra))))))] : va_W) ++ (rowsX ka ra ca N C k1 ++ R)) H := rows_drop (L := [(h, .inr (10, [.ref (A 0), .ref (A 1), .ref (b 0), .ref (nb 0), .ref (sb 0), .ref (A 2), .ref (v 0), .int (nI 0)])), ((A 0), .inl (ka 1, 4, .inr (.inr (.inr (.inr (shf N ra))))))]) (k := k1) (by omega) hw
          refine lv_aload_n hx hb dX10_sheet_40 rfl (lv_at hl 0 rfl) ?_
          refine va_get (D := D) (ci := 10) (v := .ref (A 0)) (C := RX10) (T := TX10) (N := 8) hx hb hts inX10 hown hK hw.2.1 0 rfl rfl 0 (by decide) (hts _ wd_163) (fun _ h9 => h9) rfl dX10_sheet_41 ?_
          refine lv_iload_n hx hb dX10_sheet_44 rfl (lv_at hl 1 rfl) ?_
          refine n_new (L := [(h, .inr (10, [.ref (A 0), .ref (A 1), .ref (b 0), .ref (nb 0), .ref (sb 0), .ref (A 2), .ref (v 0), .int (nI 0)])), ((A 0), .inl (ka 1, 4, .inr (.inr (.inr (.inr (shf N ra))))))]) (Rw := (rowsX ka ra ca N C k1 ++ R)) X (C := RX3) (T := TX3) (N := 2) (ci := 3) inX3 tyX3 tyX3_ok wd_23 wd_562 wd_13 hw hS hz0 rfl (fs := [.int 0, .null]) (fun j hj => by rcases (show j = 0 ∨ j = 1 by omega) with rfl | rfl <;> rfl) (Nat.le_of_ble_eq_true rfl) (Nat.le_of_ble_eq_true rfl) dX10_sheet_45 (fun q_7 H hw hS => ?_)
          have hw : wdH D z (([(h, .inr (10, [.ref (A 0), .ref (A 1), .ref (b 0), .ref (nb 0), .ref (sb 0), .ref (A 2), .ref (v 0), .int (nI 0)])), ((A 0), .inl (ka 1, 4, .inr (.inr (.inr (.inr (shf N ra)))))), (q_7, .inr (3, [.int 0, .null]))] : va_W) ++ (rowsX ka ra ca N C k1 ++ R)) H := hw
          refine lv_dup hx hb dX10_sheet_48 rfl ?_
          refine lv_iload_n hx hb dX10_sheet_49 rfl (lv_at hl 2 rfl) ?_
          refine lv_iload_n hx hb dX10_sheet_50 rfl (lv_at hl 3 rfl) ?_
          have hw : wdH D z (([(q_7, .inr (3, [.int 0, .null])), (h, .inr (10, [.ref (A 0), .ref (A 1), .ref (b 0), .ref (nb 0), .ref (sb 0), .ref (A 2), .ref (v 0), .int (nI 0)])), ((A 0), .inl (ka 1, 4, .inr (.inr (.inr (.inr (shf N ra))))))] : va_W) ++ (rowsX ka ra ca N C k1 ++ R)) H := hw.perm (perm_at (i := 2) rfl)
          refine mu_v (mu_runI (c_X3_init l D ka z q_7 q1 n1 (by omega) (([(h, .inr (10, [.ref (A 0), .ref (A 1), .ref (b 0), .ref (nb 0), .ref (sb 0), .ref (A 2), .ref (v 0), .int (nI 0)])), ((A 0), .inl (ka 1, 4, .inr (.inr (.inr (.inr (shf N ra))))))] : va_W) ++ (rowsX ka ra ca N C k1 ++ R))) X wd_565 wd_563 wd_564 wd_13 rfl on_X3_init ⟨Nat.le_of_ble_eq_true rfl, Nat.le_of_ble_eq_true rfl⟩ hw hl.1 rfl (Nat.le_of_ble_eq_true rfl) ⟨Nat.le_of_ble_eq_true rfl, Nat.le_of_ble_eq_true rfl⟩ dX10_sheet_51) hS (fun u_8 H locs hp_u_8 hw hS => ?_)
          obtain ⟨cq, rfl⟩ := hp_u_8
          have hw : wdH D z (([(q_7, .inr (3, [.int (nI q1), .ref cq])), (cq, .inl (ka 0, n1, .inl (fun _ => 0))), (h, .inr (10, [.ref (A 0), .ref (A 1), .ref (b 0), .ref (nb 0), .ref (sb 0), .ref (A 2), .ref (v 0), .int (nI 0)])), ((A 0), .inl (ka 1, 4, .inr (.inr (.inr (.inr (shf N ra))))))] : va_W) ++ (rowsX ka ra ca N C k1 ++ R)) H := hw
          refine n_aastR X hw.2.1 hw.2.2 hS 3 0 rfl rfl (k := k1) (by omega) (by decide) dX10_sheet_54 (fun H locs hP hD hS => ?_)
          have hw : wdH D z (([(q_7, .inr (3, [.int (nI q1), .ref cq])), (cq, .inl (ka 0, n1, .inl (fun _ => 0))), (h, .inr (10, [.ref (A 0), .ref (A 1), .ref (b 0), .ref (nb 0), .ref (sb 0), .ref (A 2), .ref (v 0), .int (nI 0)])), ((A 0), .inl (ka 1, 4, .inr (.inr (.inr (.inr (va_up (shf N ra) k1 (some q_7)))))))] : va_W) ++ (rowsX ka ra ca N C k1 ++ R)) H := ⟨Nat.le_trans hz0 hS.1, hP, hD⟩
          refine lv_iconst (v := nI 1) hx hb dX10_sheet_55 (by decide) ?_
          have hw : wdH D z (([((A 0), .inl (ka 1, 4, .inr (.inr (.inr (.inr (va_up (shf N ra) k1 (some q_7))))))), (q_7, .inr (3, [.int (nI q1), .ref cq])), (cq, .inl (ka 0, n1, .inl (fun _ => 0))), (h, .inr (10, [.ref (A 0), .ref (A 1), .ref (b 0), .ref (nb 0), .ref (sb 0), .ref (A 2), .ref (v 0), .int (nI 0)]))] : va_W) ++ (rowsX ka ra ca N C k1 ++ R)) H := hw.perm (perm_at (i := 3) rfl)
          have hw : wdH D z (([(h, .inr (10, [.ref (A 0), .ref (A 1), .ref (b 0), .ref (nb 0), .ref (sb 0), .ref (A 2), .ref (v 0), .int (nI 0)])), ((A 0), .inl (ka 1, 4, .inr (.inr (.inr (.inr (va_up (shf N ra) k1 (some q_7))))))), (q_7, .inr (3, [.int (nI q1), .ref cq])), (cq, .inl (ka 0, n1, .inl (fun _ => 0)))] : va_W) ++ (rowsX ka ra ca N C k1 ++ R)) H := hw.perm (perm_at (i := 3) rfl)
          rw [shf_new (N := N) (ra := ra) (k := k1) (q := q_7) (Q := q1) (n := n1) (by omega) (by omega)] at hw
          have hw : wdH D z (([(h, .inr (10, [.ref (A 0), .ref (A 1), .ref (b 0), .ref (nb 0), .ref (sb 0), .ref (A 2), .ref (v 0), .int (nI ((up (up (f0 N) 9 k1 q1) 10 k1 n1) 0 4))])), ((A 0), .inl (ka 1, 4, .inr (.inr (.inr (.inr (shf (up (up (f0 N) 9 k1 q1) 10 k1 n1) (fun j => if j = k1 then q_7 else ra j)))))))] : va_W) ++ (rows ka (fun j => if j = k1 then q_7 else ra j) (fun j => if j = k1 then cq else ca j) (up (up (f0 N) 9 k1 q1) 10 k1 n1) (zC C k1 60) ++ R)) H := rows_shut2 (ra' := (fun j => if j = k1 then q_7 else ra j)) (ca' := (fun j => if j = k1 then cq else ca j)) (N' := (up (up (f0 N) 9 k1 q1) 10 k1 n1)) (C' := (zC C k1 60)) (k := k1) (L := [(h, .inr (10, [.ref (A 0), .ref (A 1), .ref (b 0), .ref (nb 0), .ref (sb 0), .ref (A 2), .ref (v 0), .int (nI 0)])), ((A 0), .inl (ka 1, 4, .inr (.inr (.inr (.inr (shf (up (up (f0 N) 9 k1 q1) 10 k1 n1) (fun j => if j = k1 then q_7 else ra j)))))))]) (by omega) (if_pos rfl) (if_pos rfl) (show upN (N 9) k1 q1 k1 = q1 from if_pos rfl) (show upN (N 10) k1 n1 k1 = n1 from if_pos rfl) zC_rof (by omega) (fun j hj => rowb_D (if_neg hj) (if_neg hj) (show upN (N 9) k1 q1 j = N 9 j from if_neg hj) (show upN (N 10) k1 n1 j = N 10 j from if_neg hj) (zC_ne hj)) hw
          refine hret _ _ _ _ _ _ _ _ dX10_sheet_56 hS hw (by show 1 + 1 ≤ 2; omega) (by show 2 + 60 ≤ 62; omega) ⟨(up (up (f0 N) 9 k1 q1) 10 k1 n1), (zC C k1 60), (fun j => if j = k1 then q_7 else ra j), (fun j => if j = k1 then cq else ca j), rfl, ?_⟩
          unfold sp_sheet
          rw [if_pos (by omega), if_pos (by omega), if_neg (by omega)]; rfl
        · refine lv_aload_n hx hb dX10_sheet_34 rfl (lv_at hl 0 rfl) ?_
          refine lv_iconst (v := nI 4) hx hb dX10_sheet_35 (by decide) ?_
          refine mu_i (mu_runV (c_X10_faulted l D ka z h A b nb sb v 0 4 (by decide) (([((A 0), .inl (ka 1, 4, .inr (.inr (.inr (.inr (shf N ra))))))] : va_W) ++ (rows ka ra ca N C ++ R))) X wd_201 wd_198 wd_200 ws_0 wd_1 on_X10_faulted ⟨Nat.le_of_ble_eq_true rfl, Nat.le_of_ble_eq_true rfl⟩ (va_recv hK hw.2.1 (ci := 10) (q0 := 0) rfl rfl) hw hl.1 rfl (Nat.le_of_ble_eq_true rfl) ⟨Nat.le_of_ble_eq_true rfl, Nat.le_of_ble_eq_true rfl⟩ dX10_sheet_36) hS (fun r_10 u_9 H locs hp_u_9 hw hS => ?_)
          obtain ⟨rfl, rfl⟩ := hp_u_9
          have hw : wdH D z (([(h, .inr (10, [.ref (A 0), .ref (A 1), .ref (b 0), .ref (nb 0), .ref (sb 0), .ref (A 2), .ref (v 0), .int (nI 4)])), ((A 0), .inl (ka 1, 4, .inr (.inr (.inr (.inr (shf N ra))))))] : va_W) ++ (rows ka ra ca N C ++ R)) H := hw
          refine hret _ _ _ _ _ _ _ _ dX10_sheet_39 hS hw (Nat.zero_le _) (Nat.zero_le _) ⟨ff N 4, C, ra, ca, rfl, ?_⟩
          unfold sp_sheet
          rw [if_pos (by omega), if_pos (by omega), if_pos (by omega)]
      · refine lv_bipush (v := (-2)) hx hb dX10_sheet_27 (by decide) ?_
        refine hret _ _ _ _ _ _ _ _ dX10_sheet_29 hS hw (Nat.zero_le _) (Nat.zero_le _) ⟨f0 N, C, ra, ca, rfl, ?_⟩
        unfold sp_sheet
        rw [if_pos (by omega), if_neg (by omega)]
  · refine lv_iconst (v := (-1)) hx hb dX10_sheet_12 (by decide) ?_
    refine hret _ _ _ _ _ _ _ _ dX10_sheet_13 hS hw (Nat.zero_le _) (Nat.zero_le _) ⟨f0 N, C, ra, ca, rfl, ?_⟩
    unfold sp_sheet
    rw [if_neg (by omega)]
set_option maxRecDepth 100000 in
set_option maxHeartbeats 4000000 in
theorem c_X10_copy (l : Launch) (D : va_G) (ka : Nat → ClassId) (z : Nat) (h : Nat) (A b nb sb v ra ca : Nat → Nat) (N : NN) (hN : WF N)(k : Int32) (K9 : Int) (hk : k.toInt = K9)(i : Int32) (I9 : Int) (hi : i.toInt = I9)(o : Int32) (O9 : Int) (ho : o.toInt = O9)(j : Int32) (J9 : Int) (hj : j.toInt = J9)(n : Int32) (M9 : Int) (hn : n.toInt = M9) (C : CC) (R : va_W) : MU l D ka z yX10_copy cX10_copy 8 (some .int) 1 0 0 [.ref h, .int k, .int i, .int o, .int j, .int n] (([(h, .inr (10, [.ref (A 0), .ref (A 1), .ref (b 0), .ref (nb 0), .ref (sb 0), .ref (A 2), .ref (v 0), .int (nI (N 0 4))])), ((A 0), .inl (ka 1, 4, .inr (.inr (.inr (.inr (shf N ra))))))] : va_W) ++ (rows ka ra ca N C ++ R)) (Qi D z (fun r w => ∃ N' C', w = ([(h, .inr (10, [.ref (A 0), .ref (A 1), .ref (b 0), .ref (nb 0), .ref (sb 0), .ref (A 2), .ref (v 0), .int (nI (N' 0 4))])), ((A 0), .inl (ka 1, 4, .inr (.inr (.inr (.inr (shf N' ra))))))] : va_W) ++ (rows ka ra ca N' C' ++ R) ∧ (r, N', C') = sp_copy N C K9 I9 O9 J9 M9)) := by
  refine MU.ofI (by decide) (Nat.le_of_ble_eq_true rfl) ?_
  intro p e s m args below meth c Q X hw hS hret ls hl
  obtain ⟨hx, hb, hml, hown, hts, hE⟩ := id X
  have hK := hE.1
  have hz0 := hw.1
  have hl : lv_has ls 8 [(0, .ref h), (1, .int k), (2, .int i), (3, .int o), (4, .int j), (5, .int n)] := hl
  have hN1 := hN.1
  refine lv_aload_n hx hb dX10_copy_0 rfl (lv_at hl 0 rfl) ?_
  refine lv_iconst (v := nI 0) hx hb dX10_copy_1 (by decide) ?_
  refine va_put (D := D) (ci := 10) (v := .int (nI 0)) (ty := .int) (C := RX10) (T := TX10) (N := 8) hx hb hts inX10 tyX10 tyX10_ok nmX10 hown hK hw.2.1 hw.2.2 hS 0 rfl rfl 7 (by decide) (hts _ wd_170) (fun _ h9 => h9) rfl (by decide +kernel) rfl rfl (Nat.le_of_ble_eq_true rfl) dX10_copy_2 (fun H locs hP hD hS => ?_)
  have hw : wdH D z (([(h, .inr (10, [.ref (A 0), .ref (A 1), .ref (b 0), .ref (nb 0), .ref (sb 0), .ref (A 2), .ref (v 0), .int (nI 0)])), ((A 0), .inl (ka 1, 4, .inr (.inr (.inr (.inr (shf N ra))))))] : va_W) ++ (rows ka ra ca N C ++ R)) H := ⟨Nat.le_trans hz0 hS.1, hP, hD⟩
  refine lv_iload_n hx hb dX10_copy_5 rfl (lv_at hl 1 rfl) ?_
  refine vp_callSi (ro_runS (c_X10_isSheet l D ka k _ hk) X wd_194 wd_192 wd_193 wd_1 on_X10_isSheet ⟨Nat.le_of_ble_eq_true rfl, Nat.le_of_ble_eq_true rfl⟩ trivial hl.1 rfl (Nat.le_of_ble_eq_true rfl) ⟨(Nat.zero_le _), (Nat.zero_le _)⟩ dX10_copy_6) (fun r_1 hr_1 => ?_)
  subst hr_1
  refine b_if_eq (tgt := 19) hx hb dX10_copy_9 (by decide) (fun c_2 => ?_) (fun c_2 => ?_)
  · refine lv_iconst (v := (-1)) hx hb dX10_copy_19 (by decide) ?_
    refine hret _ _ _ _ _ _ _ _ dX10_copy_20 hS hw (Nat.zero_le _) (Nat.zero_le _) ⟨f0 N, C, rfl, ?_⟩
    unfold sp_copy
    rw [if_neg (by omega)]
  · refine lv_iload_n hx hb dX10_copy_12 rfl (lv_at hl 3 rfl) ?_
    refine vp_callSi (ro_runS (c_X10_isSheet l D ka o _ ho) X wd_194 wd_192 wd_193 wd_1 on_X10_isSheet ⟨Nat.le_of_ble_eq_true rfl, Nat.le_of_ble_eq_true rfl⟩ trivial hl.1 rfl (Nat.le_of_ble_eq_true rfl) ⟨(Nat.zero_le _), (Nat.zero_le _)⟩ dX10_copy_13) (fun r_3 hr_3 => ?_)
    subst hr_3
    refine b_if_ne (tgt := 21) hx hb dX10_copy_16 (by decide) (fun c_4 => ?_) (fun c_4 => ?_)
    · obtain ⟨k1, hlt_k1, rfl, rfl⟩ := nat_ofK (n := 4) hk (by omega) (by omega)
      obtain ⟨o1, hlt_o1, rfl, rfl⟩ := nat_ofK (n := 4) ho (by omega) (by omega)
      refine lv_aload_n hx hb dX10_copy_21 rfl (lv_at hl 0 rfl) ?_
      refine va_get (D := D) (ci := 10) (v := .ref (A 0)) (C := RX10) (T := TX10) (N := 8) hx hb hts inX10 hown hK hw.2.1 0 rfl rfl 0 (by decide) (hts _ wd_163) (fun _ h9 => h9) rfl dX10_copy_22 ?_
      refine lv_iload_n hx hb dX10_copy_25 rfl (lv_at hl 1 rfl) ?_
      refine n_aald hx hb hK hw.2.1 1 1 rfl rfl (k := k1) (by omega) (by decide) dX10_copy_26 ?_
      by_cases h3 : N 9 k1 = 3
      · rw [show (shf N ra) k1 = none from if_pos (Or.inl h3)]
        refine W.eq (g2 := F0 m 27 ls [.null]) rfl ?_
        refine lv_astoreN (lv' := [(6, .null), (0, .ref h), (1, .int (nI k1)), (2, .int i), (3, .int (nI o1)), (4, .int j), (5, .int n)]) hx hb dX10_copy_27 hl (by decide) rfl (fun ls hl => ?_)
        refine lv_aload_n hx hb dX10_copy_29 rfl (lv_at hl 1 rfl) ?_
        refine va_get (D := D) (ci := 10) (v := .ref (A 0)) (C := RX10) (T := TX10) (N := 8) hx hb hts inX10 hown hK hw.2.1 0 rfl rfl 0 (by decide) (hts _ wd_163) (fun _ h9 => h9) rfl dX10_copy_30 ?_
        refine lv_iload_n hx hb dX10_copy_33 rfl (lv_at hl 4 rfl) ?_
        refine n_aald hx hb hK hw.2.1 1 1 rfl rfl (k := o1) (by omega) (by decide) dX10_copy_34 ?_
        by_cases h3o : N 9 o1 = 3
        · rw [show (shf N ra) o1 = none from if_pos (Or.inl h3o)]
          refine W.eq (g2 := F0 m 35 ls [.null]) rfl ?_
          refine lv_astoreN (lv' := [(7, .null), (6, .null), (0, .ref h), (1, .int (nI k1)), (2, .int i), (3, .int (nI o1)), (4, .int j), (5, .int n)]) hx hb dX10_copy_35 hl (by decide) rfl (fun ls hl => ?_)
          refine lv_aloadN hx hb dX10_copy_37 (lv_at hl 1 rfl) ?_
          refine lv_ifnullN (tgt := 47) hx hb dX10_copy_39 (by decide) ?_
          refine lv_aload_n hx hb dX10_copy_47 rfl (lv_at hl 2 rfl) ?_
          refine lv_iconst (v := nI 1) hx hb dX10_copy_48 (by decide) ?_
          refine mu_i (mu_runV (c_X10_faulted l D ka z h A b nb sb v 0 1 (by decide) (([((A 0), .inl (ka 1, 4, .inr (.inr (.inr (.inr (shf N ra))))))] : va_W) ++ (rows ka ra ca N C ++ R))) X wd_201 wd_198 wd_200 ws_0 wd_1 on_X10_faulted ⟨Nat.le_of_ble_eq_true rfl, Nat.le_of_ble_eq_true rfl⟩ (va_recv hK hw.2.1 (ci := 10) (q0 := 0) rfl rfl) hw hl.1 rfl (Nat.le_of_ble_eq_true rfl) ⟨Nat.le_of_ble_eq_true rfl, Nat.le_of_ble_eq_true rfl⟩ dX10_copy_49) hS (fun r_6 u_5 H locs hp_u_5 hw hS => ?_)
          obtain ⟨rfl, rfl⟩ := hp_u_5
          have hw : wdH D z (([(h, .inr (10, [.ref (A 0), .ref (A 1), .ref (b 0), .ref (nb 0), .ref (sb 0), .ref (A 2), .ref (v 0), .int (nI 1)])), ((A 0), .inl (ka 1, 4, .inr (.inr (.inr (.inr (shf N ra))))))] : va_W) ++ (rows ka ra ca N C ++ R)) H := hw
          refine hret _ _ _ _ _ _ _ _ dX10_copy_52 hS hw (Nat.zero_le _) (Nat.zero_le _) ⟨ff N 1, C, rfl, ?_⟩
          unfold sp_copy
          rw [if_pos (by omega)]
          show _ = (if N 9 k1 = 3 ∨ N 9 o1 = 3 then (-10 - nI 1, ff N 1, C) else if N 9 k1 ≠ N 9 o1 then (-10 - nI 2, ff N 2, C) else if (0 ≤ I9 ∧ 0 ≤ J9 ∧ 0 ≤ M9 ∧ I9 ≤ ((N 10 k1 : Nat) : Int) ∧ J9 ≤ ((N 10 o1 : Nat) : Int)) ∧ M9 ≤ ((N 10 k1 : Nat) : Int) - I9 ∧ M9 ≤ ((N 10 o1 : Nat) : Int) - J9 then _ else (-10 - nI 3, ff N 3, C))
          rw [if_pos (by omega)]
        · rw [show (shf N ra) o1 = some (ra o1) from if_neg (by omega)]
          refine W.eq (g2 := F0 m 35 ls [.ref (ra o1)]) rfl ?_
          refine lv_astore (lv' := [(7, .ref (ra o1)), (6, .null), (0, .ref h), (1, .int (nI k1)), (2, .int i), (3, .int (nI o1)), (4, .int j), (5, .int n)]) hx hb dX10_copy_35 hl (by decide) rfl (fun ls hl => ?_)
          refine lv_aloadN hx hb dX10_copy_37 (lv_at hl 1 rfl) ?_
          refine lv_ifnullN (tgt := 47) hx hb dX10_copy_39 (by decide) ?_
          refine lv_aload_n hx hb dX10_copy_47 rfl (lv_at hl 2 rfl) ?_
          refine lv_iconst (v := nI 1) hx hb dX10_copy_48 (by decide) ?_
          refine mu_i (mu_runV (c_X10_faulted l D ka z h A b nb sb v 0 1 (by decide) (([((A 0), .inl (ka 1, 4, .inr (.inr (.inr (.inr (shf N ra))))))] : va_W) ++ (rows ka ra ca N C ++ R))) X wd_201 wd_198 wd_200 ws_0 wd_1 on_X10_faulted ⟨Nat.le_of_ble_eq_true rfl, Nat.le_of_ble_eq_true rfl⟩ (va_recv hK hw.2.1 (ci := 10) (q0 := 0) rfl rfl) hw hl.1 rfl (Nat.le_of_ble_eq_true rfl) ⟨Nat.le_of_ble_eq_true rfl, Nat.le_of_ble_eq_true rfl⟩ dX10_copy_49) hS (fun r_8 u_7 H locs hp_u_7 hw hS => ?_)
          obtain ⟨rfl, rfl⟩ := hp_u_7
          have hw : wdH D z (([(h, .inr (10, [.ref (A 0), .ref (A 1), .ref (b 0), .ref (nb 0), .ref (sb 0), .ref (A 2), .ref (v 0), .int (nI 1)])), ((A 0), .inl (ka 1, 4, .inr (.inr (.inr (.inr (shf N ra))))))] : va_W) ++ (rows ka ra ca N C ++ R)) H := hw
          refine hret _ _ _ _ _ _ _ _ dX10_copy_52 hS hw (Nat.zero_le _) (Nat.zero_le _) ⟨ff N 1, C, rfl, ?_⟩
          unfold sp_copy
          rw [if_pos (by omega)]
          show _ = (if N 9 k1 = 3 ∨ N 9 o1 = 3 then (-10 - nI 1, ff N 1, C) else if N 9 k1 ≠ N 9 o1 then (-10 - nI 2, ff N 2, C) else if (0 ≤ I9 ∧ 0 ≤ J9 ∧ 0 ≤ M9 ∧ I9 ≤ ((N 10 k1 : Nat) : Int) ∧ J9 ≤ ((N 10 o1 : Nat) : Int)) ∧ M9 ≤ ((N 10 k1 : Nat) : Int) - I9 ∧ M9 ≤ ((N 10 o1 : Nat) : Int) - J9 then _ else (-10 - nI 3, ff N 3, C))
          rw [if_pos (by omega)]
      · rw [show (shf N ra) k1 = some (ra k1) from if_neg (by omega)]
        refine W.eq (g2 := F0 m 27 ls [.ref (ra k1)]) rfl ?_
        refine lv_astore (lv' := [(6, .ref (ra k1)), (0, .ref h), (1, .int (nI k1)), (2, .int i), (3, .int (nI o1)), (4, .int j), (5, .int n)]) hx hb dX10_copy_27 hl (by decide) rfl (fun ls hl => ?_)
        refine lv_aload_n hx hb dX10_copy_29 rfl (lv_at hl 1 rfl) ?_
        refine va_get (D := D) (ci := 10) (v := .ref (A 0)) (C := RX10) (T := TX10) (N := 8) hx hb hts inX10 hown hK hw.2.1 0 rfl rfl 0 (by decide) (hts _ wd_163) (fun _ h9 => h9) rfl dX10_copy_30 ?_
        refine lv_iload_n hx hb dX10_copy_33 rfl (lv_at hl 4 rfl) ?_
        refine n_aald hx hb hK hw.2.1 1 1 rfl rfl (k := o1) (by omega) (by decide) dX10_copy_34 ?_
        by_cases h3o : N 9 o1 = 3
        · rw [show (shf N ra) o1 = none from if_pos (Or.inl h3o)]
          refine W.eq (g2 := F0 m 35 ls [.null]) rfl ?_
          refine lv_astoreN (lv' := [(7, .null), (6, .ref (ra k1)), (0, .ref h), (1, .int (nI k1)), (2, .int i), (3, .int (nI o1)), (4, .int j), (5, .int n)]) hx hb dX10_copy_35 hl (by decide) rfl (fun ls hl => ?_)
          refine lv_aload hx hb dX10_copy_37 (lv_at hl 1 rfl) ?_
          refine lv_ifnull hx hb dX10_copy_39 ?_
          refine lv_aloadN hx hb dX10_copy_42 (lv_at hl 0 rfl) ?_
          refine lv_ifnonnullN hx hb dX10_copy_44 ?_
          refine lv_aload_n hx hb dX10_copy_47 rfl (lv_at hl 2 rfl) ?_
          refine lv_iconst (v := nI 1) hx hb dX10_copy_48 (by decide) ?_
          refine mu_i (mu_runV (c_X10_faulted l D ka z h A b nb sb v 0 1 (by decide) (([((A 0), .inl (ka 1, 4, .inr (.inr (.inr (.inr (shf N ra))))))] : va_W) ++ (rows ka ra ca N C ++ R))) X wd_201 wd_198 wd_200 ws_0 wd_1 on_X10_faulted ⟨Nat.le_of_ble_eq_true rfl, Nat.le_of_ble_eq_true rfl⟩ (va_recv hK hw.2.1 (ci := 10) (q0 := 0) rfl rfl) hw hl.1 rfl (Nat.le_of_ble_eq_true rfl) ⟨Nat.le_of_ble_eq_true rfl, Nat.le_of_ble_eq_true rfl⟩ dX10_copy_49) hS (fun r_10 u_9 H locs hp_u_9 hw hS => ?_)
          obtain ⟨rfl, rfl⟩ := hp_u_9
          have hw : wdH D z (([(h, .inr (10, [.ref (A 0), .ref (A 1), .ref (b 0), .ref (nb 0), .ref (sb 0), .ref (A 2), .ref (v 0), .int (nI 1)])), ((A 0), .inl (ka 1, 4, .inr (.inr (.inr (.inr (shf N ra))))))] : va_W) ++ (rows ka ra ca N C ++ R)) H := hw
          refine hret _ _ _ _ _ _ _ _ dX10_copy_52 hS hw (Nat.zero_le _) (Nat.zero_le _) ⟨ff N 1, C, rfl, ?_⟩
          unfold sp_copy
          rw [if_pos (by omega)]
          show _ = (if N 9 k1 = 3 ∨ N 9 o1 = 3 then (-10 - nI 1, ff N 1, C) else if N 9 k1 ≠ N 9 o1 then (-10 - nI 2, ff N 2, C) else if (0 ≤ I9 ∧ 0 ≤ J9 ∧ 0 ≤ M9 ∧ I9 ≤ ((N 10 k1 : Nat) : Int) ∧ J9 ≤ ((N 10 o1 : Nat) : Int)) ∧ M9 ≤ ((N 10 k1 : Nat) : Int) - I9 ∧ M9 ≤ ((N 10 o1 : Nat) : Int) - J9 then _ else (-10 - nI 3, ff N 3, C))
          rw [if_pos (by omega)]
        · rw [show (shf N ra) o1 = some (ra o1) from if_neg (by omega)]
          refine W.eq (g2 := F0 m 35 ls [.ref (ra o1)]) rfl ?_
          refine lv_astore (lv' := [(7, .ref (ra o1)), (6, .ref (ra k1)), (0, .ref h), (1, .int (nI k1)), (2, .int i), (3, .int (nI o1)), (4, .int j), (5, .int n)]) hx hb dX10_copy_35 hl (by decide) rfl (fun ls hl => ?_)
          refine lv_aload hx hb dX10_copy_37 (lv_at hl 1 rfl) ?_
          refine lv_ifnull hx hb dX10_copy_39 ?_
          refine lv_aload hx hb dX10_copy_42 (lv_at hl 0 rfl) ?_
          refine lv_ifnonnull (tgt := 53) hx hb dX10_copy_44 (by decide) ?_
          by_cases hko : k1 = o1
          · subst hko
            have hw : wdH D z (([(h, .inr (10, [.ref (A 0), .ref (A 1), .ref (b 0), .ref (nb 0), .ref (sb 0), .ref (A 2), .ref (v 0), .int (nI 0)])), ((A 0), .inl (ka 1, 4, .inr (.inr (.inr (.inr (shf N ra)))))), ((ra k1), .inr (3, [.int (nI (N 9 k1)), .ref (ca k1)])), ((ca k1), .inl (ka 0, N 10 k1, .inl (rof (C k1))))] : va_W) ++ (rowsX ka ra ca N C k1 ++ R)) H := rows_open (L := [(h, .inr (10, [.ref (A 0), .ref (A 1), .ref (b 0), .ref (nb 0), .ref (sb 0), .ref (A 2), .ref (v 0), .int (nI 0)])), ((A 0), .inl (ka 1, 4, .inr (.inr (.inr (.inr (shf N ra))))))]) (by omega) h3 hw
            have hl10k1 := hN.2.2.2.2.2.2.2.2.2.2 k1
            have hl9k1 := hN.2.2.2.2.2.2.2.2.2.1 k1
            have hl : lv_has ls 8 [(7, .ref (ra k1)), (6, .ref (ra k1)), (0, .ref h), (1, .int (nI k1)), (2, .int i), (3, .int (nI k1)), (4, .int j), (5, .int n)] := hl
            refine lv_aload hx hb dX10_copy_53 (lv_at hl 1 rfl) ?_
            refine va_get (D := D) (ci := 3) (v := .int (nI (N 9 k1))) (C := RX3) (T := TX3) (N := 2) hx hb hts inX3 hown hK hw.2.1 2 rfl rfl 0 (by decide) (hts _ wd_569) (fun _ h9 => h9) rfl dX10_copy_55 ?_
            refine lv_aload hx hb dX10_copy_58 (lv_at hl 0 rfl) ?_
            refine va_get (D := D) (ci := 3) (v := .int (nI (N 9 k1))) (C := RX3) (T := TX3) (N := 2) hx hb hts inX3 hown hK hw.2.1 2 rfl rfl 0 (by decide) (hts _ wd_569) (fun _ h9 => h9) rfl dX10_copy_60 ?_
            refine i_icmp_eq (tgt := 72) hx hb (nT (by omega)) (nT (by omega)) dX10_copy_63 (by decide) (fun c_11 => ?_) (fun c_11 => absurd rfl c_11)
            refine lv_aload hx hb dX10_copy_72 (lv_at hl 1 rfl) ?_
            refine lv_iload_n hx hb dX10_copy_74 rfl (lv_at hl 4 rfl) ?_
            refine lv_iload hx hb dX10_copy_75 (lv_at hl 7 rfl) ?_
            refine vp_callSi (ro_runV (c_X3_hasCells l D ka (ra k1) (ca k1) (N 9 k1) (N 10 k1) (rof (C k1)) (([] : va_W) ++ (rowsX ka ra ca N C k1 ++ R)) i n _ _ hi hn (by omega)) X wd_205 wd_202 wd_203 wd_204 wd_13 on_X3_hasCells ⟨Nat.le_of_ble_eq_true rfl, Nat.le_of_ble_eq_true rfl⟩ (va_recv hK hw.2.1 (ci := 3) (q0 := 2) rfl rfl) (va_P.right (w1 := [(h, .inr (10, [.ref (A 0), .ref (A 1), .ref (b 0), .ref (nb 0), .ref (sb 0), .ref (A 2), .ref (v 0), .int (nI 0)])), ((A 0), .inl (ka 1, 4, .inr (.inr (.inr (.inr (shf N ra))))))]) (w2 := ([((ra k1), .inr (3, [.int (nI (N 9 k1)), .ref (ca k1)])), ((ca k1), .inl (ka 0, N 10 k1, .inl (rof (C k1))))] : va_W) ++ (rowsX ka ra ca N C k1 ++ R)) hw.2.1) hl.1 rfl (Nat.le_of_ble_eq_true rfl) ⟨(Nat.zero_le _), (Nat.zero_le _)⟩ dX10_copy_77) (fun r_12 hr_12 => ?_)
            subst hr_12
            refine b_if_eq (tgt := 95) hx hb dX10_copy_80 (by decide) (fun c_13 => ?_) (fun c_13 => ?_)
            · refine lv_aload_n hx hb dX10_copy_95 rfl (lv_at hl 2 rfl) ?_
              refine lv_iconst (v := nI 3) hx hb dX10_copy_96 (by decide) ?_
              refine mu_i (mu_runV (c_X10_faulted l D ka z h A b nb sb v 0 3 (by decide) (([((A 0), .inl (ka 1, 4, .inr (.inr (.inr (.inr (shf N ra)))))), ((ra k1), .inr (3, [.int (nI (N 9 k1)), .ref (ca k1)])), ((ca k1), .inl (ka 0, N 10 k1, .inl (rof (C k1))))] : va_W) ++ (rowsX ka ra ca N C k1 ++ R))) X wd_201 wd_198 wd_200 ws_0 wd_1 on_X10_faulted ⟨Nat.le_of_ble_eq_true rfl, Nat.le_of_ble_eq_true rfl⟩ (va_recv hK hw.2.1 (ci := 10) (q0 := 0) rfl rfl) hw hl.1 rfl (Nat.le_of_ble_eq_true rfl) ⟨Nat.le_of_ble_eq_true rfl, Nat.le_of_ble_eq_true rfl⟩ dX10_copy_97) hS (fun r_15 u_14 H locs hp_u_14 hw hS => ?_)
              obtain ⟨rfl, rfl⟩ := hp_u_14
              have hw : wdH D z (([(h, .inr (10, [.ref (A 0), .ref (A 1), .ref (b 0), .ref (nb 0), .ref (sb 0), .ref (A 2), .ref (v 0), .int (nI 3)])), ((A 0), .inl (ka 1, 4, .inr (.inr (.inr (.inr (shf N ra)))))), ((ra k1), .inr (3, [.int (nI (N 9 k1)), .ref (ca k1)])), ((ca k1), .inl (ka 0, N 10 k1, .inl (rof (C k1))))] : va_W) ++ (rowsX ka ra ca N C k1 ++ R)) H := hw
              have hw : wdH D z (([(h, .inr (10, [.ref (A 0), .ref (A 1), .ref (b 0), .ref (nb 0), .ref (sb 0), .ref (A 2), .ref (v 0), .int (nI ((ff N 3) 0 4))])), ((A 0), .inl (ka 1, 4, .inr (.inr (.inr (.inr (shf (ff N 3) ra))))))] : va_W) ++ (rows ka ra ca (ff N 3) C ++ R)) H := rows_shut2 (ra' := ra) (ca' := ca) (N' := ff N 3) (C' := C) (k := k1) (L := [(h, .inr (10, [.ref (A 0), .ref (A 1), .ref (b 0), .ref (nb 0), .ref (sb 0), .ref (A 2), .ref (v 0), .int (nI 3)])), ((A 0), .inl (ka 1, 4, .inr (.inr (.inr (.inr (shf N ra))))))]) (by omega) rfl rfl rfl rfl rfl h3 (fun j hj => rfl) hw
              refine hret _ _ _ _ _ _ _ _ dX10_copy_100 hS hw (Nat.zero_le _) (Nat.zero_le _) ⟨ff N 3, C, rfl, ?_⟩
              unfold sp_copy
              rw [if_pos (by omega)]
              show _ = (if N 9 k1 = 3 ∨ N 9 k1 = 3 then (-10 - nI 1, ff N 1, C) else if N 9 k1 ≠ N 9 k1 then (-10 - nI 2, ff N 2, C) else if (0 ≤ I9 ∧ 0 ≤ J9 ∧ 0 ≤ M9 ∧ I9 ≤ ((N 10 k1 : Nat) : Int) ∧ J9 ≤ ((N 10 k1 : Nat) : Int)) ∧ M9 ≤ ((N 10 k1 : Nat) : Int) - I9 ∧ M9 ≤ ((N 10 k1 : Nat) : Int) - J9 then _ else (-10 - nI 3, ff N 3, C))
              rw [if_neg (by omega), if_neg (by omega), if_neg (by omega)]
            · refine lv_aload hx hb dX10_copy_83 (lv_at hl 0 rfl) ?_
              refine lv_iload hx hb dX10_copy_85 (lv_at hl 6 rfl) ?_
              refine lv_iload hx hb dX10_copy_87 (lv_at hl 7 rfl) ?_
              refine vp_callSi (ro_runV (c_X3_hasCells l D ka (ra k1) (ca k1) (N 9 k1) (N 10 k1) (rof (C k1)) (([] : va_W) ++ (rowsX ka ra ca N C k1 ++ R)) j n _ _ hj hn (by omega)) X wd_205 wd_202 wd_203 wd_204 wd_13 on_X3_hasCells ⟨Nat.le_of_ble_eq_true rfl, Nat.le_of_ble_eq_true rfl⟩ (va_recv hK hw.2.1 (ci := 3) (q0 := 2) rfl rfl) (va_P.right (w1 := [(h, .inr (10, [.ref (A 0), .ref (A 1), .ref (b 0), .ref (nb 0), .ref (sb 0), .ref (A 2), .ref (v 0), .int (nI 0)])), ((A 0), .inl (ka 1, 4, .inr (.inr (.inr (.inr (shf N ra))))))]) (w2 := ([((ra k1), .inr (3, [.int (nI (N 9 k1)), .ref (ca k1)])), ((ca k1), .inl (ka 0, N 10 k1, .inl (rof (C k1))))] : va_W) ++ (rowsX ka ra ca N C k1 ++ R)) hw.2.1) hl.1 rfl (Nat.le_of_ble_eq_true rfl) ⟨(Nat.zero_le _), (Nat.zero_le _)⟩ dX10_copy_89) (fun r_16 hr_16 => ?_)
              subst hr_16
              refine b_if_ne (tgt := 101) hx hb dX10_copy_92 (by decide) (fun c_17 => ?_) (fun c_17 => ?_)
              · obtain ⟨i1, hlt_i1, rfl, rfl⟩ := nat_ofK (n := 61) hi (by omega) (by omega)
                obtain ⟨j1, hlt_j1, rfl, rfl⟩ := nat_ofK (n := 61) hj (by omega) (by omega)
                obtain ⟨n1, hlt_n1, rfl, rfl⟩ := nat_ofK (n := 61) hn (by omega) (by omega)
                refine lv_aload hx hb dX10_copy_101 (lv_at hl 1 rfl) ?_
                refine va_get (D := D) (ci := 3) (v := .ref (ca k1)) (C := RX3) (T := TX3) (N := 2) hx hb hts inX3 hown hK hw.2.1 2 rfl rfl 1 (by decide) (hts _ wd_573) (fun _ h9 => h9) rfl dX10_copy_103 ?_
                refine lv_iload_n hx hb dX10_copy_106 rfl (lv_at hl 4 rfl) ?_
                refine lv_aload hx hb dX10_copy_107 (lv_at hl 0 rfl) ?_
                refine va_get (D := D) (ci := 3) (v := .ref (ca k1)) (C := RX3) (T := TX3) (N := 2) hx hb hts inX3 hown hK hw.2.1 2 rfl rfl 1 (by decide) (hts _ wd_573) (fun _ h9 => h9) rfl dX10_copy_109 ?_
                refine lv_iload hx hb dX10_copy_112 (lv_at hl 6 rfl) ?_
                refine lv_iload hx hb dX10_copy_114 (lv_at hl 7 rfl) ?_
                refine n_copyi X hl.1 wd_603 wd_605 wd_604 wd_14 hw.2.1 hw.2.2 hS 3 3 rfl rfl (by omega) (by omega) (i := i1) (j := j1) (n := n1) (by omega) (by omega) (Nat.le_of_ble_eq_true rfl) (Nat.le_of_ble_eq_true rfl) dX10_copy_116 (fun H locs hP hD hS => ?_)
                have hw : wdH D z (([(h, .inr (10, [.ref (A 0), .ref (A 1), .ref (b 0), .ref (nb 0), .ref (sb 0), .ref (A 2), .ref (v 0), .int (nI 0)])), ((A 0), .inl (ka 1, 4, .inr (.inr (.inr (.inr (shf N ra)))))), ((ra k1), .inr (3, [.int (nI (N 9 k1)), .ref (ca k1)])), ((ca k1), .inl (ka 0, N 10 k1, .inl (va_cpy (rof (C k1)) (rof (C k1)) i1 j1 n1)))] : va_W) ++ (rowsX ka ra ca N C k1 ++ R)) H := ⟨Nat.le_trans hz0 hS.1, hP, hD⟩
                refine lv_iload hx hb dX10_copy_119 (lv_at hl 7 rfl) ?_
                rw [cpC_rof (C := C) (k := k1) (o := k1) (by omega) (by omega)] at hw
                have hw : wdH D z (([(h, .inr (10, [.ref (A 0), .ref (A 1), .ref (b 0), .ref (nb 0), .ref (sb 0), .ref (A 2), .ref (v 0), .int (nI ((f0 N) 0 4))])), ((A 0), .inl (ka 1, 4, .inr (.inr (.inr (.inr (shf (f0 N) ra))))))] : va_W) ++ (rows ka ra ca (f0 N) (cpC C k1 i1 k1 j1 n1) ++ R)) H := rows_shut2 (ra' := ra) (ca' := ca) (N' := f0 N) (C' := (cpC C k1 i1 k1 j1 n1)) (k := k1) (L := [(h, .inr (10, [.ref (A 0), .ref (A 1), .ref (b 0), .ref (nb 0), .ref (sb 0), .ref (A 2), .ref (v 0), .int (nI 0)])), ((A 0), .inl (ka 1, 4, .inr (.inr (.inr (.inr (shf N ra))))))]) (by omega) rfl rfl rfl rfl rfl h3 (fun j hj => rowb_D rfl rfl rfl rfl (cpC_ne hj)) hw
                refine hret _ _ _ _ _ _ _ _ dX10_copy_121 hS hw (Nat.zero_le _) (Nat.zero_le _) ⟨f0 N, (cpC C k1 i1 k1 j1 n1), rfl, ?_⟩
                unfold sp_copy
                rw [if_pos (by omega)]
                show _ = (if N 9 k1 = 3 ∨ N 9 k1 = 3 then (-10 - nI 1, ff N 1, C) else if N 9 k1 ≠ N 9 k1 then (-10 - nI 2, ff N 2, C) else if (0 ≤ ((i1 : Nat) : Int) ∧ 0 ≤ ((j1 : Nat) : Int) ∧ 0 ≤ ((n1 : Nat) : Int) ∧ ((i1 : Nat) : Int) ≤ ((N 10 k1 : Nat) : Int) ∧ ((j1 : Nat) : Int) ≤ ((N 10 k1 : Nat) : Int)) ∧ ((n1 : Nat) : Int) ≤ ((N 10 k1 : Nat) : Int) - ((i1 : Nat) : Int) ∧ ((n1 : Nat) : Int) ≤ ((N 10 k1 : Nat) : Int) - ((j1 : Nat) : Int) then _ else (-10 - nI 3, ff N 3, C))
                rw [if_neg (by omega), if_neg (by omega), if_pos (by omega)]; rfl
              · refine lv_aload_n hx hb dX10_copy_95 rfl (lv_at hl 2 rfl) ?_
                refine lv_iconst (v := nI 3) hx hb dX10_copy_96 (by decide) ?_
                refine mu_i (mu_runV (c_X10_faulted l D ka z h A b nb sb v 0 3 (by decide) (([((A 0), .inl (ka 1, 4, .inr (.inr (.inr (.inr (shf N ra)))))), ((ra k1), .inr (3, [.int (nI (N 9 k1)), .ref (ca k1)])), ((ca k1), .inl (ka 0, N 10 k1, .inl (rof (C k1))))] : va_W) ++ (rowsX ka ra ca N C k1 ++ R))) X wd_201 wd_198 wd_200 ws_0 wd_1 on_X10_faulted ⟨Nat.le_of_ble_eq_true rfl, Nat.le_of_ble_eq_true rfl⟩ (va_recv hK hw.2.1 (ci := 10) (q0 := 0) rfl rfl) hw hl.1 rfl (Nat.le_of_ble_eq_true rfl) ⟨Nat.le_of_ble_eq_true rfl, Nat.le_of_ble_eq_true rfl⟩ dX10_copy_97) hS (fun r_19 u_18 H locs hp_u_18 hw hS => ?_)
                obtain ⟨rfl, rfl⟩ := hp_u_18
                have hw : wdH D z (([(h, .inr (10, [.ref (A 0), .ref (A 1), .ref (b 0), .ref (nb 0), .ref (sb 0), .ref (A 2), .ref (v 0), .int (nI 3)])), ((A 0), .inl (ka 1, 4, .inr (.inr (.inr (.inr (shf N ra)))))), ((ra k1), .inr (3, [.int (nI (N 9 k1)), .ref (ca k1)])), ((ca k1), .inl (ka 0, N 10 k1, .inl (rof (C k1))))] : va_W) ++ (rowsX ka ra ca N C k1 ++ R)) H := hw
                have hw : wdH D z (([(h, .inr (10, [.ref (A 0), .ref (A 1), .ref (b 0), .ref (nb 0), .ref (sb 0), .ref (A 2), .ref (v 0), .int (nI ((ff N 3) 0 4))])), ((A 0), .inl (ka 1, 4, .inr (.inr (.inr (.inr (shf (ff N 3) ra))))))] : va_W) ++ (rows ka ra ca (ff N 3) C ++ R)) H := rows_shut2 (ra' := ra) (ca' := ca) (N' := ff N 3) (C' := C) (k := k1) (L := [(h, .inr (10, [.ref (A 0), .ref (A 1), .ref (b 0), .ref (nb 0), .ref (sb 0), .ref (A 2), .ref (v 0), .int (nI 3)])), ((A 0), .inl (ka 1, 4, .inr (.inr (.inr (.inr (shf N ra))))))]) (by omega) rfl rfl rfl rfl rfl h3 (fun j hj => rfl) hw
                refine hret _ _ _ _ _ _ _ _ dX10_copy_100 hS hw (Nat.zero_le _) (Nat.zero_le _) ⟨ff N 3, C, rfl, ?_⟩
                unfold sp_copy
                rw [if_pos (by omega)]
                show _ = (if N 9 k1 = 3 ∨ N 9 k1 = 3 then (-10 - nI 1, ff N 1, C) else if N 9 k1 ≠ N 9 k1 then (-10 - nI 2, ff N 2, C) else if (0 ≤ I9 ∧ 0 ≤ J9 ∧ 0 ≤ M9 ∧ I9 ≤ ((N 10 k1 : Nat) : Int) ∧ J9 ≤ ((N 10 k1 : Nat) : Int)) ∧ M9 ≤ ((N 10 k1 : Nat) : Int) - I9 ∧ M9 ≤ ((N 10 k1 : Nat) : Int) - J9 then _ else (-10 - nI 3, ff N 3, C))
                rw [if_neg (by omega), if_neg (by omega), if_neg (by omega)]
          · have hw : wdH D z (([(h, .inr (10, [.ref (A 0), .ref (A 1), .ref (b 0), .ref (nb 0), .ref (sb 0), .ref (A 2), .ref (v 0), .int (nI 0)])), ((A 0), .inl (ka 1, 4, .inr (.inr (.inr (.inr (shf N ra)))))), ((ra k1), .inr (3, [.int (nI (N 9 k1)), .ref (ca k1)])), ((ca k1), .inl (ka 0, N 10 k1, .inl (rof (C k1))))] : va_W) ++ (rowsX ka ra ca N C k1 ++ R)) H := rows_open (L := [(h, .inr (10, [.ref (A 0), .ref (A 1), .ref (b 0), .ref (nb 0), .ref (sb 0), .ref (A 2), .ref (v 0), .int (nI 0)])), ((A 0), .inl (ka 1, 4, .inr (.inr (.inr (.inr (shf N ra))))))]) (by omega) h3 hw
            have hw : wdH D z (([(h, .inr (10, [.ref (A 0), .ref (A 1), .ref (b 0), .ref (nb 0), .ref (sb 0), .ref (A 2), .ref (v 0), .int (nI 0)])), ((A 0), .inl (ka 1, 4, .inr (.inr (.inr (.inr (shf N ra)))))), ((ra k1), .inr (3, [.int (nI (N 9 k1)), .ref (ca k1)])), ((ca k1), .inl (ka 0, N 10 k1, .inl (rof (C k1)))), ((ra o1), .inr (3, [.int (nI (N 9 o1)), .ref (ca o1)])), ((ca o1), .inl (ka 0, N 10 o1, .inl (rof (C o1))))] : va_W) ++ (rowsY ka ra ca N C k1 o1 ++ R)) H := rowsX_open (L := [(h, .inr (10, [.ref (A 0), .ref (A 1), .ref (b 0), .ref (nb 0), .ref (sb 0), .ref (A 2), .ref (v 0), .int (nI 0)])), ((A 0), .inl (ka 1, 4, .inr (.inr (.inr (.inr (shf N ra)))))), ((ra k1), .inr (3, [.int (nI (N 9 k1)), .ref (ca k1)])), ((ca k1), .inl (ka 0, N 10 k1, .inl (rof (C k1))))]) (by omega) hko h3o hw
            have hl10k1 := hN.2.2.2.2.2.2.2.2.2.2 k1
            have hl9k1 := hN.2.2.2.2.2.2.2.2.2.1 k1
            have hl10o1 := hN.2.2.2.2.2.2.2.2.2.2 o1
            have hl9o1 := hN.2.2.2.2.2.2.2.2.2.1 o1
            have hl : lv_has ls 8 [(7, .ref (ra o1)), (6, .ref (ra k1)), (0, .ref h), (1, .int (nI k1)), (2, .int i), (3, .int (nI o1)), (4, .int j), (5, .int n)] := hl
            refine lv_aload hx hb dX10_copy_53 (lv_at hl 1 rfl) ?_
            refine va_get (D := D) (ci := 3) (v := .int (nI (N 9 k1))) (C := RX3) (T := TX3) (N := 2) hx hb hts inX3 hown hK hw.2.1 2 rfl rfl 0 (by decide) (hts _ wd_569) (fun _ h9 => h9) rfl dX10_copy_55 ?_
            refine lv_aload hx hb dX10_copy_58 (lv_at hl 0 rfl) ?_
            refine va_get (D := D) (ci := 3) (v := .int (nI (N 9 o1))) (C := RX3) (T := TX3) (N := 2) hx hb hts inX3 hown hK hw.2.1 4 rfl rfl 0 (by decide) (hts _ wd_569) (fun _ h9 => h9) rfl dX10_copy_60 ?_
            refine i_icmp_eq (tgt := 72) hx hb (nT (by omega)) (nT (by omega)) dX10_copy_63 (by decide) (fun c_20 => ?_) (fun c_20 => ?_)
            · refine lv_aload hx hb dX10_copy_72 (lv_at hl 1 rfl) ?_
              refine lv_iload_n hx hb dX10_copy_74 rfl (lv_at hl 4 rfl) ?_
              refine lv_iload hx hb dX10_copy_75 (lv_at hl 7 rfl) ?_
              refine vp_callSi (ro_runV (c_X3_hasCells l D ka (ra k1) (ca k1) (N 9 k1) (N 10 k1) (rof (C k1)) (([((ra o1), .inr (3, [.int (nI (N 9 o1)), .ref (ca o1)])), ((ca o1), .inl (ka 0, N 10 o1, .inl (rof (C o1))))] : va_W) ++ (rowsY ka ra ca N C k1 o1 ++ R)) i n _ _ hi hn (by omega)) X wd_205 wd_202 wd_203 wd_204 wd_13 on_X3_hasCells ⟨Nat.le_of_ble_eq_true rfl, Nat.le_of_ble_eq_true rfl⟩ (va_recv hK hw.2.1 (ci := 3) (q0 := 2) rfl rfl) (va_P.right (w1 := [(h, .inr (10, [.ref (A 0), .ref (A 1), .ref (b 0), .ref (nb 0), .ref (sb 0), .ref (A 2), .ref (v 0), .int (nI 0)])), ((A 0), .inl (ka 1, 4, .inr (.inr (.inr (.inr (shf N ra))))))]) (w2 := ([((ra k1), .inr (3, [.int (nI (N 9 k1)), .ref (ca k1)])), ((ca k1), .inl (ka 0, N 10 k1, .inl (rof (C k1)))), ((ra o1), .inr (3, [.int (nI (N 9 o1)), .ref (ca o1)])), ((ca o1), .inl (ka 0, N 10 o1, .inl (rof (C o1))))] : va_W) ++ (rowsY ka ra ca N C k1 o1 ++ R)) hw.2.1) hl.1 rfl (Nat.le_of_ble_eq_true rfl) ⟨(Nat.zero_le _), (Nat.zero_le _)⟩ dX10_copy_77) (fun r_21 hr_21 => ?_)
              subst hr_21
              refine b_if_eq (tgt := 95) hx hb dX10_copy_80 (by decide) (fun c_22 => ?_) (fun c_22 => ?_)
              · refine lv_aload_n hx hb dX10_copy_95 rfl (lv_at hl 2 rfl) ?_
                refine lv_iconst (v := nI 3) hx hb dX10_copy_96 (by decide) ?_
                refine mu_i (mu_runV (c_X10_faulted l D ka z h A b nb sb v 0 3 (by decide) (([((A 0), .inl (ka 1, 4, .inr (.inr (.inr (.inr (shf N ra)))))), ((ra k1), .inr (3, [.int (nI (N 9 k1)), .ref (ca k1)])), ((ca k1), .inl (ka 0, N 10 k1, .inl (rof (C k1)))), ((ra o1), .inr (3, [.int (nI (N 9 o1)), .ref (ca o1)])), ((ca o1), .inl (ka 0, N 10 o1, .inl (rof (C o1))))] : va_W) ++ (rowsY ka ra ca N C k1 o1 ++ R))) X wd_201 wd_198 wd_200 ws_0 wd_1 on_X10_faulted ⟨Nat.le_of_ble_eq_true rfl, Nat.le_of_ble_eq_true rfl⟩ (va_recv hK hw.2.1 (ci := 10) (q0 := 0) rfl rfl) hw hl.1 rfl (Nat.le_of_ble_eq_true rfl) ⟨Nat.le_of_ble_eq_true rfl, Nat.le_of_ble_eq_true rfl⟩ dX10_copy_97) hS (fun r_24 u_23 H locs hp_u_23 hw hS => ?_)
                obtain ⟨rfl, rfl⟩ := hp_u_23
                have hw : wdH D z (([(h, .inr (10, [.ref (A 0), .ref (A 1), .ref (b 0), .ref (nb 0), .ref (sb 0), .ref (A 2), .ref (v 0), .int (nI 3)])), ((A 0), .inl (ka 1, 4, .inr (.inr (.inr (.inr (shf N ra)))))), ((ra k1), .inr (3, [.int (nI (N 9 k1)), .ref (ca k1)])), ((ca k1), .inl (ka 0, N 10 k1, .inl (rof (C k1)))), ((ra o1), .inr (3, [.int (nI (N 9 o1)), .ref (ca o1)])), ((ca o1), .inl (ka 0, N 10 o1, .inl (rof (C o1))))] : va_W) ++ (rowsY ka ra ca N C k1 o1 ++ R)) H := hw
                have hw := rowsX_shut2 (N' := ff N 3) (C' := C) (k := k1) (o := o1) (L := [(h, .inr (10, [.ref (A 0), .ref (A 1), .ref (b 0), .ref (nb 0), .ref (sb 0), .ref (A 2), .ref (v 0), .int (nI 3)])), ((A 0), .inl (ka 1, 4, .inr (.inr (.inr (.inr (shf N ra)))))), ((ra k1), .inr (3, [.int (nI (N 9 k1)), .ref (ca k1)])), ((ca k1), .inl (ka 0, N 10 k1, .inl (rof (C k1))))]) (by omega) (by omega) hko rfl rfl rfl h3o (fun j hj => rfl) hw
                have hw : wdH D z (([(h, .inr (10, [.ref (A 0), .ref (A 1), .ref (b 0), .ref (nb 0), .ref (sb 0), .ref (A 2), .ref (v 0), .int (nI ((ff N 3) 0 4))])), ((A 0), .inl (ka 1, 4, .inr (.inr (.inr (.inr (shf (ff N 3) ra))))))] : va_W) ++ (rows ka ra ca (ff N 3) C ++ R)) H := rows_shut2 (ra := ra) (ca := ca) (ra' := ra) (ca' := ca) (N := ff N 3) (N' := ff N 3) (C := C) (C' := C) (k := k1) (L := [(h, .inr (10, [.ref (A 0), .ref (A 1), .ref (b 0), .ref (nb 0), .ref (sb 0), .ref (A 2), .ref (v 0), .int (nI 3)])), ((A 0), .inl (ka 1, 4, .inr (.inr (.inr (.inr (shf N ra))))))]) (by omega) rfl rfl rfl rfl rfl h3 (fun j hj => rfl) hw
                refine hret _ _ _ _ _ _ _ _ dX10_copy_100 hS hw (Nat.zero_le _) (Nat.zero_le _) ⟨ff N 3, C, rfl, ?_⟩
                unfold sp_copy
                rw [if_pos (by omega)]
                show _ = (if N 9 k1 = 3 ∨ N 9 o1 = 3 then (-10 - nI 1, ff N 1, C) else if N 9 k1 ≠ N 9 o1 then (-10 - nI 2, ff N 2, C) else if (0 ≤ I9 ∧ 0 ≤ J9 ∧ 0 ≤ M9 ∧ I9 ≤ ((N 10 k1 : Nat) : Int) ∧ J9 ≤ ((N 10 o1 : Nat) : Int)) ∧ M9 ≤ ((N 10 k1 : Nat) : Int) - I9 ∧ M9 ≤ ((N 10 o1 : Nat) : Int) - J9 then _ else (-10 - nI 3, ff N 3, C))
                rw [if_neg (by omega), if_neg (by omega), if_neg (by omega)]
              · refine lv_aload hx hb dX10_copy_83 (lv_at hl 0 rfl) ?_
                refine lv_iload hx hb dX10_copy_85 (lv_at hl 6 rfl) ?_
                refine lv_iload hx hb dX10_copy_87 (lv_at hl 7 rfl) ?_
                refine vp_callSi (ro_runV (c_X3_hasCells l D ka (ra o1) (ca o1) (N 9 o1) (N 10 o1) (rof (C o1)) (([] : va_W) ++ (rowsY ka ra ca N C k1 o1 ++ R)) j n _ _ hj hn (by omega)) X wd_205 wd_202 wd_203 wd_204 wd_13 on_X3_hasCells ⟨Nat.le_of_ble_eq_true rfl, Nat.le_of_ble_eq_true rfl⟩ (va_recv hK hw.2.1 (ci := 3) (q0 := 4) rfl rfl) (va_P.right (w1 := [(h, .inr (10, [.ref (A 0), .ref (A 1), .ref (b 0), .ref (nb 0), .ref (sb 0), .ref (A 2), .ref (v 0), .int (nI 0)])), ((A 0), .inl (ka 1, 4, .inr (.inr (.inr (.inr (shf N ra)))))), ((ra k1), .inr (3, [.int (nI (N 9 k1)), .ref (ca k1)])), ((ca k1), .inl (ka 0, N 10 k1, .inl (rof (C k1))))]) (w2 := ([((ra o1), .inr (3, [.int (nI (N 9 o1)), .ref (ca o1)])), ((ca o1), .inl (ka 0, N 10 o1, .inl (rof (C o1))))] : va_W) ++ (rowsY ka ra ca N C k1 o1 ++ R)) hw.2.1) hl.1 rfl (Nat.le_of_ble_eq_true rfl) ⟨(Nat.zero_le _), (Nat.zero_le _)⟩ dX10_copy_89) (fun r_25 hr_25 => ?_)
                subst hr_25
                refine b_if_ne (tgt := 101) hx hb dX10_copy_92 (by decide) (fun c_26 => ?_) (fun c_26 => ?_)
                · obtain ⟨i1, hlt_i1, rfl, rfl⟩ := nat_ofK (n := 61) hi (by omega) (by omega)
                  obtain ⟨j1, hlt_j1, rfl, rfl⟩ := nat_ofK (n := 61) hj (by omega) (by omega)
                  obtain ⟨n1, hlt_n1, rfl, rfl⟩ := nat_ofK (n := 61) hn (by omega) (by omega)
                  refine lv_aload hx hb dX10_copy_101 (lv_at hl 1 rfl) ?_
                  refine va_get (D := D) (ci := 3) (v := .ref (ca k1)) (C := RX3) (T := TX3) (N := 2) hx hb hts inX3 hown hK hw.2.1 2 rfl rfl 1 (by decide) (hts _ wd_573) (fun _ h9 => h9) rfl dX10_copy_103 ?_
                  refine lv_iload_n hx hb dX10_copy_106 rfl (lv_at hl 4 rfl) ?_
                  refine lv_aload hx hb dX10_copy_107 (lv_at hl 0 rfl) ?_
                  refine va_get (D := D) (ci := 3) (v := .ref (ca o1)) (C := RX3) (T := TX3) (N := 2) hx hb hts inX3 hown hK hw.2.1 4 rfl rfl 1 (by decide) (hts _ wd_573) (fun _ h9 => h9) rfl dX10_copy_109 ?_
                  refine lv_iload hx hb dX10_copy_112 (lv_at hl 6 rfl) ?_
                  refine lv_iload hx hb dX10_copy_114 (lv_at hl 7 rfl) ?_
                  refine n_copyi X hl.1 wd_603 wd_605 wd_604 wd_14 hw.2.1 hw.2.2 hS 3 5 rfl rfl (by omega) (by omega) (i := i1) (j := j1) (n := n1) (by omega) (by omega) (Nat.le_of_ble_eq_true rfl) (Nat.le_of_ble_eq_true rfl) dX10_copy_116 (fun H locs hP hD hS => ?_)
                  have hw : wdH D z (([(h, .inr (10, [.ref (A 0), .ref (A 1), .ref (b 0), .ref (nb 0), .ref (sb 0), .ref (A 2), .ref (v 0), .int (nI 0)])), ((A 0), .inl (ka 1, 4, .inr (.inr (.inr (.inr (shf N ra)))))), ((ra k1), .inr (3, [.int (nI (N 9 k1)), .ref (ca k1)])), ((ca k1), .inl (ka 0, N 10 k1, .inl (rof (C k1)))), ((ra o1), .inr (3, [.int (nI (N 9 o1)), .ref (ca o1)])), ((ca o1), .inl (ka 0, N 10 o1, .inl (va_cpy (rof (C k1)) (rof (C o1)) i1 j1 n1)))] : va_W) ++ (rowsY ka ra ca N C k1 o1 ++ R)) H := ⟨Nat.le_trans hz0 hS.1, hP, hD⟩
                  refine lv_iload hx hb dX10_copy_119 (lv_at hl 7 rfl) ?_
                  rw [cpC_rof (C := C) (k := k1) (o := o1) (by omega) (by omega)] at hw
                  have hw := rowsX_shut2 (N' := f0 N) (C' := (cpC C k1 i1 o1 j1 n1)) (k := k1) (o := o1) (L := [(h, .inr (10, [.ref (A 0), .ref (A 1), .ref (b 0), .ref (nb 0), .ref (sb 0), .ref (A 2), .ref (v 0), .int (nI 0)])), ((A 0), .inl (ka 1, 4, .inr (.inr (.inr (.inr (shf N ra)))))), ((ra k1), .inr (3, [.int (nI (N 9 k1)), .ref (ca k1)])), ((ca k1), .inl (ka 0, N 10 k1, .inl (rof (C k1))))]) (by omega) (by omega) hko rfl rfl rfl h3o (fun j hj => rowb_D rfl rfl rfl rfl (cpC_ne hj)) hw
                  have hw : wdH D z (([(h, .inr (10, [.ref (A 0), .ref (A 1), .ref (b 0), .ref (nb 0), .ref (sb 0), .ref (A 2), .ref (v 0), .int (nI ((f0 N) 0 4))])), ((A 0), .inl (ka 1, 4, .inr (.inr (.inr (.inr (shf (f0 N) ra))))))] : va_W) ++ (rows ka ra ca (f0 N) (cpC C k1 i1 o1 j1 n1) ++ R)) H := rows_shut2 (ra := ra) (ca := ca) (ra' := ra) (ca' := ca) (N := f0 N) (N' := f0 N) (C := (cpC C k1 i1 o1 j1 n1)) (C' := (cpC C k1 i1 o1 j1 n1)) (k := k1) (L := [(h, .inr (10, [.ref (A 0), .ref (A 1), .ref (b 0), .ref (nb 0), .ref (sb 0), .ref (A 2), .ref (v 0), .int (nI 0)])), ((A 0), .inl (ka 1, 4, .inr (.inr (.inr (.inr (shf N ra))))))]) (by omega) rfl rfl rfl rfl (cpC_ne hko) h3 (fun j hj => rfl) hw
                  refine hret _ _ _ _ _ _ _ _ dX10_copy_121 hS hw (Nat.zero_le _) (Nat.zero_le _) ⟨f0 N, (cpC C k1 i1 o1 j1 n1), rfl, ?_⟩
                  unfold sp_copy
                  rw [if_pos (by omega)]
                  show _ = (if N 9 k1 = 3 ∨ N 9 o1 = 3 then (-10 - nI 1, ff N 1, C) else if N 9 k1 ≠ N 9 o1 then (-10 - nI 2, ff N 2, C) else if (0 ≤ ((i1 : Nat) : Int) ∧ 0 ≤ ((j1 : Nat) : Int) ∧ 0 ≤ ((n1 : Nat) : Int) ∧ ((i1 : Nat) : Int) ≤ ((N 10 k1 : Nat) : Int) ∧ ((j1 : Nat) : Int) ≤ ((N 10 o1 : Nat) : Int)) ∧ ((n1 : Nat) : Int) ≤ ((N 10 k1 : Nat) : Int) - ((i1 : Nat) : Int) ∧ ((n1 : Nat) : Int) ≤ ((N 10 o1 : Nat) : Int) - ((j1 : Nat) : Int) then _ else (-10 - nI 3, ff N 3, C))
                  rw [if_neg (by omega), if_neg (by omega), if_pos (by omega)]; rfl
                · refine lv_aload_n hx hb dX10_copy_95 rfl (lv_at hl 2 rfl) ?_
                  refine lv_iconst (v := nI 3) hx hb dX10_copy_96 (by decide) ?_
                  refine mu_i (mu_runV (c_X10_faulted l D ka z h A b nb sb v 0 3 (by decide) (([((A 0), .inl (ka 1, 4, .inr (.inr (.inr (.inr (shf N ra)))))), ((ra k1), .inr (3, [.int (nI (N 9 k1)), .ref (ca k1)])), ((ca k1), .inl (ka 0, N 10 k1, .inl (rof (C k1)))), ((ra o1), .inr (3, [.int (nI (N 9 o1)), .ref (ca o1)])), ((ca o1), .inl (ka 0, N 10 o1, .inl (rof (C o1))))] : va_W) ++ (rowsY ka ra ca N C k1 o1 ++ R))) X wd_201 wd_198 wd_200 ws_0 wd_1 on_X10_faulted ⟨Nat.le_of_ble_eq_true rfl, Nat.le_of_ble_eq_true rfl⟩ (va_recv hK hw.2.1 (ci := 10) (q0 := 0) rfl rfl) hw hl.1 rfl (Nat.le_of_ble_eq_true rfl) ⟨Nat.le_of_ble_eq_true rfl, Nat.le_of_ble_eq_true rfl⟩ dX10_copy_97) hS (fun r_28 u_27 H locs hp_u_27 hw hS => ?_)
                  obtain ⟨rfl, rfl⟩ := hp_u_27
                  have hw : wdH D z (([(h, .inr (10, [.ref (A 0), .ref (A 1), .ref (b 0), .ref (nb 0), .ref (sb 0), .ref (A 2), .ref (v 0), .int (nI 3)])), ((A 0), .inl (ka 1, 4, .inr (.inr (.inr (.inr (shf N ra)))))), ((ra k1), .inr (3, [.int (nI (N 9 k1)), .ref (ca k1)])), ((ca k1), .inl (ka 0, N 10 k1, .inl (rof (C k1)))), ((ra o1), .inr (3, [.int (nI (N 9 o1)), .ref (ca o1)])), ((ca o1), .inl (ka 0, N 10 o1, .inl (rof (C o1))))] : va_W) ++ (rowsY ka ra ca N C k1 o1 ++ R)) H := hw
                  have hw := rowsX_shut2 (N' := ff N 3) (C' := C) (k := k1) (o := o1) (L := [(h, .inr (10, [.ref (A 0), .ref (A 1), .ref (b 0), .ref (nb 0), .ref (sb 0), .ref (A 2), .ref (v 0), .int (nI 3)])), ((A 0), .inl (ka 1, 4, .inr (.inr (.inr (.inr (shf N ra)))))), ((ra k1), .inr (3, [.int (nI (N 9 k1)), .ref (ca k1)])), ((ca k1), .inl (ka 0, N 10 k1, .inl (rof (C k1))))]) (by omega) (by omega) hko rfl rfl rfl h3o (fun j hj => rfl) hw
                  have hw : wdH D z (([(h, .inr (10, [.ref (A 0), .ref (A 1), .ref (b 0), .ref (nb 0), .ref (sb 0), .ref (A 2), .ref (v 0), .int (nI ((ff N 3) 0 4))])), ((A 0), .inl (ka 1, 4, .inr (.inr (.inr (.inr (shf (ff N 3) ra))))))] : va_W) ++ (rows ka ra ca (ff N 3) C ++ R)) H := rows_shut2 (ra := ra) (ca := ca) (ra' := ra) (ca' := ca) (N := ff N 3) (N' := ff N 3) (C := C) (C' := C) (k := k1) (L := [(h, .inr (10, [.ref (A 0), .ref (A 1), .ref (b 0), .ref (nb 0), .ref (sb 0), .ref (A 2), .ref (v 0), .int (nI 3)])), ((A 0), .inl (ka 1, 4, .inr (.inr (.inr (.inr (shf N ra))))))]) (by omega) rfl rfl rfl rfl rfl h3 (fun j hj => rfl) hw
                  refine hret _ _ _ _ _ _ _ _ dX10_copy_100 hS hw (Nat.zero_le _) (Nat.zero_le _) ⟨ff N 3, C, rfl, ?_⟩
                  unfold sp_copy
                  rw [if_pos (by omega)]
                  show _ = (if N 9 k1 = 3 ∨ N 9 o1 = 3 then (-10 - nI 1, ff N 1, C) else if N 9 k1 ≠ N 9 o1 then (-10 - nI 2, ff N 2, C) else if (0 ≤ I9 ∧ 0 ≤ J9 ∧ 0 ≤ M9 ∧ I9 ≤ ((N 10 k1 : Nat) : Int) ∧ J9 ≤ ((N 10 o1 : Nat) : Int)) ∧ M9 ≤ ((N 10 k1 : Nat) : Int) - I9 ∧ M9 ≤ ((N 10 o1 : Nat) : Int) - J9 then _ else (-10 - nI 3, ff N 3, C))
                  rw [if_neg (by omega), if_neg (by omega), if_neg (by omega)]
            · refine lv_aload_n hx hb dX10_copy_66 rfl (lv_at hl 2 rfl) ?_
              refine lv_iconst (v := nI 2) hx hb dX10_copy_67 (by decide) ?_
              refine mu_i (mu_runV (c_X10_faulted l D ka z h A b nb sb v 0 2 (by decide) (([((A 0), .inl (ka 1, 4, .inr (.inr (.inr (.inr (shf N ra)))))), ((ra k1), .inr (3, [.int (nI (N 9 k1)), .ref (ca k1)])), ((ca k1), .inl (ka 0, N 10 k1, .inl (rof (C k1)))), ((ra o1), .inr (3, [.int (nI (N 9 o1)), .ref (ca o1)])), ((ca o1), .inl (ka 0, N 10 o1, .inl (rof (C o1))))] : va_W) ++ (rowsY ka ra ca N C k1 o1 ++ R))) X wd_201 wd_198 wd_200 ws_0 wd_1 on_X10_faulted ⟨Nat.le_of_ble_eq_true rfl, Nat.le_of_ble_eq_true rfl⟩ (va_recv hK hw.2.1 (ci := 10) (q0 := 0) rfl rfl) hw hl.1 rfl (Nat.le_of_ble_eq_true rfl) ⟨Nat.le_of_ble_eq_true rfl, Nat.le_of_ble_eq_true rfl⟩ dX10_copy_68) hS (fun r_30 u_29 H locs hp_u_29 hw hS => ?_)
              obtain ⟨rfl, rfl⟩ := hp_u_29
              have hw : wdH D z (([(h, .inr (10, [.ref (A 0), .ref (A 1), .ref (b 0), .ref (nb 0), .ref (sb 0), .ref (A 2), .ref (v 0), .int (nI 2)])), ((A 0), .inl (ka 1, 4, .inr (.inr (.inr (.inr (shf N ra)))))), ((ra k1), .inr (3, [.int (nI (N 9 k1)), .ref (ca k1)])), ((ca k1), .inl (ka 0, N 10 k1, .inl (rof (C k1)))), ((ra o1), .inr (3, [.int (nI (N 9 o1)), .ref (ca o1)])), ((ca o1), .inl (ka 0, N 10 o1, .inl (rof (C o1))))] : va_W) ++ (rowsY ka ra ca N C k1 o1 ++ R)) H := hw
              have hw := rowsX_shut2 (N' := ff N 2) (C' := C) (k := k1) (o := o1) (L := [(h, .inr (10, [.ref (A 0), .ref (A 1), .ref (b 0), .ref (nb 0), .ref (sb 0), .ref (A 2), .ref (v 0), .int (nI 2)])), ((A 0), .inl (ka 1, 4, .inr (.inr (.inr (.inr (shf N ra)))))), ((ra k1), .inr (3, [.int (nI (N 9 k1)), .ref (ca k1)])), ((ca k1), .inl (ka 0, N 10 k1, .inl (rof (C k1))))]) (by omega) (by omega) hko rfl rfl rfl h3o (fun j hj => rfl) hw
              have hw : wdH D z (([(h, .inr (10, [.ref (A 0), .ref (A 1), .ref (b 0), .ref (nb 0), .ref (sb 0), .ref (A 2), .ref (v 0), .int (nI ((ff N 2) 0 4))])), ((A 0), .inl (ka 1, 4, .inr (.inr (.inr (.inr (shf (ff N 2) ra))))))] : va_W) ++ (rows ka ra ca (ff N 2) C ++ R)) H := rows_shut2 (ra := ra) (ca := ca) (ra' := ra) (ca' := ca) (N := ff N 2) (N' := ff N 2) (C := C) (C' := C) (k := k1) (L := [(h, .inr (10, [.ref (A 0), .ref (A 1), .ref (b 0), .ref (nb 0), .ref (sb 0), .ref (A 2), .ref (v 0), .int (nI 2)])), ((A 0), .inl (ka 1, 4, .inr (.inr (.inr (.inr (shf N ra))))))]) (by omega) rfl rfl rfl rfl rfl h3 (fun j hj => rfl) hw
              refine hret _ _ _ _ _ _ _ _ dX10_copy_71 hS hw (Nat.zero_le _) (Nat.zero_le _) ⟨ff N 2, C, rfl, ?_⟩
              unfold sp_copy
              rw [if_pos (by omega)]
              show _ = (if N 9 k1 = 3 ∨ N 9 o1 = 3 then (-10 - nI 1, ff N 1, C) else if N 9 k1 ≠ N 9 o1 then (-10 - nI 2, ff N 2, C) else if (0 ≤ I9 ∧ 0 ≤ J9 ∧ 0 ≤ M9 ∧ I9 ≤ ((N 10 k1 : Nat) : Int) ∧ J9 ≤ ((N 10 o1 : Nat) : Int)) ∧ M9 ≤ ((N 10 k1 : Nat) : Int) - I9 ∧ M9 ≤ ((N 10 o1 : Nat) : Int) - J9 then _ else (-10 - nI 3, ff N 3, C))
              rw [if_neg (by omega), if_pos (by omega)]
    · refine lv_iconst (v := (-1)) hx hb dX10_copy_19 (by decide) ?_
      refine hret _ _ _ _ _ _ _ _ dX10_copy_20 hS hw (Nat.zero_le _) (Nat.zero_le _) ⟨f0 N, C, rfl, ?_⟩
      unfold sp_copy
      rw [if_neg (by omega)]
