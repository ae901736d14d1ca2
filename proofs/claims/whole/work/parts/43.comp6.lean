set_option maxRecDepth 100000 in
set_option maxHeartbeats 4000000 in
theorem c_X6_init6 (l : Launch) (D : va_G) (ka : Nat → ClassId) (z : Nat) (q nu nv mi : Nat) (R : va_W) : MU l D ka z yX6_init cX6_init 4 none 1 0 0 [.ref q, .int (nI nu), .int (nI nv), .int (nI mi)] (([(q, .inr (6, [.int 0, .int 0, .int 0]))] : va_W) ++ R) (Qv D z (fun w => w = ([(q, .inr (6, [.int (nI nu), .int (nI nv), .int (nI mi)]))] : va_W) ++ R)) := by
  refine MU.ofV (by decide) (Nat.le_of_ble_eq_true rfl) ?_
  intro p e s m args below meth c Q X hin hw hS hret ls hl
  obtain ⟨hx, hb, hml, hown, hts, hE⟩ := id X
  have hK := hE.1
  have hz0 := hw.1
  have hl : lv_has ls 4 [(0, .ref q), (1, .int (nI nu)), (2, .int (nI nv)), (3, .int (nI mi))] := hl
  refine lv_aload_n hx hb dX6_init_0 rfl (lv_at hl 0 rfl) ?_
  refine W.objInit hx hb hown (hts _ wd_268) (hts _ wd_21) (hts _ wd_22) rfl (by rw [hml]; exact hl.1) rfl dX6_init_1 (Nat.le_of_ble_eq_true rfl) (Nat.le_of_ble_eq_true rfl) ?_
  refine W.eq (g2 := F0 m 4 ls []) rfl ?_
  refine lv_aload_n hx hb dX6_init_4 rfl (lv_at hl 0 rfl) ?_
  refine lv_iload_n hx hb dX6_init_5 rfl (lv_at hl 1 rfl) ?_
  refine va_putF (D := D) (ci := 6) (v := .int (nI nu)) (ty := .int) (C := RX6) (T := TX6) (N := 3) hx hb hts inX6 tyX6 tyX6_ok nmX6 hown hK hw.2.1 hw.2.2 hS 0 rfl rfl 0 (by decide) (hts _ wd_269) (fun _ h9 => h9) rfl (hin rfl) rfl (by decide +kernel) rfl rfl (Nat.le_of_ble_eq_true rfl) dX6_init_6 (fun H locs hP hD hS => ?_)
  have hw : wdH D z (([(q, .inr (6, [.int (nI nu), .int 0, .int 0]))] : va_W) ++ R) H := ⟨Nat.le_trans hz0 hS.1, hP, hD⟩
  refine lv_aload_n hx hb dX6_init_9 rfl (lv_at hl 0 rfl) ?_
  refine lv_iload_n hx hb dX6_init_10 rfl (lv_at hl 2 rfl) ?_
  refine va_put (D := D) (ci := 6) (v := .int (nI nv)) (ty := .int) (C := RX6) (T := TX6) (N := 3) hx hb hts inX6 tyX6 tyX6_ok nmX6 hown hK hw.2.1 hw.2.2 hS 0 rfl rfl 1 (by decide) (hts _ wd_271) (fun _ h9 => h9) rfl (by decide +kernel) rfl rfl (Nat.le_of_ble_eq_true rfl) dX6_init_11 (fun H locs hP hD hS => ?_)
  have hw : wdH D z (([(q, .inr (6, [.int (nI nu), .int (nI nv), .int 0]))] : va_W) ++ R) H := ⟨Nat.le_trans hz0 hS.1, hP, hD⟩
  refine lv_aload_n hx hb dX6_init_14 rfl (lv_at hl 0 rfl) ?_
  refine lv_iload_n hx hb dX6_init_15 rfl (lv_at hl 3 rfl) ?_
  refine va_put (D := D) (ci := 6) (v := .int (nI mi)) (ty := .int) (C := RX6) (T := TX6) (N := 3) hx hb hts inX6 tyX6 tyX6_ok nmX6 hown hK hw.2.1 hw.2.2 hS 0 rfl rfl 2 (by decide) (hts _ wd_274) (fun _ h9 => h9) rfl (by decide +kernel) rfl rfl (Nat.le_of_ble_eq_true rfl) dX6_init_16 (fun H locs hP hD hS => ?_)
  have hw : wdH D z (([(q, .inr (6, [.int (nI nu), .int (nI nv), .int (nI mi)]))] : va_W) ++ R) H := ⟨Nat.le_trans hz0 hS.1, hP, hD⟩
  exact hret _ _ _ _ _ _ _ dX6_init_19 hS hw (Nat.zero_le _) (Nat.zero_le _) rfl
set_option maxRecDepth 100000 in
set_option maxHeartbeats 4000000 in
theorem c_X6_init5 (l : Launch) (D : va_G) (ka : Nat → ClassId) (z : Nat) (q nu nv mi : Nat) (R : va_W) : MU l D ka z yX6_init cX6_init 4 none 1 0 0 [.ref q, .int (nI nu), .int (nI nv), .int (nI mi)] (([(q, .inr (5, [.int 0, .int 0, .int 0]))] : va_W) ++ R) (Qv D z (fun w => w = ([(q, .inr (5, [.int (nI nu), .int (nI nv), .int (nI mi)]))] : va_W) ++ R)) := by
  refine MU.ofV (by decide) (Nat.le_of_ble_eq_true rfl) ?_
  intro p e s m args below meth c Q X hin hw hS hret ls hl
  obtain ⟨hx, hb, hml, hown, hts, hE⟩ := id X
  have hK := hE.1
  have hz0 := hw.1
  have hl : lv_has ls 4 [(0, .ref q), (1, .int (nI nu)), (2, .int (nI nv)), (3, .int (nI mi))] := hl
  refine lv_aload_n hx hb dX6_init_0 rfl (lv_at hl 0 rfl) ?_
  refine W.objInit hx hb hown (hts _ wd_268) (hts _ wd_21) (hts _ wd_22) rfl (by rw [hml]; exact hl.1) rfl dX6_init_1 (Nat.le_of_ble_eq_true rfl) (Nat.le_of_ble_eq_true rfl) ?_
  refine W.eq (g2 := F0 m 4 ls []) rfl ?_
  refine lv_aload_n hx hb dX6_init_4 rfl (lv_at hl 0 rfl) ?_
  refine lv_iload_n hx hb dX6_init_5 rfl (lv_at hl 1 rfl) ?_
  refine va_putF (D := D) (ci := 5) (v := .int (nI nu)) (ty := .int) (C := RX5) (T := TX5) (N := 3) hx hb hts inX5 tyX5 tyX5_ok nmX5 hown hK hw.2.1 hw.2.2 hS 0 rfl rfl 0 (by decide) (hts _ wd_269) (fun _ h9 => h9) rfl (hin rfl) rfl (by decide +kernel) rfl rfl (Nat.le_of_ble_eq_true rfl) dX6_init_6 (fun H locs hP hD hS => ?_)
  have hw : wdH D z (([(q, .inr (5, [.int (nI nu), .int 0, .int 0]))] : va_W) ++ R) H := ⟨Nat.le_trans hz0 hS.1, hP, hD⟩
  refine lv_aload_n hx hb dX6_init_9 rfl (lv_at hl 0 rfl) ?_
  refine lv_iload_n hx hb dX6_init_10 rfl (lv_at hl 2 rfl) ?_
  refine va_put (D := D) (ci := 5) (v := .int (nI nv)) (ty := .int) (C := RX5) (T := TX5) (N := 3) hx hb hts inX5 tyX5 tyX5_ok nmX5 hown hK hw.2.1 hw.2.2 hS 0 rfl rfl 1 (by decide) (hts _ wd_271) (fun _ h9 => h9) rfl (by decide +kernel) rfl rfl (Nat.le_of_ble_eq_true rfl) dX6_init_11 (fun H locs hP hD hS => ?_)
  have hw : wdH D z (([(q, .inr (5, [.int (nI nu), .int (nI nv), .int 0]))] : va_W) ++ R) H := ⟨Nat.le_trans hz0 hS.1, hP, hD⟩
  refine lv_aload_n hx hb dX6_init_14 rfl (lv_at hl 0 rfl) ?_
  refine lv_iload_n hx hb dX6_init_15 rfl (lv_at hl 3 rfl) ?_
  refine va_put (D := D) (ci := 5) (v := .int (nI mi)) (ty := .int) (C := RX5) (T := TX5) (N := 3) hx hb hts inX5 tyX5 tyX5_ok nmX5 hown hK hw.2.1 hw.2.2 hS 0 rfl rfl 2 (by decide) (hts _ wd_274) (fun _ h9 => h9) rfl (by decide +kernel) rfl rfl (Nat.le_of_ble_eq_true rfl) dX6_init_16 (fun H locs hP hD hS => ?_)
  have hw : wdH D z (([(q, .inr (5, [.int (nI nu), .int (nI nv), .int (nI mi)]))] : va_W) ++ R) H := ⟨Nat.le_trans hz0 hS.1, hP, hD⟩
  exact hret _ _ _ _ _ _ _ dX6_init_19 hS hw (Nat.zero_le _) (Nat.zero_le _) rfl
set_option maxRecDepth 100000 in
set_option maxHeartbeats 4000000 in
theorem c_X6_init9 (l : Launch) (D : va_G) (ka : Nat → ClassId) (z : Nat) (q nu nv mi : Nat) (R : va_W) : MU l D ka z yX6_init cX6_init 4 none 1 0 0 [.ref q, .int (nI nu), .int (nI nv), .int (nI mi)] (([(q, .inr (9, [.int 0, .int 0, .int 0]))] : va_W) ++ R) (Qv D z (fun w => w = ([(q, .inr (9, [.int (nI nu), .int (nI nv), .int (nI mi)]))] : va_W) ++ R)) := by
  refine MU.ofV (by decide) (Nat.le_of_ble_eq_true rfl) ?_
  intro p e s m args below meth c Q X hin hw hS hret ls hl
  obtain ⟨hx, hb, hml, hown, hts, hE⟩ := id X
  have hK := hE.1
  have hz0 := hw.1
  have hl : lv_has ls 4 [(0, .ref q), (1, .int (nI nu)), (2, .int (nI nv)), (3, .int (nI mi))] := hl
  refine lv_aload_n hx hb dX6_init_0 rfl (lv_at hl 0 rfl) ?_
  refine W.objInit hx hb hown (hts _ wd_268) (hts _ wd_21) (hts _ wd_22) rfl (by rw [hml]; exact hl.1) rfl dX6_init_1 (Nat.le_of_ble_eq_true rfl) (Nat.le_of_ble_eq_true rfl) ?_
  refine W.eq (g2 := F0 m 4 ls []) rfl ?_
  refine lv_aload_n hx hb dX6_init_4 rfl (lv_at hl 0 rfl) ?_
  refine lv_iload_n hx hb dX6_init_5 rfl (lv_at hl 1 rfl) ?_
  refine va_putF (D := D) (ci := 9) (v := .int (nI nu)) (ty := .int) (C := RX9) (T := TX9) (N := 3) hx hb hts inX9 tyX9 tyX9_ok nmX9 hown hK hw.2.1 hw.2.2 hS 0 rfl rfl 0 (by decide) (hts _ wd_269) (fun _ h9 => h9) rfl (hin rfl) rfl (by decide +kernel) rfl rfl (Nat.le_of_ble_eq_true rfl) dX6_init_6 (fun H locs hP hD hS => ?_)
  have hw : wdH D z (([(q, .inr (9, [.int (nI nu), .int 0, .int 0]))] : va_W) ++ R) H := ⟨Nat.le_trans hz0 hS.1, hP, hD⟩
  refine lv_aload_n hx hb dX6_init_9 rfl (lv_at hl 0 rfl) ?_
  refine lv_iload_n hx hb dX6_init_10 rfl (lv_at hl 2 rfl) ?_
  refine va_put (D := D) (ci := 9) (v := .int (nI nv)) (ty := .int) (C := RX9) (T := TX9) (N := 3) hx hb hts inX9 tyX9 tyX9_ok nmX9 hown hK hw.2.1 hw.2.2 hS 0 rfl rfl 1 (by decide) (hts _ wd_271) (fun _ h9 => h9) rfl (by decide +kernel) rfl rfl (Nat.le_of_ble_eq_true rfl) dX6_init_11 (fun H locs hP hD hS => ?_)
  have hw : wdH D z (([(q, .inr (9, [.int (nI nu), .int (nI nv), .int 0]))] : va_W) ++ R) H := ⟨Nat.le_trans hz0 hS.1, hP, hD⟩
  refine lv_aload_n hx hb dX6_init_14 rfl (lv_at hl 0 rfl) ?_
  refine lv_iload_n hx hb dX6_init_15 rfl (lv_at hl 3 rfl) ?_
  refine va_put (D := D) (ci := 9) (v := .int (nI mi)) (ty := .int) (C := RX9) (T := TX9) (N := 3) hx hb hts inX9 tyX9 tyX9_ok nmX9 hown hK hw.2.1 hw.2.2 hS 0 rfl rfl 2 (by decide) (hts _ wd_274) (fun _ h9 => h9) rfl (by decide +kernel) rfl rfl (Nat.le_of_ble_eq_true rfl) dX6_init_16 (fun H locs hP hD hS => ?_)
  have hw : wdH D z (([(q, .inr (9, [.int (nI nu), .int (nI nv), .int (nI mi)]))] : va_W) ++ R) H := ⟨Nat.le_trans hz0 hS.1, hP, hD⟩
  exact hret _ _ _ _ _ _ _ dX6_init_19 hS hw (Nat.zero_le _) (Nat.zero_le _) rfl
set_option maxRecDepth 100000 in
set_option maxHeartbeats 4000000 in
theorem c_X5_init5 (l : Launch) (D : va_G) (ka : Nat → ClassId) (z : Nat) (q nu nv mi : Nat) (R : va_W) : MU l D ka z yX5_init cX5_init 4 none 2 0 0 [.ref q, .int (nI nu), .int (nI nv), .int (nI mi)] (([(q, .inr (5, [.int 0, .int 0, .int 0]))] : va_W) ++ R) (Qv D z (fun w => w = ([(q, .inr (5, [.int (nI nu), .int (nI nv), .int (nI mi)]))] : va_W) ++ R)) := by
  refine MU.ofV (by decide) (Nat.le_of_ble_eq_true rfl) ?_
  intro p e s m args below meth c Q X hin hw hS hret ls hl
  obtain ⟨hx, hb, hml, hown, hts, hE⟩ := id X
  have hK := hE.1
  have hz0 := hw.1
  have hl : lv_has ls 4 [(0, .ref q), (1, .int (nI nu)), (2, .int (nI nv)), (3, .int (nI mi))] := hl
  refine lv_aload_n hx hb dX5_init_0 rfl (lv_at hl 0 rfl) ?_
  refine lv_iload_n hx hb dX5_init_1 rfl (lv_at hl 1 rfl) ?_
  refine lv_iload_n hx hb dX5_init_2 rfl (lv_at hl 2 rfl) ?_
  refine lv_iload_n hx hb dX5_init_3 rfl (lv_at hl 3 rfl) ?_
  refine mu_v (mu_runI (c_X6_init5 l D ka z q nu nv mi R) X wd_267 wd_265 wd_266 wd_9 rfl on_X6_init ⟨Nat.le_of_ble_eq_true rfl, Nat.le_of_ble_eq_true rfl⟩ hw hl.1 rfl (Nat.le_of_ble_eq_true rfl) ⟨Nat.le_of_ble_eq_true rfl, Nat.le_of_ble_eq_true rfl⟩ dX5_init_4) hS (fun u_1 H locs hp_u_1 hw hS => ?_)
  subst hp_u_1
  have hw : wdH D z (([(q, .inr (5, [.int (nI nu), .int (nI nv), .int (nI mi)]))] : va_W) ++ R) H := hw
  exact hret _ _ _ _ _ _ _ dX5_init_7 hS hw (Nat.zero_le _) (Nat.zero_le _) rfl
set_option maxRecDepth 100000 in
set_option maxHeartbeats 4000000 in
theorem c_X5_init9 (l : Launch) (D : va_G) (ka : Nat → ClassId) (z : Nat) (q nu nv mi : Nat) (R : va_W) : MU l D ka z yX5_init cX5_init 4 none 2 0 0 [.ref q, .int (nI nu), .int (nI nv), .int (nI mi)] (([(q, .inr (9, [.int 0, .int 0, .int 0]))] : va_W) ++ R) (Qv D z (fun w => w = ([(q, .inr (9, [.int (nI nu), .int (nI nv), .int (nI mi)]))] : va_W) ++ R)) := by
  refine MU.ofV (by decide) (Nat.le_of_ble_eq_true rfl) ?_
  intro p e s m args below meth c Q X hin hw hS hret ls hl
  obtain ⟨hx, hb, hml, hown, hts, hE⟩ := id X
  have hK := hE.1
  have hz0 := hw.1
  have hl : lv_has ls 4 [(0, .ref q), (1, .int (nI nu)), (2, .int (nI nv)), (3, .int (nI mi))] := hl
  refine lv_aload_n hx hb dX5_init_0 rfl (lv_at hl 0 rfl) ?_
  refine lv_iload_n hx hb dX5_init_1 rfl (lv_at hl 1 rfl) ?_
  refine lv_iload_n hx hb dX5_init_2 rfl (lv_at hl 2 rfl) ?_
  refine lv_iload_n hx hb dX5_init_3 rfl (lv_at hl 3 rfl) ?_
  refine mu_v (mu_runI (c_X6_init9 l D ka z q nu nv mi R) X wd_267 wd_265 wd_266 wd_9 rfl on_X6_init ⟨Nat.le_of_ble_eq_true rfl, Nat.le_of_ble_eq_true rfl⟩ hw hl.1 rfl (Nat.le_of_ble_eq_true rfl) ⟨Nat.le_of_ble_eq_true rfl, Nat.le_of_ble_eq_true rfl⟩ dX5_init_4) hS (fun u_1 H locs hp_u_1 hw hS => ?_)
  subst hp_u_1
  have hw : wdH D z (([(q, .inr (9, [.int (nI nu), .int (nI nv), .int (nI mi)]))] : va_W) ++ R) H := hw
  exact hret _ _ _ _ _ _ _ dX5_init_7 hS hw (Nat.zero_le _) (Nat.zero_le _) rfl
set_option maxRecDepth 100000 in
set_option maxHeartbeats 4000000 in
theorem c_X9_init9 (l : Launch) (D : va_G) (ka : Nat → ClassId) (z : Nat) (q nu nv mi : Nat) (R : va_W) : MU l D ka z yX9_init cX9_init 4 none 3 0 0 [.ref q, .int (nI nu), .int (nI nv), .int (nI mi)] (([(q, .inr (9, [.int 0, .int 0, .int 0]))] : va_W) ++ R) (Qv D z (fun w => w = ([(q, .inr (9, [.int (nI nu), .int (nI nv), .int (nI mi)]))] : va_W) ++ R)) := by
  refine MU.ofV (by decide) (Nat.le_of_ble_eq_true rfl) ?_
  intro p e s m args below meth c Q X hin hw hS hret ls hl
  obtain ⟨hx, hb, hml, hown, hts, hE⟩ := id X
  have hK := hE.1
  have hz0 := hw.1
  have hl : lv_has ls 4 [(0, .ref q), (1, .int (nI nu)), (2, .int (nI nv)), (3, .int (nI mi))] := hl
  refine lv_aload_n hx hb dX9_init_0 rfl (lv_at hl 0 rfl) ?_
  refine lv_iload_n hx hb dX9_init_1 rfl (lv_at hl 1 rfl) ?_
  refine lv_iload_n hx hb dX9_init_2 rfl (lv_at hl 2 rfl) ?_
  refine lv_iload_n hx hb dX9_init_3 rfl (lv_at hl 3 rfl) ?_
  refine mu_v (mu_runI (c_X5_init9 l D ka z q nu nv mi R) X wd_264 wd_292 wd_263 wd_10 rfl on_X5_init ⟨Nat.le_of_ble_eq_true rfl, Nat.le_of_ble_eq_true rfl⟩ hw hl.1 rfl (Nat.le_of_ble_eq_true rfl) ⟨Nat.le_of_ble_eq_true rfl, Nat.le_of_ble_eq_true rfl⟩ dX9_init_4) hS (fun u_1 H locs hp_u_1 hw hS => ?_)
  subst hp_u_1
  have hw : wdH D z (([(q, .inr (9, [.int (nI nu), .int (nI nv), .int (nI mi)]))] : va_W) ++ R) H := hw
  exact hret _ _ _ _ _ _ _ dX9_init_7 hS hw (Nat.zero_le _) (Nat.zero_le _) rfl
set_option maxRecDepth 100000 in
set_option maxHeartbeats 4000000 in
theorem c_X10_newTaker (l : Launch) (D : va_G) (ka : Nat → ClassId) (z : Nat) (kd nu nv mi : Nat) (R : va_W) (hkd : kd ≤ 2) : MU l D ka z yX10_newTaker cX10_newTaker 4 (some (.object "FourVault$Taker")) 4 1 3 [.int (nI kd), .int (nI nu), .int (nI nv), .int (nI mi)] (([] : va_W) ++ R) (Qr D z (fun w r => w = ([(r, .inr (kcl kd, [.int (nI nu), .int (nI nv), .int (nI mi)]))] : va_W) ++ R)) := by
  refine MU.ofR (Or.inl ⟨_, rfl⟩) (by decide) (Nat.le_of_ble_eq_true rfl) ?_
  intro p e s m args below meth c Q X hw hS hret ls hl
  obtain ⟨hx, hb, hml, hown, hts, hE⟩ := id X
  have hK := hE.1
  have hz0 := hw.1
  have hl : lv_has ls 4 [(0, .int (nI kd)), (1, .int (nI nu)), (2, .int (nI nv)), (3, .int (nI mi))] := hl
  refine lv_iload_n hx hb dX10_newTaker_0 rfl (lv_at hl 0 rfl) ?_
  have hT_1 : (nI kd).toInt = ((kd : Nat) : Int) := (nT (by omega))
  by_cases cs_2 : ((kd : Nat) : Int) = 1
  · refine lv_lookup (off := 27) (tgt := 28) hx hb dX10_newTaker_1 (by decide) (by rw [hT_1, cs_2]; rfl) (by decide) ?_
    refine n_new (L := []) (Rw := R) X (C := RX5) (T := TX5) (N := 3) (ci := 5) inX5 tyX5 tyX5_ok wd_260 wd_261 wd_10 hw hS hz0 rfl (fs := [.int 0, .int 0, .int 0]) (fun j hj => by rcases (show j = 0 ∨ j = 1 ∨ j = 2 by omega) with rfl | rfl | rfl <;> rfl) (Nat.le_of_ble_eq_true rfl) (Nat.le_of_ble_eq_true rfl) dX10_newTaker_28 (fun q_3 H hw hS => ?_)
    have hw : wdH D z (([(q_3, .inr (5, [.int 0, .int 0, .int 0]))] : va_W) ++ R) H := hw
    refine lv_dup hx hb dX10_newTaker_31 rfl ?_
    refine lv_iload_n hx hb dX10_newTaker_32 rfl (lv_at hl 1 rfl) ?_
    refine lv_iload_n hx hb dX10_newTaker_33 rfl (lv_at hl 2 rfl) ?_
    refine lv_iload_n hx hb dX10_newTaker_34 rfl (lv_at hl 3 rfl) ?_
    refine mu_v (mu_runI (c_X5_init5 l D ka z q_3 nu nv mi R) X wd_264 wd_262 wd_263 wd_10 rfl on_X5_init ⟨Nat.le_of_ble_eq_true rfl, Nat.le_of_ble_eq_true rfl⟩ hw hl.1 rfl (Nat.le_of_ble_eq_true rfl) ⟨Nat.le_of_ble_eq_true rfl, Nat.le_of_ble_eq_true rfl⟩ dX10_newTaker_35) hS (fun u_4 H locs hp_u_4 hw hS => ?_)
    subst hp_u_4
    have hw : wdH D z (([(q_3, .inr (5, [.int (nI nu), .int (nI nv), .int (nI mi)]))] : va_W) ++ R) H := hw
    exact hret _ _ _ _ _ _ _ _ dX10_newTaker_38 hS hw (Nat.le_of_ble_eq_true rfl) (Nat.le_of_ble_eq_true rfl) (by rw [show kd = 1 by omega]; rfl)
  by_cases cs_5 : ((kd : Nat) : Int) = 2
  · refine lv_lookup (off := 38) (tgt := 39) hx hb dX10_newTaker_1 (by decide) (by rw [hT_1, cs_5]; rfl) (by decide) ?_
    refine n_new (L := []) (Rw := R) X (C := RX9) (T := TX9) (N := 3) (ci := 9) inX9 tyX9 tyX9_ok wd_287 wd_288 wd_11 hw hS hz0 rfl (fs := [.int 0, .int 0, .int 0]) (fun j hj => by rcases (show j = 0 ∨ j = 1 ∨ j = 2 by omega) with rfl | rfl | rfl <;> rfl) (Nat.le_of_ble_eq_true rfl) (Nat.le_of_ble_eq_true rfl) dX10_newTaker_39 (fun q_6 H hw hS => ?_)
    have hw : wdH D z (([(q_6, .inr (9, [.int 0, .int 0, .int 0]))] : va_W) ++ R) H := hw
    refine lv_dup hx hb dX10_newTaker_42 rfl ?_
    refine lv_iload_n hx hb dX10_newTaker_43 rfl (lv_at hl 1 rfl) ?_
    refine lv_iload_n hx hb dX10_newTaker_44 rfl (lv_at hl 2 rfl) ?_
    refine lv_iload_n hx hb dX10_newTaker_45 rfl (lv_at hl 3 rfl) ?_
    refine mu_v (mu_runI (c_X9_init9 l D ka z q_6 nu nv mi R) X wd_291 wd_289 wd_290 wd_11 rfl on_X9_init ⟨Nat.le_of_ble_eq_true rfl, Nat.le_of_ble_eq_true rfl⟩ hw hl.1 rfl (Nat.le_of_ble_eq_true rfl) ⟨Nat.le_of_ble_eq_true rfl, Nat.le_of_ble_eq_true rfl⟩ dX10_newTaker_46) hS (fun u_7 H locs hp_u_7 hw hS => ?_)
    subst hp_u_7
    have hw : wdH D z (([(q_6, .inr (9, [.int (nI nu), .int (nI nv), .int (nI mi)]))] : va_W) ++ R) H := hw
    exact hret _ _ _ _ _ _ _ _ dX10_newTaker_49 hS hw (Nat.le_of_ble_eq_true rfl) (Nat.le_of_ble_eq_true rfl) (by rw [show kd = 2 by omega]; rfl)
  have cs_8 : ((kd : Nat) : Int) = 0 := by omega
  refine lv_lookup (off := 49) (tgt := 50) hx hb dX10_newTaker_1 (by decide) (by rw [hT_1, cs_8]; rfl) (by decide) ?_
  refine n_new (L := []) (Rw := R) X (C := RX6) (T := TX6) (N := 3) (ci := 6) inX6 tyX6 tyX6_ok wd_297 wd_298 wd_9 hw hS hz0 rfl (fs := [.int 0, .int 0, .int 0]) (fun j hj => by rcases (show j = 0 ∨ j = 1 ∨ j = 2 by omega) with rfl | rfl | rfl <;> rfl) (Nat.le_of_ble_eq_true rfl) (Nat.le_of_ble_eq_true rfl) dX10_newTaker_50 (fun q_9 H hw hS => ?_)
  have hw : wdH D z (([(q_9, .inr (6, [.int 0, .int 0, .int 0]))] : va_W) ++ R) H := hw
  refine lv_dup hx hb dX10_newTaker_53 rfl ?_
  refine lv_iload_n hx hb dX10_newTaker_54 rfl (lv_at hl 1 rfl) ?_
  refine lv_iload_n hx hb dX10_newTaker_55 rfl (lv_at hl 2 rfl) ?_
  refine lv_iload_n hx hb dX10_newTaker_56 rfl (lv_at hl 3 rfl) ?_
  refine mu_v (mu_runI (c_X6_init6 l D ka z q_9 nu nv mi R) X wd_267 wd_299 wd_266 wd_9 rfl on_X6_init ⟨Nat.le_of_ble_eq_true rfl, Nat.le_of_ble_eq_true rfl⟩ hw hl.1 rfl (Nat.le_of_ble_eq_true rfl) ⟨Nat.le_of_ble_eq_true rfl, Nat.le_of_ble_eq_true rfl⟩ dX10_newTaker_57) hS (fun u_10 H locs hp_u_10 hw hS => ?_)
  subst hp_u_10
  have hw : wdH D z (([(q_9, .inr (6, [.int (nI nu), .int (nI nv), .int (nI mi)]))] : va_W) ++ R) H := hw
  exact hret _ _ _ _ _ _ _ _ dX10_newTaker_60 hS hw (Nat.le_of_ble_eq_true rfl) (Nat.le_of_ble_eq_true rfl) (by rw [show kd = 0 by omega]; rfl)
set_option maxRecDepth 100000 in
set_option maxHeartbeats 4000000 in
theorem c_X8_init (l : Launch) (D : va_G) (ka : Nat → ClassId) (z : Nat) (q : Nat) (R : va_W) : MU l D ka z yX8_init cX8_init 1 none 1 3 16 [.ref q] (([(q, .inr (8, [.null, .null, .null, .int 0, .int 0, .int 0]))] : va_W) ++ R) (Qv D z (fun w => ∃ v, v 0 = q ∧ w = vlw ka v 0 0 0 (fun _ => 0) (fun _ => 0) (fun _ => none) ++ R)) := by
  refine MU.ofV (by decide) (Nat.le_of_ble_eq_true rfl) ?_
  intro p e s m args below meth c Q X hin hw hS hret ls hl
  obtain ⟨hx, hb, hml, hown, hts, hE⟩ := id X
  have hK := hE.1
  have hz0 := hw.1
  have hl : lv_has ls 1 [(0, .ref q)] := hl
  refine lv_aload_n hx hb dX8_init_0 rfl (lv_at hl 0 rfl) ?_
  refine W.objInit hx hb hown (hts _ wd_36) (hts _ wd_21) (hts _ wd_22) rfl (by rw [hml]; exact hl.1) rfl dX8_init_1 (Nat.le_of_ble_eq_true rfl) (Nat.le_of_ble_eq_true rfl) ?_
  refine W.eq (g2 := F0 m 4 ls []) rfl ?_
  refine lv_aload_n hx hb dX8_init_4 rfl (lv_at hl 0 rfl) ?_
  refine lv_bipush (v := nI 6) hx hb dX8_init_5 (by decide) ?_
  refine n_newa (L := [(q, .inr (8, [.null, .null, .null, .int 0, .int 0, .int 0]))]) (Rw := R) X wd_73 hw hS hz0 (n := 6) (by omega) (Nat.le_of_ble_eq_true rfl) (Nat.le_of_ble_eq_true rfl) dX8_init_7 (fun q_1 H hw hS => ?_)
  have hw : wdH D z (([(q, .inr (8, [.null, .null, .null, .int 0, .int 0, .int 0])), (q_1, .inl (ka 0, 6, .inl (fun _ => 0)))] : va_W) ++ R) H := hw
  refine va_putF (D := D) (ci := 8) (v := .ref q_1) (ty := (.array .int)) (C := RX8) (T := TX8) (N := 6) hx hb hts inX8 tyX8 tyX8_ok nmX8 hown hK hw.2.1 hw.2.2 hS 0 rfl rfl 0 (by decide) (hts _ wd_39) (fun _ h9 => h9) rfl (hin rfl) rfl (by decide +kernel) rfl rfl (Nat.le_of_ble_eq_true rfl) dX8_init_9 (fun H locs hP hD hS => ?_)
  have hw : wdH D z (([(q, .inr (8, [.ref q_1, .null, .null, .int 0, .int 0, .int 0])), (q_1, .inl (ka 0, 6, .inl (fun _ => 0)))] : va_W) ++ R) H := ⟨Nat.le_trans hz0 hS.1, hP, hD⟩
  refine lv_aload_n hx hb dX8_init_12 rfl (lv_at hl 0 rfl) ?_
  refine lv_iconst (v := nI 5) hx hb dX8_init_13 (by decide) ?_
  refine n_newq (L := [(q, .inr (8, [.ref q_1, .null, .null, .int 0, .int 0, .int 0])), (q_1, .inl (ka 0, 6, .inl (fun _ => 0)))]) (Rw := R) X (i := 2) rfl wd_37 hE.2.2.2.2.2.1 hw hS hz0 (n := 5) (by omega) (Nat.le_of_ble_eq_true rfl) (Nat.le_of_ble_eq_true rfl) dX8_init_14 (fun q_2 H hw hS => ?_)
  have hw : wdH D z (([(q, .inr (8, [.ref q_1, .null, .null, .int 0, .int 0, .int 0])), (q_1, .inl (ka 0, 6, .inl (fun _ => 0))), (q_2, .inl (ka 2, 5, .inr (.inr (.inr (.inr (fun _ => none))))))] : va_W) ++ R) H := hw
  refine va_putF (D := D) (ci := 8) (v := .ref q_2) (ty := (.array (.object "FourVault$Taker"))) (C := RX8) (T := TX8) (N := 6) hx hb hts inX8 tyX8 tyX8_ok nmX8 hown hK hw.2.1 hw.2.2 hS 0 rfl rfl 1 (by decide) (hts _ wd_42) (fun _ h9 => h9) rfl (hin rfl) rfl (by decide +kernel) rfl rfl (Nat.le_of_ble_eq_true rfl) dX8_init_17 (fun H locs hP hD hS => ?_)
  have hw : wdH D z (([(q, .inr (8, [.ref q_1, .ref q_2, .null, .int 0, .int 0, .int 0])), (q_1, .inl (ka 0, 6, .inl (fun _ => 0))), (q_2, .inl (ka 2, 5, .inr (.inr (.inr (.inr (fun _ => none))))))] : va_W) ++ R) H := ⟨Nat.le_trans hz0 hS.1, hP, hD⟩
  refine lv_aload_n hx hb dX8_init_20 rfl (lv_at hl 0 rfl) ?_
  refine lv_iconst (v := nI 5) hx hb dX8_init_21 (by decide) ?_
  refine n_newa (L := [(q, .inr (8, [.ref q_1, .ref q_2, .null, .int 0, .int 0, .int 0])), (q_1, .inl (ka 0, 6, .inl (fun _ => 0))), (q_2, .inl (ka 2, 5, .inr (.inr (.inr (.inr (fun _ => none))))))]) (Rw := R) X wd_73 hw hS hz0 (n := 5) (by omega) (Nat.le_of_ble_eq_true rfl) (Nat.le_of_ble_eq_true rfl) dX8_init_22 (fun q_3 H hw hS => ?_)
  have hw : wdH D z (([(q, .inr (8, [.ref q_1, .ref q_2, .null, .int 0, .int 0, .int 0])), (q_1, .inl (ka 0, 6, .inl (fun _ => 0))), (q_2, .inl (ka 2, 5, .inr (.inr (.inr (.inr (fun _ => none)))))), (q_3, .inl (ka 0, 5, .inl (fun _ => 0)))] : va_W) ++ R) H := hw
  refine va_putF (D := D) (ci := 8) (v := .ref q_3) (ty := (.array .int)) (C := RX8) (T := TX8) (N := 6) hx hb hts inX8 tyX8 tyX8_ok nmX8 hown hK hw.2.1 hw.2.2 hS 0 rfl rfl 2 (by decide) (hts _ wd_45) (fun _ h9 => h9) rfl (hin rfl) rfl (by decide +kernel) rfl rfl (Nat.le_of_ble_eq_true rfl) dX8_init_24 (fun H locs hP hD hS => ?_)
  have hw : wdH D z (([(q, .inr (8, [.ref q_1, .ref q_2, .ref q_3, .int 0, .int 0, .int 0])), (q_1, .inl (ka 0, 6, .inl (fun _ => 0))), (q_2, .inl (ka 2, 5, .inr (.inr (.inr (.inr (fun _ => none)))))), (q_3, .inl (ka 0, 5, .inl (fun _ => 0)))] : va_W) ++ R) H := ⟨Nat.le_trans hz0 hS.1, hP, hD⟩
  refine lv_aload_n hx hb dX8_init_27 rfl (lv_at hl 0 rfl) ?_
  refine lv_iconst (v := nI 0) hx hb dX8_init_28 (by decide) ?_
  refine va_put (D := D) (ci := 8) (v := .int (nI 0)) (ty := .int) (C := RX8) (T := TX8) (N := 6) hx hb hts inX8 tyX8 tyX8_ok nmX8 hown hK hw.2.1 hw.2.2 hS 0 rfl rfl 3 (by decide) (hts _ wd_49) (fun _ h9 => h9) rfl (by decide +kernel) rfl rfl (Nat.le_of_ble_eq_true rfl) dX8_init_29 (fun H locs hP hD hS => ?_)
  have hw : wdH D z (([(q, .inr (8, [.ref q_1, .ref q_2, .ref q_3, .int (nI 0), .int 0, .int 0])), (q_1, .inl (ka 0, 6, .inl (fun _ => 0))), (q_2, .inl (ka 2, 5, .inr (.inr (.inr (.inr (fun _ => none)))))), (q_3, .inl (ka 0, 5, .inl (fun _ => 0)))] : va_W) ++ R) H := ⟨Nat.le_trans hz0 hS.1, hP, hD⟩
  refine lv_aload_n hx hb dX8_init_32 rfl (lv_at hl 0 rfl) ?_
  refine lv_iconst (v := nI 0) hx hb dX8_init_33 (by decide) ?_
  refine va_put (D := D) (ci := 8) (v := .int (nI 0)) (ty := .int) (C := RX8) (T := TX8) (N := 6) hx hb hts inX8 tyX8 tyX8_ok nmX8 hown hK hw.2.1 hw.2.2 hS 0 rfl rfl 4 (by decide) (hts _ wd_52) (fun _ h9 => h9) rfl (by decide +kernel) rfl rfl (Nat.le_of_ble_eq_true rfl) dX8_init_34 (fun H locs hP hD hS => ?_)
  have hw : wdH D z (([(q, .inr (8, [.ref q_1, .ref q_2, .ref q_3, .int (nI 0), .int (nI 0), .int 0])), (q_1, .inl (ka 0, 6, .inl (fun _ => 0))), (q_2, .inl (ka 2, 5, .inr (.inr (.inr (.inr (fun _ => none)))))), (q_3, .inl (ka 0, 5, .inl (fun _ => 0)))] : va_W) ++ R) H := ⟨Nat.le_trans hz0 hS.1, hP, hD⟩
  refine lv_aload_n hx hb dX8_init_37 rfl (lv_at hl 0 rfl) ?_
  refine lv_iconst (v := nI 0) hx hb dX8_init_38 (by decide) ?_
  refine va_put (D := D) (ci := 8) (v := .int (nI 0)) (ty := .int) (C := RX8) (T := TX8) (N := 6) hx hb hts inX8 tyX8 tyX8_ok nmX8 hown hK hw.2.1 hw.2.2 hS 0 rfl rfl 5 (by decide) (hts _ wd_56) (fun _ h9 => h9) rfl (by decide +kernel) rfl rfl (Nat.le_of_ble_eq_true rfl) dX8_init_39 (fun H locs hP hD hS => ?_)
  have hw : wdH D z (([(q, .inr (8, [.ref q_1, .ref q_2, .ref q_3, .int (nI 0), .int (nI 0), .int (nI 0)])), (q_1, .inl (ka 0, 6, .inl (fun _ => 0))), (q_2, .inl (ka 2, 5, .inr (.inr (.inr (.inr (fun _ => none)))))), (q_3, .inl (ka 0, 5, .inl (fun _ => 0)))] : va_W) ++ R) H := ⟨Nat.le_trans hz0 hS.1, hP, hD⟩
  exact hret _ _ _ _ _ _ _ dX8_init_42 hS hw (Nat.le_of_ble_eq_true rfl) (Nat.le_of_ble_eq_true rfl) ⟨fun k => match k with | 0 => q | 1 => q_1 | 2 => q_2 | _ => q_3, rfl, rfl⟩
set_option maxRecDepth 100000 in
set_option maxHeartbeats 4000000 in
theorem c_X2_init (l : Launch) (D : va_G) (ka : Nat → ClassId) (z : Nat) (q : Nat) (R : va_W) : MU l D ka z yX2_init cX2_init 1 none 1 3 24 [.ref q] (([(q, .inr (2, [.null, .null, .null, .int 0]))] : va_W) ++ R) (Qv D z (fun w => ∃ b : Nat → Nat, b 0 = q ∧ w = ([(b 0, .inr (2, [.ref (b 1), .ref (b 2), .ref (b 3), .int 0])), (b 1, .inl (ka 0, 8, .inl (fun _ => 0))), (b 2, .inl (ka 0, 8, .inl (fun _ => 0))), (b 3, .inl (ka 0, 8, .inl (fun _ => 0)))] : va_W) ++ R)) := by
  refine MU.ofV (by decide) (Nat.le_of_ble_eq_true rfl) ?_
  intro p e s m args below meth c Q X hin hw hS hret ls hl
  obtain ⟨hx, hb, hml, hown, hts, hE⟩ := id X
  have hK := hE.1
  have hz0 := hw.1
  have hl : lv_has ls 1 [(0, .ref q)] := hl
  refine lv_aload_n hx hb dX2_init_0 rfl (lv_at hl 0 rfl) ?_
  refine W.objInit hx hb hown (hts _ wd_101) (hts _ wd_21) (hts _ wd_22) rfl (by rw [hml]; exact hl.1) rfl dX2_init_1 (Nat.le_of_ble_eq_true rfl) (Nat.le_of_ble_eq_true rfl) ?_
  refine W.eq (g2 := F0 m 4 ls []) rfl ?_
  refine lv_aload_n hx hb dX2_init_4 rfl (lv_at hl 0 rfl) ?_
  refine lv_bipush (v := nI 8) hx hb dX2_init_5 (by decide) ?_
  refine n_newa (L := [(q, .inr (2, [.null, .null, .null, .int 0]))]) (Rw := R) X wd_73 hw hS hz0 (n := 8) (by omega) (Nat.le_of_ble_eq_true rfl) (Nat.le_of_ble_eq_true rfl) dX2_init_7 (fun q_1 H hw hS => ?_)
  have hw : wdH D z (([(q, .inr (2, [.null, .null, .null, .int 0])), (q_1, .inl (ka 0, 8, .inl (fun _ => 0)))] : va_W) ++ R) H := hw
  refine va_putF (D := D) (ci := 2) (v := .ref q_1) (ty := (.array .int)) (C := RX2) (T := TX2) (N := 4) hx hb hts inX2 tyX2 tyX2_ok nmX2 hown hK hw.2.1 hw.2.2 hS 0 rfl rfl 0 (by decide) (hts _ wd_102) (fun _ h9 => h9) rfl (hin rfl) rfl (by decide +kernel) rfl rfl (Nat.le_of_ble_eq_true rfl) dX2_init_9 (fun H locs hP hD hS => ?_)
  have hw : wdH D z (([(q, .inr (2, [.ref q_1, .null, .null, .int 0])), (q_1, .inl (ka 0, 8, .inl (fun _ => 0)))] : va_W) ++ R) H := ⟨Nat.le_trans hz0 hS.1, hP, hD⟩
  refine lv_aload_n hx hb dX2_init_12 rfl (lv_at hl 0 rfl) ?_
  refine lv_bipush (v := nI 8) hx hb dX2_init_13 (by decide) ?_
  refine n_newa (L := [(q, .inr (2, [.ref q_1, .null, .null, .int 0])), (q_1, .inl (ka 0, 8, .inl (fun _ => 0)))]) (Rw := R) X wd_73 hw hS hz0 (n := 8) (by omega) (Nat.le_of_ble_eq_true rfl) (Nat.le_of_ble_eq_true rfl) dX2_init_15 (fun q_2 H hw hS => ?_)
  have hw : wdH D z (([(q, .inr (2, [.ref q_1, .null, .null, .int 0])), (q_1, .inl (ka 0, 8, .inl (fun _ => 0))), (q_2, .inl (ka 0, 8, .inl (fun _ => 0)))] : va_W) ++ R) H := hw
  refine va_putF (D := D) (ci := 2) (v := .ref q_2) (ty := (.array .int)) (C := RX2) (T := TX2) (N := 4) hx hb hts inX2 tyX2 tyX2_ok nmX2 hown hK hw.2.1 hw.2.2 hS 0 rfl rfl 1 (by decide) (hts _ wd_103) (fun _ h9 => h9) rfl (hin rfl) rfl (by decide +kernel) rfl rfl (Nat.le_of_ble_eq_true rfl) dX2_init_17 (fun H locs hP hD hS => ?_)
  have hw : wdH D z (([(q, .inr (2, [.ref q_1, .ref q_2, .null, .int 0])), (q_1, .inl (ka 0, 8, .inl (fun _ => 0))), (q_2, .inl (ka 0, 8, .inl (fun _ => 0)))] : va_W) ++ R) H := ⟨Nat.le_trans hz0 hS.1, hP, hD⟩
  refine lv_aload_n hx hb dX2_init_20 rfl (lv_at hl 0 rfl) ?_
  refine lv_bipush (v := nI 8) hx hb dX2_init_21 (by decide) ?_
  refine n_newa (L := [(q, .inr (2, [.ref q_1, .ref q_2, .null, .int 0])), (q_1, .inl (ka 0, 8, .inl (fun _ => 0))), (q_2, .inl (ka 0, 8, .inl (fun _ => 0)))]) (Rw := R) X wd_73 hw hS hz0 (n := 8) (by omega) (Nat.le_of_ble_eq_true rfl) (Nat.le_of_ble_eq_true rfl) dX2_init_23 (fun q_3 H hw hS => ?_)
  have hw : wdH D z (([(q, .inr (2, [.ref q_1, .ref q_2, .null, .int 0])), (q_1, .inl (ka 0, 8, .inl (fun _ => 0))), (q_2, .inl (ka 0, 8, .inl (fun _ => 0))), (q_3, .inl (ka 0, 8, .inl (fun _ => 0)))] : va_W) ++ R) H := hw
  refine va_putF (D := D) (ci := 2) (v := .ref q_3) (ty := (.array .int)) (C := RX2) (T := TX2) (N := 4) hx hb hts inX2 tyX2 tyX2_ok nmX2 hown hK hw.2.1 hw.2.2 hS 0 rfl rfl 2 (by decide) (hts _ wd_104) (fun _ h9 => h9) rfl (hin rfl) rfl (by decide +kernel) rfl rfl (Nat.le_of_ble_eq_true rfl) dX2_init_25 (fun H locs hP hD hS => ?_)
  have hw : wdH D z (([(q, .inr (2, [.ref q_1, .ref q_2, .ref q_3, .int 0])), (q_1, .inl (ka 0, 8, .inl (fun _ => 0))), (q_2, .inl (ka 0, 8, .inl (fun _ => 0))), (q_3, .inl (ka 0, 8, .inl (fun _ => 0)))] : va_W) ++ R) H := ⟨Nat.le_trans hz0 hS.1, hP, hD⟩
  refine lv_aload_n hx hb dX2_init_28 rfl (lv_at hl 0 rfl) ?_
  refine lv_iconst (v := nI 0) hx hb dX2_init_29 (by decide) ?_
  refine va_put (D := D) (ci := 2) (v := .int (nI 0)) (ty := .int) (C := RX2) (T := TX2) (N := 4) hx hb hts inX2 tyX2 tyX2_ok nmX2 hown hK hw.2.1 hw.2.2 hS 0 rfl rfl 3 (by decide) (hts _ wd_105) (fun _ h9 => h9) rfl (by decide +kernel) rfl rfl (Nat.le_of_ble_eq_true rfl) dX2_init_30 (fun H locs hP hD hS => ?_)
  have hw : wdH D z (([(q, .inr (2, [.ref q_1, .ref q_2, .ref q_3, .int (nI 0)])), (q_1, .inl (ka 0, 8, .inl (fun _ => 0))), (q_2, .inl (ka 0, 8, .inl (fun _ => 0))), (q_3, .inl (ka 0, 8, .inl (fun _ => 0)))] : va_W) ++ R) H := ⟨Nat.le_trans hz0 hS.1, hP, hD⟩
  exact hret _ _ _ _ _ _ _ dX2_init_33 hS hw (Nat.le_of_ble_eq_true rfl) (Nat.le_of_ble_eq_true rfl) ⟨fun k => match k with | 0 => q | 1 => q_1 | 2 => q_2 | _ => q_3, rfl, rfl⟩
set_option maxRecDepth 100000 in
set_option maxHeartbeats 4000000 in
theorem c_X0_init (l : Launch) (D : va_G) (ka : Nat → ClassId) (z : Nat) (q : Nat) (R : va_W) : MU l D ka z yX0_init cX0_init 1 none 1 3 60 [.ref q] (([(q, .inr (0, [.null, .null, .null, .int 0]))] : va_W) ++ R) (Qv D z (fun w => ∃ b : Nat → Nat, b 0 = q ∧ w = ([(b 0, .inr (0, [.ref (b 1), .ref (b 2), .ref (b 3), .int 0])), (b 1, .inl (ka 0, 20, .inl (fun _ => 0))), (b 2, .inl (ka 0, 20, .inl (fun _ => 0))), (b 3, .inl (ka 0, 20, .inl (fun _ => 0)))] : va_W) ++ R)) := by
  refine MU.ofV (by decide) (Nat.le_of_ble_eq_true rfl) ?_
  intro p e s m args below meth c Q X hin hw hS hret ls hl
  obtain ⟨hx, hb, hml, hown, hts, hE⟩ := id X
  have hK := hE.1
  have hz0 := hw.1
  have hl : lv_has ls 1 [(0, .ref q)] := hl
  refine lv_aload_n hx hb dX0_init_0 rfl (lv_at hl 0 rfl) ?_
  refine W.objInit hx hb hown (hts _ wd_121) (hts _ wd_21) (hts _ wd_22) rfl (by rw [hml]; exact hl.1) rfl dX0_init_1 (Nat.le_of_ble_eq_true rfl) (Nat.le_of_ble_eq_true rfl) ?_
  refine W.eq (g2 := F0 m 4 ls []) rfl ?_
  refine lv_aload_n hx hb dX0_init_4 rfl (lv_at hl 0 rfl) ?_
  refine lv_bipush (v := nI 20) hx hb dX0_init_5 (by decide) ?_
  refine n_newa (L := [(q, .inr (0, [.null, .null, .null, .int 0]))]) (Rw := R) X wd_73 hw hS hz0 (n := 20) (by omega) (Nat.le_of_ble_eq_true rfl) (Nat.le_of_ble_eq_true rfl) dX0_init_7 (fun q_1 H hw hS => ?_)
  have hw : wdH D z (([(q, .inr (0, [.null, .null, .null, .int 0])), (q_1, .inl (ka 0, 20, .inl (fun _ => 0)))] : va_W) ++ R) H := hw
  refine va_putF (D := D) (ci := 0) (v := .ref q_1) (ty := (.array .int)) (C := RX0) (T := TX0) (N := 4) hx hb hts inX0 tyX0 tyX0_ok nmX0 hown hK hw.2.1 hw.2.2 hS 0 rfl rfl 0 (by decide) (hts _ wd_122) (fun _ h9 => h9) rfl (hin rfl) rfl (by decide +kernel) rfl rfl (Nat.le_of_ble_eq_true rfl) dX0_init_9 (fun H locs hP hD hS => ?_)
  have hw : wdH D z (([(q, .inr (0, [.ref q_1, .null, .null, .int 0])), (q_1, .inl (ka 0, 20, .inl (fun _ => 0)))] : va_W) ++ R) H := ⟨Nat.le_trans hz0 hS.1, hP, hD⟩
  refine lv_aload_n hx hb dX0_init_12 rfl (lv_at hl 0 rfl) ?_
  refine lv_bipush (v := nI 20) hx hb dX0_init_13 (by decide) ?_
  refine n_newa (L := [(q, .inr (0, [.ref q_1, .null, .null, .int 0])), (q_1, .inl (ka 0, 20, .inl (fun _ => 0)))]) (Rw := R) X wd_73 hw hS hz0 (n := 20) (by omega) (Nat.le_of_ble_eq_true rfl) (Nat.le_of_ble_eq_true rfl) dX0_init_15 (fun q_2 H hw hS => ?_)
  have hw : wdH D z (([(q, .inr (0, [.ref q_1, .null, .null, .int 0])), (q_1, .inl (ka 0, 20, .inl (fun _ => 0))), (q_2, .inl (ka 0, 20, .inl (fun _ => 0)))] : va_W) ++ R) H := hw
  refine va_putF (D := D) (ci := 0) (v := .ref q_2) (ty := (.array .int)) (C := RX0) (T := TX0) (N := 4) hx hb hts inX0 tyX0 tyX0_ok nmX0 hown hK hw.2.1 hw.2.2 hS 0 rfl rfl 1 (by decide) (hts _ wd_123) (fun _ h9 => h9) rfl (hin rfl) rfl (by decide +kernel) rfl rfl (Nat.le_of_ble_eq_true rfl) dX0_init_17 (fun H locs hP hD hS => ?_)
  have hw : wdH D z (([(q, .inr (0, [.ref q_1, .ref q_2, .null, .int 0])), (q_1, .inl (ka 0, 20, .inl (fun _ => 0))), (q_2, .inl (ka 0, 20, .inl (fun _ => 0)))] : va_W) ++ R) H := ⟨Nat.le_trans hz0 hS.1, hP, hD⟩
  refine lv_aload_n hx hb dX0_init_20 rfl (lv_at hl 0 rfl) ?_
  refine lv_bipush (v := nI 20) hx hb dX0_init_21 (by decide) ?_
  refine n_newa (L := [(q, .inr (0, [.ref q_1, .ref q_2, .null, .int 0])), (q_1, .inl (ka 0, 20, .inl (fun _ => 0))), (q_2, .inl (ka 0, 20, .inl (fun _ => 0)))]) (Rw := R) X wd_73 hw hS hz0 (n := 20) (by omega) (Nat.le_of_ble_eq_true rfl) (Nat.le_of_ble_eq_true rfl) dX0_init_23 (fun q_3 H hw hS => ?_)
  have hw : wdH D z (([(q, .inr (0, [.ref q_1, .ref q_2, .null, .int 0])), (q_1, .inl (ka 0, 20, .inl (fun _ => 0))), (q_2, .inl (ka 0, 20, .inl (fun _ => 0))), (q_3, .inl (ka 0, 20, .inl (fun _ => 0)))] : va_W) ++ R) H := hw
  refine va_putF (D := D) (ci := 0) (v := .ref q_3) (ty := (.array .int)) (C := RX0) (T := TX0) (N := 4) hx hb hts inX0 tyX0 tyX0_ok nmX0 hown hK hw.2.1 hw.2.2 hS 0 rfl rfl 2 (by decide) (hts _ wd_124) (fun _ h9 => h9) rfl (hin rfl) rfl (by decide +kernel) rfl rfl (Nat.le_of_ble_eq_true rfl) dX0_init_25 (fun H locs hP hD hS => ?_)
  have hw : wdH D z (([(q, .inr (0, [.ref q_1, .ref q_2, .ref q_3, .int 0])), (q_1, .inl (ka 0, 20, .inl (fun _ => 0))), (q_2, .inl (ka 0, 20, .inl (fun _ => 0))), (q_3, .inl (ka 0, 20, .inl (fun _ => 0)))] : va_W) ++ R) H := ⟨Nat.le_trans hz0 hS.1, hP, hD⟩
  refine lv_aload_n hx hb dX0_init_28 rfl (lv_at hl 0 rfl) ?_
  refine lv_iconst (v := nI 0) hx hb dX0_init_29 (by decide) ?_
  refine va_put (D := D) (ci := 0) (v := .int (nI 0)) (ty := .int) (C := RX0) (T := TX0) (N := 4) hx hb hts inX0 tyX0 tyX0_ok nmX0 hown hK hw.2.1 hw.2.2 hS 0 rfl rfl 3 (by decide) (hts _ wd_125) (fun _ h9 => h9) rfl (by decide +kernel) rfl rfl (Nat.le_of_ble_eq_true rfl) dX0_init_30 (fun H locs hP hD hS => ?_)
  have hw : wdH D z (([(q, .inr (0, [.ref q_1, .ref q_2, .ref q_3, .int (nI 0)])), (q_1, .inl (ka 0, 20, .inl (fun _ => 0))), (q_2, .inl (ka 0, 20, .inl (fun _ => 0))), (q_3, .inl (ka 0, 20, .inl (fun _ => 0)))] : va_W) ++ R) H := ⟨Nat.le_trans hz0 hS.1, hP, hD⟩
  exact hret _ _ _ _ _ _ _ dX0_init_33 hS hw (Nat.le_of_ble_eq_true rfl) (Nat.le_of_ble_eq_true rfl) ⟨fun k => match k with | 0 => q | 1 => q_1 | 2 => q_2 | _ => q_3, rfl, rfl⟩
