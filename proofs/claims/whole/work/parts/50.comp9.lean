set_option maxRecDepth 100000 in
set_option maxHeartbeats 4000000 in
theorem c_X1_swap (l : Launch) (D : va_G) (ka : Nat → ClassId) (z : Nat) (rd dv ov : Nat) (du kd nv : Int32) (R : va_W) : MU l D ka z yX1_swap cX1_swap 3 (some (.object "FourVault$Vault")) 0 0 0 [.ref rd, .ref ov] (([(rd, .inr (1, [.ref dv, .int du, .int kd, .int nv]))] : va_W) ++ R) (Qr D z (fun w r => r = dv ∧ w = ([(rd, .inr (1, [.ref ov, .int du, .int kd, .int nv]))] : va_W) ++ R)) := by
  refine MU.ofR (Or.inl ⟨_, rfl⟩) (by decide) (Nat.le_of_ble_eq_true rfl) ?_
  intro p e s m args below meth c Q X hw hS hret ls hl
  obtain ⟨hx, hb, hml, hown, hts, hE⟩ := id X
  have hK := hE.1
  have hz0 := hw.1
  have hl : lv_has ls 3 [(0, .ref rd), (1, .ref ov)] := hl
  refine lv_aload_n hx hb dX1_swap_0 rfl (lv_at hl 0 rfl) ?_
  refine va_get (D := D) (ci := 1) (v := .ref dv) (C := RX1) (T := TX1) (N := 4) hx hb hts inX1 hown hK hw.2.1 0 rfl rfl 0 (by decide) (hts _ wd_74) (fun _ h9 => h9) rfl dX1_swap_1 ?_
  refine lv_astore_n (lv' := [(2, .ref dv), (0, .ref rd), (1, .ref ov)]) hx hb dX1_swap_4 rfl hl (by decide) rfl (fun ls hl => ?_)
  refine lv_aload_n hx hb dX1_swap_5 rfl (lv_at hl 1 rfl) ?_
  refine lv_aload_n hx hb dX1_swap_6 rfl (lv_at hl 2 rfl) ?_
  refine va_put (D := D) (ci := 1) (v := .ref ov) (ty := (.object "FourVault$Vault")) (C := RX1) (T := TX1) (N := 4) hx hb hts inX1 tyX1 tyX1_ok nmX1 hown hK hw.2.1 hw.2.2 hS 0 rfl rfl 0 (by decide) (hts _ wd_74) (fun _ h9 => h9) rfl (by decide +kernel) rfl rfl (Nat.le_of_ble_eq_true rfl) dX1_swap_7 (fun H locs hP hD hS => ?_)
  have hw : wdH D z (([(rd, .inr (1, [.ref ov, .int du, .int kd, .int nv]))] : va_W) ++ R) H := ⟨Nat.le_trans hz0 hS.1, hP, hD⟩
  refine lv_aload_n hx hb dX1_swap_10 rfl (lv_at hl 0 rfl) ?_
  exact hret _ _ _ _ _ _ _ _ dX1_swap_11 hS hw (Nat.zero_le _) (Nat.zero_le _) ⟨rfl, rfl⟩
set_option maxRecDepth 100000 in
set_option maxHeartbeats 4000000 in
theorem c_X1_init (l : Launch) (D : va_G) (ka : Nat → ClassId) (z : Nat) (q : Nat) (R : va_W) : MU l D ka z yX1_init cX1_init 1 none 2 4 22 [.ref q] (([(q, .inr (1, [.null, .int 0, .int 0, .int 0]))] : va_W) ++ R) (Qv D z (fun w => ∃ d : Nat → Nat, w = rwd ka q d 0 0 0 0 0 0 (fun _ => 0) (fun _ => 0) (fun _ => none) ++ R)) := by
  refine MU.ofV (by decide) (Nat.le_of_ble_eq_true rfl) ?_
  intro p e s m args below meth c Q X hin hw hS hret ls hl
  obtain ⟨hx, hb, hml, hown, hts, hE⟩ := id X
  have hK := hE.1
  have hz0 := hw.1
  have hl : lv_has ls 1 [(0, .ref q)] := hl
  refine lv_aload_n hx hb dX1_init_0 rfl (lv_at hl 0 rfl) ?_
  refine W.objInit hx hb hown (hts _ wd_30) (hts _ wd_21) (hts _ wd_22) rfl (by rw [hml]; exact hl.1) rfl dX1_init_1 (Nat.le_of_ble_eq_true rfl) (Nat.le_of_ble_eq_true rfl) ?_
  refine W.eq (g2 := F0 m 4 ls []) rfl ?_
  refine lv_aload_n hx hb dX1_init_4 rfl (lv_at hl 0 rfl) ?_
  refine n_new (L := [(q, .inr (1, [.null, .int 0, .int 0, .int 0]))]) (Rw := R) X (C := RX8) (T := TX8) (N := 6) (ci := 8) inX8 tyX8 tyX8_ok wd_31 wd_32 wd_3 hw hS hz0 rfl (fs := [.null, .null, .null, .int 0, .int 0, .int 0]) (fun j hj => by rcases (show j = 0 ∨ j = 1 ∨ j = 2 ∨ j = 3 ∨ j = 4 ∨ j = 5 by omega) with rfl | rfl | rfl | rfl | rfl | rfl <;> rfl) (Nat.le_of_ble_eq_true rfl) (Nat.le_of_ble_eq_true rfl) dX1_init_5 (fun q_1 H hw hS => ?_)
  have hw : wdH D z (([(q, .inr (1, [.null, .int 0, .int 0, .int 0])), (q_1, .inr (8, [.null, .null, .null, .int 0, .int 0, .int 0]))] : va_W) ++ R) H := hw
  refine lv_dup hx hb dX1_init_8 rfl ?_
  have hw : wdH D z (([(q_1, .inr (8, [.null, .null, .null, .int 0, .int 0, .int 0])), (q, .inr (1, [.null, .int 0, .int 0, .int 0]))] : va_W) ++ R) H := hw.perm (perm_at (i := 1) rfl)
  refine mu_v (mu_runIN (c_X8_init l D ka z q_1 (([(q, .inr (1, [.null, .int 0, .int 0, .int 0]))] : va_W) ++ R)) X wd_35 (by simp [nestM]) wd_34 wd_3 rfl on_X8_init ⟨Nat.le_of_ble_eq_true rfl, Nat.le_of_ble_eq_true rfl⟩ hw hl.1 rfl (Nat.le_of_ble_eq_true rfl) ⟨Nat.le_of_ble_eq_true rfl, Nat.le_of_ble_eq_true rfl⟩ dX1_init_9) hS (fun u_2 H locs hp_u_2 hw hS => ?_)
  obtain ⟨va_3, rfl, rfl⟩ := hp_u_2
  have hw : wdH D z (([((va_3 0), .inr (8, [.ref (va_3 1), .ref (va_3 2), .ref (va_3 3), .int (nI 0), .int (nI 0), .int (nI 0)])), ((va_3 1), .inl (ka 0, 6, .inl (fun _ => 0))), ((va_3 2), .inl (ka 2, 5, .inr (.inr (.inr (.inr (fun _ => none)))))), ((va_3 3), .inl (ka 0, 5, .inl (fun _ => 0))), (q, .inr (1, [.null, .int 0, .int 0, .int 0]))] : va_W) ++ R) H := hw
  refine va_put (D := D) (ci := 1) (v := .ref (va_3 0)) (ty := (.object "FourVault$Vault")) (C := RX1) (T := TX1) (N := 4) hx hb hts inX1 tyX1 tyX1_ok nmX1 hown hK hw.2.1 hw.2.2 hS 4 rfl rfl 0 (by decide) (hts _ wd_74) (fun _ h9 => h9) rfl (by decide +kernel) rfl rfl (Nat.le_of_ble_eq_true rfl) dX1_init_12 (fun H locs hP hD hS => ?_)
  have hw : wdH D z (([((va_3 0), .inr (8, [.ref (va_3 1), .ref (va_3 2), .ref (va_3 3), .int (nI 0), .int (nI 0), .int (nI 0)])), ((va_3 1), .inl (ka 0, 6, .inl (fun _ => 0))), ((va_3 2), .inl (ka 2, 5, .inr (.inr (.inr (.inr (fun _ => none)))))), ((va_3 3), .inl (ka 0, 5, .inl (fun _ => 0))), (q, .inr (1, [.ref (va_3 0), .int 0, .int 0, .int 0]))] : va_W) ++ R) H := ⟨Nat.le_trans hz0 hS.1, hP, hD⟩
  refine lv_aload_n hx hb dX1_init_15 rfl (lv_at hl 0 rfl) ?_
  refine lv_iconst (v := nI 0) hx hb dX1_init_16 (by decide) ?_
  refine va_put (D := D) (ci := 1) (v := .int (nI 0)) (ty := .int) (C := RX1) (T := TX1) (N := 4) hx hb hts inX1 tyX1 tyX1_ok nmX1 hown hK hw.2.1 hw.2.2 hS 4 rfl rfl 1 (by decide) (hts _ wd_75) (fun _ h9 => h9) rfl (by decide +kernel) rfl rfl (Nat.le_of_ble_eq_true rfl) dX1_init_17 (fun H locs hP hD hS => ?_)
  have hw : wdH D z (([((va_3 0), .inr (8, [.ref (va_3 1), .ref (va_3 2), .ref (va_3 3), .int (nI 0), .int (nI 0), .int (nI 0)])), ((va_3 1), .inl (ka 0, 6, .inl (fun _ => 0))), ((va_3 2), .inl (ka 2, 5, .inr (.inr (.inr (.inr (fun _ => none)))))), ((va_3 3), .inl (ka 0, 5, .inl (fun _ => 0))), (q, .inr (1, [.ref (va_3 0), .int (nI 0), .int 0, .int 0]))] : va_W) ++ R) H := ⟨Nat.le_trans hz0 hS.1, hP, hD⟩
  refine lv_aload_n hx hb dX1_init_20 rfl (lv_at hl 0 rfl) ?_
  refine lv_iconst (v := nI 0) hx hb dX1_init_21 (by decide) ?_
  refine va_put (D := D) (ci := 1) (v := .int (nI 0)) (ty := .int) (C := RX1) (T := TX1) (N := 4) hx hb hts inX1 tyX1 tyX1_ok nmX1 hown hK hw.2.1 hw.2.2 hS 4 rfl rfl 2 (by decide) (hts _ wd_76) (fun _ h9 => h9) rfl (by decide +kernel) rfl rfl (Nat.le_of_ble_eq_true rfl) dX1_init_22 (fun H locs hP hD hS => ?_)
  have hw : wdH D z (([((va_3 0), .inr (8, [.ref (va_3 1), .ref (va_3 2), .ref (va_3 3), .int (nI 0), .int (nI 0), .int (nI 0)])), ((va_3 1), .inl (ka 0, 6, .inl (fun _ => 0))), ((va_3 2), .inl (ka 2, 5, .inr (.inr (.inr (.inr (fun _ => none)))))), ((va_3 3), .inl (ka 0, 5, .inl (fun _ => 0))), (q, .inr (1, [.ref (va_3 0), .int (nI 0), .int (nI 0), .int 0]))] : va_W) ++ R) H := ⟨Nat.le_trans hz0 hS.1, hP, hD⟩
  refine lv_aload_n hx hb dX1_init_25 rfl (lv_at hl 0 rfl) ?_
  refine lv_iconst (v := nI 0) hx hb dX1_init_26 (by decide) ?_
  refine va_put (D := D) (ci := 1) (v := .int (nI 0)) (ty := .int) (C := RX1) (T := TX1) (N := 4) hx hb hts inX1 tyX1 tyX1_ok nmX1 hown hK hw.2.1 hw.2.2 hS 4 rfl rfl 3 (by decide) (hts _ wd_77) (fun _ h9 => h9) rfl (by decide +kernel) rfl rfl (Nat.le_of_ble_eq_true rfl) dX1_init_27 (fun H locs hP hD hS => ?_)
  have hw : wdH D z (([((va_3 0), .inr (8, [.ref (va_3 1), .ref (va_3 2), .ref (va_3 3), .int (nI 0), .int (nI 0), .int (nI 0)])), ((va_3 1), .inl (ka 0, 6, .inl (fun _ => 0))), ((va_3 2), .inl (ka 2, 5, .inr (.inr (.inr (.inr (fun _ => none)))))), ((va_3 3), .inl (ka 0, 5, .inl (fun _ => 0))), (q, .inr (1, [.ref (va_3 0), .int (nI 0), .int (nI 0), .int (nI 0)]))] : va_W) ++ R) H := ⟨Nat.le_trans hz0 hS.1, hP, hD⟩
  have hw : wdH D z (([(q, .inr (1, [.ref (va_3 0), .int (nI 0), .int (nI 0), .int (nI 0)])), ((va_3 0), .inr (8, [.ref (va_3 1), .ref (va_3 2), .ref (va_3 3), .int (nI 0), .int (nI 0), .int (nI 0)])), ((va_3 1), .inl (ka 0, 6, .inl (fun _ => 0))), ((va_3 2), .inl (ka 2, 5, .inr (.inr (.inr (.inr (fun _ => none)))))), ((va_3 3), .inl (ka 0, 5, .inl (fun _ => 0)))] : va_W) ++ R) H := hw.perm (perm_at (i := 4) rfl)
  exact hret _ _ _ _ _ _ _ dX1_init_30 hS hw (Nat.le_of_ble_eq_true rfl) (Nat.le_of_ble_eq_true rfl) ⟨va_3, rfl⟩
set_option maxRecDepth 100000 in
set_option maxHeartbeats 4000000 in
theorem c_X1_readAll (l : Launch) (D : va_G) (ka : Nat → ClassId) (z : Nat) (rd : Nat) (d : Nat → Nat) (du kd nv : Int32) (np nt ng : Nat) (wf df : Nat → Int32) (tf : Nat → Option Nat) (ra ca la n1 : Nat) (C : CC) (k1 i1 n2 : Nat) (hn1 : n1 ≤ 60) (hin : i1 + n2 ≤ n1) (R : va_W) : MU l D ka z yX1_readAll cX1_readAll 5 (some .int) 7 60 180 [.ref rd, .ref ra, .int (nI i1), .int (nI n2)] (rwd ka rd d du kd nv np nt ng wf df tf ++ (([(ra, .inr (3, [.int (nI la), .ref ca])), (ca, .inl (ka 0, n1, .inl (rof (C k1))))] : va_W) ++ R)) (Qi D z (fun r w => ∃ t2 P2, prun C n2 (60 * k1 + i1) P0 = (t2, P2) ∧ ((r = -9 ∧ t2 = 60 * k1 + i1 + n2 ∧ P2 0 6 = 8) ∨ (r = nI (t2 - (60 * k1 + i1)) ∧ ¬ (t2 = 60 * k1 + i1 + n2 ∧ P2 0 6 = 8))) ∧ ∃ (ta' : Nat → Nat) (du' kd' nv' : Int32) (wf' df' : Nat → Int32) (tf' : Nat → Option Nat), VR P2 ta' wf' df' tf' ∧ w = rwd ka rd d du' kd' nv' (P2 0 0) (P2 0 1) (P2 0 2) wf' df' tf' ++ (tkw ta' P2 (P2 0 1) ++ (([(ra, .inr (3, [.int (nI la), .ref ca])), (ca, .inl (ka 0, n1, .inl (rof (C k1))))] : va_W) ++ R)))) := by
  refine MU.ofI (by decide) (Nat.le_of_ble_eq_true rfl) ?_
  intro p e s m args below meth c Q X hw hS hret ls hl
  obtain ⟨hx, hb, hml, hown, hts, hE⟩ := id X
  have hK := hE.1
  have hz0 := hw.1
  have hl : lv_has ls 5 [(0, .ref rd), (1, .ref ra), (2, .int (nI i1)), (3, .int (nI n2))] := hl
  refine lv_aload_n hx hb dX1_readAll_0 rfl (lv_at hl 0 rfl) ?_
  refine va_get (D := D) (ci := 1) (v := .ref (d 0)) (C := RX1) (T := TX1) (N := 4) hx hb hts inX1 hown hK hw.2.1 0 rfl rfl 0 (by decide) (hts _ wd_74) (fun _ h9 => h9) rfl dX1_readAll_1 ?_
  have hw : wdH D z (([((d 0), .inr (8, [.ref (d 1), .ref (d 2), .ref (d 3), .int (nI np), .int (nI nt), .int (nI ng)])), ((d 1), .inl (ka 0, 6, .inl (wf))), ((d 2), .inl (ka 2, 5, .inr (.inr (.inr (.inr (tf)))))), ((d 3), .inl (ka 0, 5, .inl (df))), (rd, .inr (1, [.ref (d 0), .int du, .int kd, .int nv]))] : va_W) ++ (([(ra, .inr (3, [.int (nI la), .ref ca])), (ca, .inl (ka 0, n1, .inl (rof (C k1))))] : va_W) ++ R)) s.heap := hw.perm (perm_at (i := 0) rfl |>.trans (List.Perm.swap _ _ _) |>.trans ((List.Perm.swap _ _ _).cons _) |>.trans (((List.Perm.swap _ _ _).cons _).cons _) |>.trans ((((List.Perm.swap _ _ _).cons _).cons _).cons _))
  refine mu_v (mu_runV (c_X8_clear l D ka z d np nt ng wf df tf (([(rd, .inr (1, [.ref (d 0), .int du, .int kd, .int nv]))] : va_W) ++ (([(ra, .inr (3, [.int (nI la), .ref ca])), (ca, .inl (ka 0, n1, .inl (rof (C k1))))] : va_W) ++ R))) X wd_204 wd_201 wd_202 wd_203 wd_3 on_X8_clear ⟨Nat.le_of_ble_eq_true rfl, Nat.le_of_ble_eq_true rfl⟩ (va_recv hK hw.2.1 (ci := 8) (q0 := 0) rfl rfl) hw hl.1 rfl (Nat.le_of_ble_eq_true rfl) ⟨Nat.le_of_ble_eq_true rfl, Nat.le_of_ble_eq_true rfl⟩ dX1_readAll_4) hS (fun u_1 H locs hp_u_1 hw hS => ?_)
  subst hp_u_1
  have hw : wdH D z (([(rd, .inr (1, [.ref (d 0), .int du, .int kd, .int nv])), ((d 0), .inr (8, [.ref (d 1), .ref (d 2), .ref (d 3), .int (nI 0), .int (nI 0), .int (nI 0)])), ((d 1), .inl (ka 0, 6, .inl (wf))), ((d 2), .inl (ka 2, 5, .inr (.inr (.inr (.inr (tf)))))), ((d 3), .inl (ka 0, 5, .inl (df)))] : va_W) ++ (([(ra, .inr (3, [.int (nI la), .ref ca])), (ca, .inl (ka 0, n1, .inl (rof (C k1))))] : va_W) ++ R)) H := hw.perm (((((List.Perm.swap _ _ _).cons _).cons _).cons _).trans ((((List.Perm.swap _ _ _).cons _).cons _).trans (((List.Perm.swap _ _ _).cons _).trans (List.Perm.swap _ _ _))))
  refine lv_aload_n hx hb dX1_readAll_7 rfl (lv_at hl 0 rfl) ?_
  refine lv_iconst (v := nI 0) hx hb dX1_readAll_8 (by decide) ?_
  refine va_put (D := D) (ci := 1) (v := .int (nI 0)) (ty := .int) (C := RX1) (T := TX1) (N := 4) hx hb hts inX1 tyX1 tyX1_ok nmX1 hown hK hw.2.1 hw.2.2 hS 0 rfl rfl 1 (by decide) (hts _ wd_75) (fun _ h9 => h9) rfl (by decide +kernel) rfl rfl (Nat.le_of_ble_eq_true rfl) dX1_readAll_9 (fun H locs hP hD hS => ?_)
  have hw : wdH D z (([(rd, .inr (1, [.ref (d 0), .int (nI 0), .int kd, .int nv])), ((d 0), .inr (8, [.ref (d 1), .ref (d 2), .ref (d 3), .int (nI 0), .int (nI 0), .int (nI 0)])), ((d 1), .inl (ka 0, 6, .inl (wf))), ((d 2), .inl (ka 2, 5, .inr (.inr (.inr (.inr (tf)))))), ((d 3), .inl (ka 0, 5, .inl (df)))] : va_W) ++ (([(ra, .inr (3, [.int (nI la), .ref ca])), (ca, .inl (ka 0, n1, .inl (rof (C k1))))] : va_W) ++ R)) H := ⟨Nat.le_trans hz0 hS.1, hP, hD⟩
  refine lv_iconst (v := nI 0) hx hb dX1_readAll_12 (by decide) ?_
  refine lv_istore (lv' := [(4, .int (nI 0)), (0, .ref rd), (1, .ref ra), (2, .int (nI i1)), (3, .int (nI n2))]) hx hb dX1_readAll_13 hl (by decide) rfl (fun ls hl => ?_)
  have hw : wdH D z (([(rd, .inr (1, [.ref (d 0), .int (nI 0), .int kd, .int nv])), ((d 0), .inr (8, [.ref (d 1), .ref (d 2), .ref (d 3), .int (nI 0), .int (nI 0), .int (nI 0)])), ((d 1), .inl (ka 0, 6, .inl (wf))), ((d 2), .inl (ka 2, 5, .inr (.inr (.inr (.inr (tf)))))), ((d 3), .inl (ka 0, 5, .inl (df)))] : va_W) ++ (tkw (fun _ => 0) P0 (P0 0 1) ++ (([(ra, .inr (3, [.int (nI la), .ref ca])), (ca, .inl (ka 0, n1, .inl (rof (C k1))))] : va_W) ++ R))) H := hw
  have loop15 : ∀ (fuel15 : Nat) (at9 : Nat) (P : NN) (ta1 : Nat → Nat) (kd1 : Int32) (nv1 : Int32) (wf1 : Nat → Int32) (df1 : Nat → Int32) (tf1 : Nat → Option Nat), n2 - at9 < fuel15 → (at9 ≤ n2) → (RS P ta1 kd1 nv1 wf1 df1 tf1) → (prun C n2 (60 * k1 + i1) P0 = prun C (60 * k1 + i1 + n2 - (60 * k1 + i1 + at9)) (60 * k1 + i1 + at9) P) → ∀ (H : Heap) (locs : List Loc), wdH D z (([(rd, .inr (1, [.ref (d 0), .int (nI (P 0 6)), .int kd1, .int nv1])), ((d 0), .inr (8, [.ref (d 1), .ref (d 2), .ref (d 3), .int (nI (P 0 0)), .int (nI (P 0 1)), .int (nI (P 0 2))])), ((d 1), .inl (ka 0, 6, .inl (wf1))), ((d 2), .inl (ka 2, 5, .inr (.inr (.inr (.inr (tf1)))))), ((d 3), .inl (ka 0, 5, .inl (df1)))] : va_W) ++ (tkw ta1 P (P 0 1) ++ (([(ra, .inr (3, [.int (nI la), .ref ca])), (ca, .inl (ka 0, n1, .inl (rof (C k1))))] : va_W) ++ R))) H → va_S (fun q => z ≤ q) s.heap H locs → ∀ ls : Array Slot, lv_has ls 5 [(0, .ref rd), (1, .ref ra), (2, .int (nI i1)), (3, .int (nI n2)), (4, .int (nI at9))] → W p l e (rmz 7 60 180) s m args below meth c H locs at9 (3 * at9) Q (F0 m 15 ls []) := by
    intro fuel15
    induction fuel15 with
    | zero => intro at9 P ta1 kd1 nv1 wf1 df1 tf1 hfu; exact absurd hfu (Nat.not_lt_zero _)
    | succ fuel15 ih15 =>
      intro at9 P ta1 kd1 nv1 wf1 df1 tf1 hfu hat hR1 hq1 H locs hw hS ls hl
      have hi6 := hR1.2.1.1.2.2.2.1
      refine lv_iload hx hb dX1_readAll_15 (lv_at hl 4 rfl) ?_
      refine lv_iload_n hx hb dX1_readAll_17 rfl (lv_at hl 3 rfl) ?_
      refine i_icmp_ge (tgt := 46) hx hb (nT (by omega)) (nT (by omega)) dX1_readAll_18 (by decide) (fun c_2 => ?_) (fun c_2 => ?_)
      · refine lv_aload_n hx hb dX1_readAll_46 rfl (lv_at hl 0 rfl) ?_
        refine va_get (D := D) (ci := 1) (v := .int (nI (P 0 6))) (C := RX1) (T := TX1) (N := 4) hx hb hts inX1 hown hK hw.2.1 0 rfl rfl 1 (by decide) (hts _ wd_75) (fun _ h9 => h9) rfl dX1_readAll_47 ?_
        refine lv_bipush (v := nI 8) hx hb dX1_readAll_50 (by decide) ?_
        refine i_icmp_ne (tgt := 60) hx hb (nT (by omega)) (nT (by decide)) dX1_readAll_52 (by decide) (fun c_3 => ?_) (fun c_3 => ?_)
        · refine lv_iload_n hx hb dX1_readAll_60 rfl (lv_at hl 3 rfl) ?_
          refine hret _ _ _ _ _ _ _ _ dX1_readAll_61 hS hw (by omega) (by omega) ?_
          exact ⟨60 * k1 + i1 + at9, P, hq1.trans (prun_end (by omega) (fun q => absurd q (by omega))), Or.inr ⟨by rw [show 60 * k1 + i1 + at9 - (60 * k1 + i1) = n2 by omega], by omega⟩, ta1, _, kd1, nv1, wf1, df1, tf1, hR1.1, rfl⟩
        · refine lv_bipush (v := (-9)) hx hb dX1_readAll_55 (by decide) ?_
          refine lv_goto (tgt := 61) hx hb dX1_readAll_57 (by decide) ?_
          refine hret _ _ _ _ _ _ _ _ dX1_readAll_61 hS hw (by omega) (by omega) ?_
          exact ⟨60 * k1 + i1 + at9, P, hq1.trans (prun_end (by omega) (fun q => absurd q (by omega))), Or.inl ⟨rfl, by omega, by omega⟩, ta1, _, kd1, nv1, wf1, df1, tf1, hR1.1, rfl⟩
      · refine lv_aload_n hx hb dX1_readAll_21 rfl (lv_at hl 0 rfl) ?_
        refine lv_aload_n hx hb dX1_readAll_22 rfl (lv_at hl 1 rfl) ?_
        refine va_get (D := D) (ci := 3) (v := .ref ca) (C := RX3) (T := TX3) (N := 2) hx hb hts inX3 hown hK (hw.2.1.right.right) 0 rfl rfl 1 (by decide) (hts _ wd_562) (fun _ h9 => h9) rfl dX1_readAll_23 ?_
        refine lv_iload_n hx hb dX1_readAll_26 rfl (lv_at hl 2 rfl) ?_
        refine lv_iload hx hb dX1_readAll_27 (lv_at hl 4 rfl) ?_
        refine n_iadd hx hb dX1_readAll_29 ?_
        refine n_iald hx hb hK (hw.2.1.right.right) 1 0 rfl rfl (k := i1 + at9) (by omega) (by omega) dX1_readAll_30 ?_
        rw [rof_at (f := C k1) (i := i1 + at9) (by omega)]
        have hcz : (C k1 (i1 + at9)).toInt = cz C (60 * k1 + i1 + at9) := (cz_at C (by omega) (by omega)).symm
        refine mu_i (mu_runV (c_X1_takes l D ka z rd d ta1 P kd1 nv1 wf1 df1 tf1 hR1 (C k1 (i1 + at9)) _ hcz (([(ra, .inr (3, [.int (nI la), .ref ca])), (ca, .inl (ka 0, n1, .inl (rof (C k1))))] : va_W) ++ R)) X wd_208 wd_205 wd_206 wd_207 wd_2 on_X1_takes ⟨Nat.le_of_ble_eq_true rfl, Nat.le_of_ble_eq_true rfl⟩ (va_recv hK hw.2.1 (ci := 1) (q0 := 0) rfl rfl) hw hl.1 rfl (Nat.le_of_ble_eq_true rfl) ⟨by show at9 + 1 ≤ 60; omega, by show 3 * at9 + 3 ≤ 180; omega⟩ dX1_readAll_31) hS (fun r_5 u_4 H locs hp_u_4 hw hS => ?_)
        rcases hp_u_4 with ⟨rfl, hpn, du2, kd2, nv2, rfl⟩ | ⟨rfl, P2, hps, ta2, kd2, nv2, wf2, df2, tf2, hR2, rfl⟩
        · refine W.eq (g2 := F0 m 34 ls [.int (nI 0)]) rfl ?_
          have hw : wdH D z (([(rd, .inr (1, [.ref (d 0), .int du2, .int kd2, .int nv2])), ((d 0), .inr (8, [.ref (d 1), .ref (d 2), .ref (d 3), .int (nI (P 0 0)), .int (nI (P 0 1)), .int (nI (P 0 2))])), ((d 1), .inl (ka 0, 6, .inl (wf1))), ((d 2), .inl (ka 2, 5, .inr (.inr (.inr (.inr (tf1)))))), ((d 3), .inl (ka 0, 5, .inl (df1)))] : va_W) ++ (tkw ta1 P (P 0 1) ++ (([(ra, .inr (3, [.int (nI la), .ref ca])), (ca, .inl (ka 0, n1, .inl (rof (C k1))))] : va_W) ++ R))) H := hw
          refine i_if_ne (tgt := 40) hx hb (nT (by omega)) dX1_readAll_34 (by decide) (fun c_6 => by omega) (fun c_6 => ?_)
          refine lv_iload hx hb dX1_readAll_37 (lv_at hl 4 rfl) ?_
          refine hret _ _ _ _ _ _ _ _ dX1_readAll_39 hS hw (by omega) (by omega) ?_
          refine ⟨60 * k1 + i1 + at9, P, hq1.trans (prun_end (by omega) (fun _ => hpn)), Or.inr ⟨by rw [Nat.add_sub_cancel_left], by omega⟩, ta1, du2, kd2, nv2, wf1, df1, tf1, hR1.1, rfl⟩
        · refine W.eq (g2 := F0 m 34 ls [.int (nI 1)]) rfl ?_
          have hw : wdH D z (([(rd, .inr (1, [.ref (d 0), .int (nI (P2 0 6)), .int kd2, .int nv2])), ((d 0), .inr (8, [.ref (d 1), .ref (d 2), .ref (d 3), .int (nI (P2 0 0)), .int (nI (P2 0 1)), .int (nI (P2 0 2))])), ((d 1), .inl (ka 0, 6, .inl (wf2))), ((d 2), .inl (ka 2, 5, .inr (.inr (.inr (.inr (tf2)))))), ((d 3), .inl (ka 0, 5, .inl (df2)))] : va_W) ++ (tkw ta2 P2 (P2 0 1) ++ (([(ra, .inr (3, [.int (nI la), .ref ca])), (ca, .inl (ka 0, n1, .inl (rof (C k1))))] : va_W) ++ R))) H := hw
          refine i_if_ne (tgt := 40) hx hb (nT (by omega)) dX1_readAll_34 (by decide) (fun c_7 => ?_) (fun c_7 => by omega)
          refine n_iinc (lv' := [(4, .int (nI (at9 + 1))), (0, .ref rd), (1, .ref ra), (2, .int (nI i1)), (3, .int (nI n2))]) (k := 4) (d := 1) hx hb dX1_readAll_40 hl rfl rfl (by decide) rfl (fun ls hl => ?_)
          refine lv_goto (tgt := 15) hx hb dX1_readAll_43 (by decide) ?_
          exact ih15 (at9 + 1) P2 ta2 kd2 nv2 wf2 df2 tf2 (by omega) (by omega) hR2 (hq1.trans (prun_go (by omega) hps)) _ _ hw hS ls (lv_sub hl [1, 2, 3, 4, 0] rfl)
  exact loop15 _ 0 P0 (fun _ => 0) kd nv wf df tf (Nat.lt_succ_self _) (by omega) ⟨⟨fun j hj => absurd hj (Nat.not_lt_zero _), fun j hj => absurd hj (Nat.not_lt_zero _), fun j hj => absurd hj (Nat.not_lt_zero _)⟩, PI_0, fun q => absurd (show 4 ≤ 0 from q) (by decide), fun q => absurd (show 5 ≤ 0 from q) (by decide)⟩ (by rw [Nat.add_zero, Nat.add_sub_cancel_left]) _ _ hw hS ls (lv_sub hl [1, 2, 3, 4, 0] rfl)
