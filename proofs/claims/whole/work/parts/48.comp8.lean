set_option maxRecDepth 100000 in
set_option maxHeartbeats 4000000 in
theorem c_X4_init (l : Launch) (D : va_G) (ka : Nat → ClassId) (z : Nat) (q : Nat) (R : va_W) : MU l D ka z yX4_init cX4_init 1 none 1 8 203 [.ref q] (([(q, .inr (4, [.null, .null]))] : va_W) ++ R) (Qv D z (fun w => ∃ b mr : Nat → Nat, b 0 = q ∧ w = sdw ka b mr (fun _ _ => 0) (fun _ => 0) ++ R)) := by
  refine MU.ofV (by decide) (Nat.le_of_ble_eq_true rfl) ?_
  intro p e s m args below meth c Q X hin hw hS hret ls hl
  obtain ⟨hx, hb, hml, hown, hts, hE⟩ := id X
  have hK := hE.1
  have hz0 := hw.1
  have hl : lv_has ls 1 [(0, .ref q)] := hl
  refine lv_aload_n hx hb dX4_init_0 rfl (lv_at hl 0 rfl) ?_
  refine W.objInit hx hb hown (hts _ wd_140) (hts _ wd_21) (hts _ wd_22) rfl (by rw [hml]; exact hl.1) rfl dX4_init_1 (Nat.le_of_ble_eq_true rfl) (Nat.le_of_ble_eq_true rfl) ?_
  refine W.eq (g2 := F0 m 4 ls []) rfl ?_
  refine lv_aload_n hx hb dX4_init_4 rfl (lv_at hl 0 rfl) ?_
  refine lv_bipush (v := nI 6) hx hb dX4_init_5 (by decide) ?_
  refine lv_bipush (v := nI 32) hx hb dX4_init_7 (by decide) ?_
  refine n_mna (L := [(q, .inr (4, [.null, .null]))]) (Rw := R) X wd_141 hE.2.2.2.2.2.2 wd_73 hw hS hz0 (Nat.le_of_ble_eq_true rfl) (Nat.le_of_ble_eq_true rfl) dX4_init_9 (fun q_1 mr H hw hS => ?_)
  have hw : wdH D z (([(q, .inr (4, [.null, .null])), (q_1, .inl (ka 3, 6, .inr (.inr (.inr (.inr (fun i => if i < 6 then some (mr i) else none))))))] : va_W) ++ (mrw ka mr (fun _ _ => 0) ++ R)) H := by
    have h9 := hw
    rw [List.append_assoc] at h9
    exact h9
  refine va_putF (D := D) (ci := 4) (v := .ref q_1) (ty := (.array (.array .int))) (C := RX4) (T := TX4) (N := 2) hx hb hts inX4 tyX4 tyX4_ok nmX4 hown hK hw.2.1 hw.2.2 hS 0 rfl rfl 0 (by decide) (hts _ wd_143) (fun _ h9 => h9) rfl (hin rfl) rfl (by decide +kernel) rfl rfl (Nat.le_of_ble_eq_true rfl) dX4_init_13 (fun H locs hP hD hS => ?_)
  have hw : wdH D z (([(q, .inr (4, [.ref q_1, .null])), (q_1, .inl (ka 3, 6, .inr (.inr (.inr (.inr (fun i => if i < 6 then some (mr i) else none))))))] : va_W) ++ (mrw ka mr (fun _ _ => 0) ++ R)) H := ⟨Nat.le_trans hz0 hS.1, hP, hD⟩
  refine lv_aload_n hx hb dX4_init_16 rfl (lv_at hl 0 rfl) ?_
  refine lv_iconst (v := nI 5) hx hb dX4_init_17 (by decide) ?_
  refine n_newa (L := [(q, .inr (4, [.ref q_1, .null])), (q_1, .inl (ka 3, 6, .inr (.inr (.inr (.inr (fun i => if i < 6 then some (mr i) else none))))))]) (Rw := (mrw ka mr (fun _ _ => 0) ++ R)) X wd_73 hw hS hz0 (n := 5) (by omega) (Nat.le_of_ble_eq_true rfl) (Nat.le_of_ble_eq_true rfl) dX4_init_18 (fun q_2 H hw hS => ?_)
  have hw : wdH D z (([(q, .inr (4, [.ref q_1, .null])), (q_1, .inl (ka 3, 6, .inr (.inr (.inr (.inr (fun i => if i < 6 then some (mr i) else none)))))), (q_2, .inl (ka 0, 5, .inl (fun _ => 0)))] : va_W) ++ (mrw ka mr (fun _ _ => 0) ++ R)) H := hw
  refine va_putF (D := D) (ci := 4) (v := .ref q_2) (ty := (.array .int)) (C := RX4) (T := TX4) (N := 2) hx hb hts inX4 tyX4 tyX4_ok nmX4 hown hK hw.2.1 hw.2.2 hS 0 rfl rfl 1 (by decide) (hts _ wd_144) (fun _ h9 => h9) rfl (hin rfl) rfl (by decide +kernel) rfl rfl (Nat.le_of_ble_eq_true rfl) dX4_init_20 (fun H locs hP hD hS => ?_)
  have hw : wdH D z (([(q, .inr (4, [.ref q_1, .ref q_2])), (q_1, .inl (ka 3, 6, .inr (.inr (.inr (.inr (fun i => if i < 6 then some (mr i) else none)))))), (q_2, .inl (ka 0, 5, .inl (fun _ => 0)))] : va_W) ++ (mrw ka mr (fun _ _ => 0) ++ R)) H := ⟨Nat.le_trans hz0 hS.1, hP, hD⟩
  exact hret _ _ _ _ _ _ _ dX4_init_23 hS hw (Nat.le_of_ble_eq_true rfl) (Nat.le_of_ble_eq_true rfl) ⟨(fun k => match k with | 0 => q | 1 => q_1 | _ => q_2), mr, rfl, rfl⟩
set_option maxRecDepth 100000 in
set_option maxHeartbeats 4000000 in
theorem c_X1_goesOn (l : Launch) (D : va_G) (ka : Nat → ClassId) (z : Nat) (rd d0 k0 k1 k2 rt nx : Nat) (du kd nv : Int32) (hrt : rt ≤ 1) (R : va_W) : MU l D ka z yX1_goesOn cX1_goesOn 3 (some .boolean) 0 0 0 [.ref rd, .int (nI rt), .int (nI nx)] (([(rd, .inr (1, [.ref d0, .ref k0, .ref k1, .ref k2, .int du, .int kd, .int nv]))] : va_W) ++ R) (Qi D z (fun r w => r = nI rt ∧ w = ([(rd, .inr (1, [.ref d0, .ref k0, .ref k1, .ref k2, .int (if rt = 1 then nI nx else du), .int kd, .int nv]))] : va_W) ++ R)) := by
  refine MU.ofZ (by decide) (Nat.le_of_ble_eq_true rfl) ?_
  intro p e s m args below meth c Q X hw hS hret ls hl
  obtain ⟨hx, hb, hml, hown, hts, hE⟩ := id X
  have hK := hE.1
  have hz0 := hw.1
  have hl : lv_has ls 3 [(0, .ref rd), (1, .int (nI rt)), (2, .int (nI nx))] := hl
  refine lv_iload_n hx hb dX1_goesOn_0 rfl (lv_at hl 1 rfl) ?_
  refine i_if_eq (tgt := 9) hx hb (nT (by omega)) dX1_goesOn_1 (by decide) (fun c_1 => ?_) (fun c_1 => ?_)
  · refine lv_iload_n hx hb dX1_goesOn_9 rfl (lv_at hl 1 rfl) ?_
    have h01 : rt = 0 := by omega
    subst h01
    exact hret _ _ _ _ _ _ _ _ dX1_goesOn_10 hS hw (Nat.zero_le _) (Nat.zero_le _) (by decide) ⟨rfl, rfl⟩
  · refine lv_aload_n hx hb dX1_goesOn_4 rfl (lv_at hl 0 rfl) ?_
    refine lv_iload_n hx hb dX1_goesOn_5 rfl (lv_at hl 2 rfl) ?_
    refine va_put (D := D) (ci := 1) (v := .int (nI nx)) (ty := .int) (C := RX1) (T := TX1) (N := 7) hx hb hts inX1 tyX1 tyX1_ok nmX1 hown hK hw.2.1 hw.2.2 hS 0 rfl rfl 4 (by decide) (hts _ wd_78) (fun _ h9 => h9) rfl (by decide +kernel) rfl rfl (Nat.le_of_ble_eq_true rfl) dX1_goesOn_6 (fun H locs hP hD hS => ?_)
    have hw : wdH D z (([(rd, .inr (1, [.ref d0, .ref k0, .ref k1, .ref k2, .int (nI nx), .int kd, .int nv]))] : va_W) ++ R) H := ⟨Nat.le_trans hz0 hS.1, hP, hD⟩
    refine lv_iload_n hx hb dX1_goesOn_9 rfl (lv_at hl 1 rfl) ?_
    have h01 : rt = 1 := by omega
    subst h01
    exact hret _ _ _ _ _ _ _ _ dX1_goesOn_10 hS hw (Nat.zero_le _) (Nat.zero_le _) (by decide) ⟨rfl, rfl⟩
set_option maxRecDepth 100000 in
set_option maxHeartbeats 4000000 in
theorem c_X1_takesGloom (l : Launch) (D : va_G) (ka : Nat → ClassId) (z : Nat) (rd : Nat) (d rk : Nat → Nat) (P : NN) (kd nv : Int32) (wf df : Nat → Int32) (tf : Nat → Option Nat) (kf nf mf : Nat → Int32) (hR : RS P kd nv wf df kf nf mf) (c1 : Int32) (c9 : Int) (hc1 : c1.toInt = c9) (R : va_W) (hg : pst P c9 = pgl P c9) : MU l D ka z yX1_takesGloom cX1_takesGloom 2 (some .boolean) 1 0 0 [.ref rd, .int c1] (rwd ka rd d rk (nI (P 0 6)) kd nv (P 0 0) (P 0 1) (P 0 2) wf df tf kf nf mf ++ R) (Qi D z (fun r w => rpo ka rd d rk P wf df tf kf nf mf R c9 r w)) := by
  refine MU.ofZ (by decide) (Nat.le_of_ble_eq_true rfl) ?_
  intro p e s m args below meth c Q X hw hS hret ls hl
  obtain ⟨hx, hb, hml, hown, hts, hE⟩ := id X
  have hK := hE.1
  have hz0 := hw.1
  have hl : lv_has ls 2 [(0, .ref rd), (1, .int c1)] := hl
  have hI := hR.2.1
  obtain ⟨⟨hi0, hi1, hi2, hi6, hi7, hi8, hi9, hi10⟩, -⟩ := id hI
  refine lv_iload_n hx hb dX1_takesGloom_0 rfl (lv_at hl 1 rfl) ?_
  refine vp_callSi (ro_runS (c_X1_isDigit l D ka c1 _ hc1) X wd_228 wd_226 wd_227 wd_2 on_X1_isDigit ⟨Nat.le_of_ble_eq_true rfl, Nat.le_of_ble_eq_true rfl⟩ trivial hl.1 rfl (Nat.le_of_ble_eq_true rfl) ⟨(Nat.zero_le _), (Nat.zero_le _)⟩ dX1_takesGloom_1) (fun r_1 hr_1 => ?_)
  subst hr_1
  refine b_if_eq (tgt := 19) hx hb dX1_takesGloom_4 (by decide) (fun c_2 => ?_) (fun c_2 => ?_)
  · refine lv_iconst (v := nI 0) hx hb dX1_takesGloom_19 (by decide) ?_
    exact hret _ _ _ _ _ _ _ _ dX1_takesGloom_20 hS hw (Nat.zero_le _) (Nat.zero_le _) (by decide) (rpo_n (hg.trans (pgl_n (by omega))))
  · refine lv_aload_n hx hb dX1_takesGloom_7 rfl (lv_at hl 0 rfl) ?_
    refine va_get (D := D) (ci := 1) (v := .ref (d 0)) (C := RX1) (T := TX1) (N := 7) hx hb hts inX1 hown hK hw.2.1 0 rfl rfl 0 (by decide) (hts _ wd_74) (fun _ h9 => h9) rfl dX1_takesGloom_8 ?_
    refine va_get (D := D) (ci := 8) (v := .int (nI (P 0 0))) (C := RX8) (T := TX8) (N := 6) hx hb hts inX8 hown hK hw.2.1 4 rfl rfl 3 (by decide) (hts _ wd_50) (fun _ h9 => h9) rfl dX1_takesGloom_11 ?_
    refine lv_bipush (v := nI 6) hx hb dX1_takesGloom_14 (by decide) ?_
    refine i_icmp_lt (tgt := 21) hx hb (nT (by omega)) (nT (by decide)) dX1_takesGloom_16 (by decide) (fun c_3 => ?_) (fun c_3 => ?_)
    · refine lv_aload_n hx hb dX1_takesGloom_21 rfl (lv_at hl 0 rfl) ?_
      refine va_get (D := D) (ci := 1) (v := .ref (d 0)) (C := RX1) (T := TX1) (N := 7) hx hb hts inX1 hown hK hw.2.1 0 rfl rfl 0 (by decide) (hts _ wd_74) (fun _ h9 => h9) rfl dX1_takesGloom_22 ?_
      refine va_get (D := D) (ci := 8) (v := .ref (d 1)) (C := RX8) (T := TX8) (N := 6) hx hb hts inX8 hown hK hw.2.1 4 rfl rfl 0 (by decide) (hts _ wd_41) (fun _ h9 => h9) rfl dX1_takesGloom_25 ?_
      refine lv_aload_n hx hb dX1_takesGloom_28 rfl (lv_at hl 0 rfl) ?_
      refine va_get (D := D) (ci := 1) (v := .ref (d 0)) (C := RX1) (T := TX1) (N := 7) hx hb hts inX1 hown hK hw.2.1 0 rfl rfl 0 (by decide) (hts _ wd_74) (fun _ h9 => h9) rfl dX1_takesGloom_29 ?_
      refine va_get (D := D) (ci := 8) (v := .int (nI (P 0 0))) (C := RX8) (T := TX8) (N := 6) hx hb hts inX8 hown hK hw.2.1 4 rfl rfl 3 (by decide) (hts _ wd_50) (fun _ h9 => h9) rfl dX1_takesGloom_32 ?_
      refine lv_iload_n hx hb dX1_takesGloom_35 rfl (lv_at hl 1 rfl) ?_
      refine lv_bipush (v := nI 48) hx hb dX1_takesGloom_36 (by decide) ?_
      refine lv_isub hx hb dX1_takesGloom_38 ?_
      rw [dg_sub hc1 (by omega) (by omega)]
      refine r_iast hx hb hK hw.2.1 hw.2.2 hS 5 0 rfl rfl (k := P 0 0) (by omega) (by decide) dX1_takesGloom_39 (fun H locs hP hD hS => ?_)
      have hw : wdH D z (([(rd, .inr (1, [.ref (d 0), .ref (rk 0), .ref (rk 1), .ref (rk 2), .int (nI (P 0 6)), .int kd, .int nv])), ((rk 0), .inl (ka 0, 5, .inl (kf))), ((rk 1), .inl (ka 0, 5, .inl (nf))), ((rk 2), .inl (ka 0, 5, .inl (mf))), ((d 0), .inr (8, [.ref (d 1), .ref (d 2), .ref (d 3), .int (nI (P 0 0)), .int (nI (P 0 1)), .int (nI (P 0 2))])), ((d 1), .inl (ka 0, 6, .inl (upd wf (P 0 0) (nI ((c9 - 48).toNat))))), ((d 2), .inl (ka 2, 5, .inr (.inr (.inr (.inr (tf)))))), ((d 3), .inl (ka 0, 5, .inl (df)))] : va_W) ++ R) H := ⟨Nat.le_trans hz0 hS.1, hP, hD⟩
      refine lv_aload_n hx hb dX1_takesGloom_40 rfl (lv_at hl 0 rfl) ?_
      refine va_get (D := D) (ci := 1) (v := .ref (d 0)) (C := RX1) (T := TX1) (N := 7) hx hb hts inX1 hown hK hw.2.1 0 rfl rfl 0 (by decide) (hts _ wd_74) (fun _ h9 => h9) rfl dX1_takesGloom_41 ?_
      refine lv_dup hx hb dX1_takesGloom_44 rfl ?_
      refine va_get (D := D) (ci := 8) (v := .int (nI (P 0 0))) (C := RX8) (T := TX8) (N := 6) hx hb hts inX8 hown hK hw.2.1 4 rfl rfl 3 (by decide) (hts _ wd_50) (fun _ h9 => h9) rfl dX1_takesGloom_45 ?_
      refine lv_iconst (v := nI 1) hx hb dX1_takesGloom_48 (by decide) ?_
      refine n_iadd hx hb dX1_takesGloom_49 ?_
      refine va_put (D := D) (ci := 8) (v := .int (nI ((P 0 0) + 1))) (ty := .int) (C := RX8) (T := TX8) (N := 6) hx hb hts inX8 tyX8 tyX8_ok nmX8 hown hK hw.2.1 hw.2.2 hS 4 rfl rfl 3 (by decide) (hts _ wd_50) (fun _ h9 => h9) rfl (by decide +kernel) rfl rfl (Nat.le_of_ble_eq_true rfl) dX1_takesGloom_50 (fun H locs hP hD hS => ?_)
      have hw : wdH D z (([(rd, .inr (1, [.ref (d 0), .ref (rk 0), .ref (rk 1), .ref (rk 2), .int (nI (P 0 6)), .int kd, .int nv])), ((rk 0), .inl (ka 0, 5, .inl (kf))), ((rk 1), .inl (ka 0, 5, .inl (nf))), ((rk 2), .inl (ka 0, 5, .inl (mf))), ((d 0), .inr (8, [.ref (d 1), .ref (d 2), .ref (d 3), .int (nI ((P 0 0) + 1)), .int (nI (P 0 1)), .int (nI (P 0 2))])), ((d 1), .inl (ka 0, 6, .inl (upd wf (P 0 0) (nI ((c9 - 48).toNat))))), ((d 2), .inl (ka 2, 5, .inr (.inr (.inr (.inr (tf)))))), ((d 3), .inl (ka 0, 5, .inl (df)))] : va_W) ++ R) H := ⟨Nat.le_trans hz0 hS.1, hP, hD⟩
      refine lv_aload_n hx hb dX1_takesGloom_53 rfl (lv_at hl 0 rfl) ?_
      refine lv_iconst (v := nI 1) hx hb dX1_takesGloom_54 (by decide) ?_
      refine lv_iconst (v := nI 2) hx hb dX1_takesGloom_55 (by decide) ?_
      refine mu_i (mu_runV (c_X1_goesOn l D ka z rd (d 0) (rk 0) (rk 1) (rk 2) 1 2 (nI (P 0 6)) kd nv (by decide) (([((rk 0), .inl (ka 0, 5, .inl (kf))), ((rk 1), .inl (ka 0, 5, .inl (nf))), ((rk 2), .inl (ka 0, 5, .inl (mf))), ((d 0), .inr (8, [.ref (d 1), .ref (d 2), .ref (d 3), .int (nI ((P 0 0) + 1)), .int (nI (P 0 1)), .int (nI (P 0 2))])), ((d 1), .inl (ka 0, 6, .inl (upd wf (P 0 0) (nI ((c9 - 48).toNat))))), ((d 2), .inl (ka 2, 5, .inr (.inr (.inr (.inr (tf)))))), ((d 3), .inl (ka 0, 5, .inl (df)))] : va_W) ++ R)) X wd_221 wd_218 wd_219 wd_220 wd_2 on_X1_goesOn ⟨Nat.le_of_ble_eq_true rfl, Nat.le_of_ble_eq_true rfl⟩ (va_recv hK hw.2.1 (ci := 1) (q0 := 0) rfl rfl) hw hl.1 rfl (Nat.le_of_ble_eq_true rfl) ⟨Nat.le_of_ble_eq_true rfl, Nat.le_of_ble_eq_true rfl⟩ dX1_takesGloom_56) hS (fun r_5 u_4 H locs hp_u_4 hw hS => ?_)
      obtain ⟨rfl, rfl⟩ := hp_u_4
      have hw : wdH D z (([(rd, .inr (1, [.ref (d 0), .ref (rk 0), .ref (rk 1), .ref (rk 2), .int (nI 2), .int kd, .int nv])), ((rk 0), .inl (ka 0, 5, .inl (kf))), ((rk 1), .inl (ka 0, 5, .inl (nf))), ((rk 2), .inl (ka 0, 5, .inl (mf))), ((d 0), .inr (8, [.ref (d 1), .ref (d 2), .ref (d 3), .int (nI ((P 0 0) + 1)), .int (nI (P 0 1)), .int (nI (P 0 2))])), ((d 1), .inl (ka 0, 6, .inl (upd wf (P 0 0) (nI ((c9 - 48).toNat))))), ((d 2), .inl (ka 2, 5, .inr (.inr (.inr (.inr (tf)))))), ((d 3), .inl (ka 0, 5, .inl (df)))] : va_W) ++ R) H := hw
      exact hret _ _ _ _ _ _ _ _ dX1_takesGloom_59 hS hw (Nat.zero_le _) (Nat.zero_le _) (by decide) (rpo_s (P2 := up (up (up P 1 (P 0 0) (c9 - 48).toNat) 0 0 (P 0 0 + 1)) 0 6 2) (hg.trans (pgl_s (by omega))) hI ⟨fun j hj => upd_in rfl hj (fun q => hR.1.1 j q), hR.1.2⟩ (fun q => absurd (show 4 ≤ 2 from q) (by decide)) (fun q => absurd (show 5 ≤ 2 from q) (by decide)))
    · refine lv_iconst (v := nI 0) hx hb dX1_takesGloom_19 (by decide) ?_
      exact hret _ _ _ _ _ _ _ _ dX1_takesGloom_20 hS hw (Nat.zero_le _) (Nat.zero_le _) (by decide) (rpo_n (hg.trans (pgl_n (by omega))))
set_option maxRecDepth 100000 in
set_option maxHeartbeats 4000000 in
theorem c_X1_takesKind (l : Launch) (D : va_G) (ka : Nat → ClassId) (z : Nat) (rd : Nat) (d rk : Nat → Nat) (P : NN) (kd nv : Int32) (wf df : Nat → Int32) (tf : Nat → Option Nat) (kf nf mf : Nat → Int32) (hR : RS P kd nv wf df kf nf mf) (c1 : Int32) (c9 : Int) (hc1 : c1.toInt = c9) (R : va_W) (h6 : P 0 6 = 3) : MU l D ka z yX1_takesKind cX1_takesKind 2 (some .boolean) 1 0 0 [.ref rd, .int c1] (rwd ka rd d rk (nI (P 0 6)) kd nv (P 0 0) (P 0 1) (P 0 2) wf df tf kf nf mf ++ R) (Qi D z (fun r w => rpo ka rd d rk P wf df tf kf nf mf R c9 r w)) := by
  refine MU.ofZ (by decide) (Nat.le_of_ble_eq_true rfl) ?_
  intro p e s m args below meth c Q X hw hS hret ls hl
  obtain ⟨hx, hb, hml, hown, hts, hE⟩ := id X
  have hK := hE.1
  have hz0 := hw.1
  have hl : lv_has ls 2 [(0, .ref rd), (1, .int c1)] := hl
  have hI := hR.2.1
  obtain ⟨⟨hi0, hi1, hi2, hi6, hi7, hi8, hi9, hi10⟩, -⟩ := id hI
  refine lv_iload_n hx hb dX1_takesKind_0 rfl (lv_at hl 1 rfl) ?_
  have hT_1 : c1.toInt = c9 := hc1
  by_cases cs_2 : c9 = 115
  · refine lv_tableIn (off := 43) (tgt := 44) hx hb dX1_takesKind_1 (by rw [hT_1, cs_2]; decide) (by rw [hT_1, cs_2]; decide) (by rw [hT_1, cs_2]; rfl) (by decide) ?_
    refine lv_aload_n hx hb dX1_takesKind_44 rfl (lv_at hl 0 rfl) ?_
    refine lv_iconst (v := nI 1) hx hb dX1_takesKind_45 (by decide) ?_
    refine va_put (D := D) (ci := 1) (v := .int (nI 1)) (ty := .int) (C := RX1) (T := TX1) (N := 7) hx hb hts inX1 tyX1 tyX1_ok nmX1 hown hK hw.2.1 hw.2.2 hS 0 rfl rfl 5 (by decide) (hts _ wd_79) (fun _ h9 => h9) rfl (by decide +kernel) rfl rfl (Nat.le_of_ble_eq_true rfl) dX1_takesKind_46 (fun H locs hP hD hS => ?_)
    have hw : wdH D z (([(rd, .inr (1, [.ref (d 0), .ref (rk 0), .ref (rk 1), .ref (rk 2), .int (nI (P 0 6)), .int (nI 1), .int nv])), ((rk 0), .inl (ka 0, 5, .inl (kf))), ((rk 1), .inl (ka 0, 5, .inl (nf))), ((rk 2), .inl (ka 0, 5, .inl (mf))), ((d 0), .inr (8, [.ref (d 1), .ref (d 2), .ref (d 3), .int (nI (P 0 0)), .int (nI (P 0 1)), .int (nI (P 0 2))])), ((d 1), .inl (ka 0, 6, .inl (wf))), ((d 2), .inl (ka 2, 5, .inr (.inr (.inr (.inr (tf)))))), ((d 3), .inl (ka 0, 5, .inl (df)))] : va_W) ++ R) H := ⟨Nat.le_trans hz0 hS.1, hP, hD⟩
    refine lv_goto (tgt := 62) hx hb dX1_takesKind_49 (by decide) ?_
    refine lv_aload_n hx hb dX1_takesKind_62 rfl (lv_at hl 0 rfl) ?_
    refine lv_iconst (v := nI 1) hx hb dX1_takesKind_63 (by decide) ?_
    refine lv_iconst (v := nI 4) hx hb dX1_takesKind_64 (by decide) ?_
    refine mu_i (mu_runV (c_X1_goesOn l D ka z rd (d 0) (rk 0) (rk 1) (rk 2) 1 4 (nI (P 0 6)) (nI 1) nv (by decide) (([((rk 0), .inl (ka 0, 5, .inl (kf))), ((rk 1), .inl (ka 0, 5, .inl (nf))), ((rk 2), .inl (ka 0, 5, .inl (mf))), ((d 0), .inr (8, [.ref (d 1), .ref (d 2), .ref (d 3), .int (nI (P 0 0)), .int (nI (P 0 1)), .int (nI (P 0 2))])), ((d 1), .inl (ka 0, 6, .inl (wf))), ((d 2), .inl (ka 2, 5, .inr (.inr (.inr (.inr (tf)))))), ((d 3), .inl (ka 0, 5, .inl (df)))] : va_W) ++ R)) X wd_221 wd_218 wd_219 wd_220 wd_2 on_X1_goesOn ⟨Nat.le_of_ble_eq_true rfl, Nat.le_of_ble_eq_true rfl⟩ (va_recv hK hw.2.1 (ci := 1) (q0 := 0) rfl rfl) hw hl.1 rfl (Nat.le_of_ble_eq_true rfl) ⟨Nat.le_of_ble_eq_true rfl, Nat.le_of_ble_eq_true rfl⟩ dX1_takesKind_65) hS (fun r_4 u_3 H locs hp_u_3 hw hS => ?_)
    obtain ⟨rfl, rfl⟩ := hp_u_3
    have hw : wdH D z (([(rd, .inr (1, [.ref (d 0), .ref (rk 0), .ref (rk 1), .ref (rk 2), .int (nI 4), .int (nI 1), .int nv])), ((rk 0), .inl (ka 0, 5, .inl (kf))), ((rk 1), .inl (ka 0, 5, .inl (nf))), ((rk 2), .inl (ka 0, 5, .inl (mf))), ((d 0), .inr (8, [.ref (d 1), .ref (d 2), .ref (d 3), .int (nI (P 0 0)), .int (nI (P 0 1)), .int (nI (P 0 2))])), ((d 1), .inl (ka 0, 6, .inl (wf))), ((d 2), .inl (ka 2, 5, .inr (.inr (.inr (.inr (tf)))))), ((d 3), .inl (ka 0, 5, .inl (df)))] : va_W) ++ R) H := hw
    exact hret _ _ _ _ _ _ _ _ dX1_takesKind_68 hS hw (Nat.zero_le _) (Nat.zero_le _) (by decide) (rpo_s (P2 := up (up P 0 7 1) 0 6 4) (by rw [show c9 = 115 by omega]; exact pst3s h6) hI hR.1 (fun _ => rfl) (fun q => absurd (show 5 ≤ 4 from q) (by decide)))
  by_cases cs_5 : c9 = 116
  · refine lv_tableIn (off := 35) (tgt := 36) hx hb dX1_takesKind_1 (by rw [hT_1, cs_5]; decide) (by rw [hT_1, cs_5]; decide) (by rw [hT_1, cs_5]; rfl) (by decide) ?_
    refine lv_aload_n hx hb dX1_takesKind_36 rfl (lv_at hl 0 rfl) ?_
    refine lv_iconst (v := nI 0) hx hb dX1_takesKind_37 (by decide) ?_
    refine va_put (D := D) (ci := 1) (v := .int (nI 0)) (ty := .int) (C := RX1) (T := TX1) (N := 7) hx hb hts inX1 tyX1 tyX1_ok nmX1 hown hK hw.2.1 hw.2.2 hS 0 rfl rfl 5 (by decide) (hts _ wd_79) (fun _ h9 => h9) rfl (by decide +kernel) rfl rfl (Nat.le_of_ble_eq_true rfl) dX1_takesKind_38 (fun H locs hP hD hS => ?_)
    have hw : wdH D z (([(rd, .inr (1, [.ref (d 0), .ref (rk 0), .ref (rk 1), .ref (rk 2), .int (nI (P 0 6)), .int (nI 0), .int nv])), ((rk 0), .inl (ka 0, 5, .inl (kf))), ((rk 1), .inl (ka 0, 5, .inl (nf))), ((rk 2), .inl (ka 0, 5, .inl (mf))), ((d 0), .inr (8, [.ref (d 1), .ref (d 2), .ref (d 3), .int (nI (P 0 0)), .int (nI (P 0 1)), .int (nI (P 0 2))])), ((d 1), .inl (ka 0, 6, .inl (wf))), ((d 2), .inl (ka 2, 5, .inr (.inr (.inr (.inr (tf)))))), ((d 3), .inl (ka 0, 5, .inl (df)))] : va_W) ++ R) H := ⟨Nat.le_trans hz0 hS.1, hP, hD⟩
    refine lv_goto (tgt := 62) hx hb dX1_takesKind_41 (by decide) ?_
    refine lv_aload_n hx hb dX1_takesKind_62 rfl (lv_at hl 0 rfl) ?_
    refine lv_iconst (v := nI 1) hx hb dX1_takesKind_63 (by decide) ?_
    refine lv_iconst (v := nI 4) hx hb dX1_takesKind_64 (by decide) ?_
    refine mu_i (mu_runV (c_X1_goesOn l D ka z rd (d 0) (rk 0) (rk 1) (rk 2) 1 4 (nI (P 0 6)) (nI 0) nv (by decide) (([((rk 0), .inl (ka 0, 5, .inl (kf))), ((rk 1), .inl (ka 0, 5, .inl (nf))), ((rk 2), .inl (ka 0, 5, .inl (mf))), ((d 0), .inr (8, [.ref (d 1), .ref (d 2), .ref (d 3), .int (nI (P 0 0)), .int (nI (P 0 1)), .int (nI (P 0 2))])), ((d 1), .inl (ka 0, 6, .inl (wf))), ((d 2), .inl (ka 2, 5, .inr (.inr (.inr (.inr (tf)))))), ((d 3), .inl (ka 0, 5, .inl (df)))] : va_W) ++ R)) X wd_221 wd_218 wd_219 wd_220 wd_2 on_X1_goesOn ⟨Nat.le_of_ble_eq_true rfl, Nat.le_of_ble_eq_true rfl⟩ (va_recv hK hw.2.1 (ci := 1) (q0 := 0) rfl rfl) hw hl.1 rfl (Nat.le_of_ble_eq_true rfl) ⟨Nat.le_of_ble_eq_true rfl, Nat.le_of_ble_eq_true rfl⟩ dX1_takesKind_65) hS (fun r_7 u_6 H locs hp_u_6 hw hS => ?_)
    obtain ⟨rfl, rfl⟩ := hp_u_6
    have hw : wdH D z (([(rd, .inr (1, [.ref (d 0), .ref (rk 0), .ref (rk 1), .ref (rk 2), .int (nI 4), .int (nI 0), .int nv])), ((rk 0), .inl (ka 0, 5, .inl (kf))), ((rk 1), .inl (ka 0, 5, .inl (nf))), ((rk 2), .inl (ka 0, 5, .inl (mf))), ((d 0), .inr (8, [.ref (d 1), .ref (d 2), .ref (d 3), .int (nI (P 0 0)), .int (nI (P 0 1)), .int (nI (P 0 2))])), ((d 1), .inl (ka 0, 6, .inl (wf))), ((d 2), .inl (ka 2, 5, .inr (.inr (.inr (.inr (tf)))))), ((d 3), .inl (ka 0, 5, .inl (df)))] : va_W) ++ R) H := hw
    exact hret _ _ _ _ _ _ _ _ dX1_takesKind_68 hS hw (Nat.zero_le _) (Nat.zero_le _) (by decide) (rpo_s (P2 := up (up P 0 7 0) 0 6 4) (by rw [show c9 = 116 by omega]; exact pst3t h6) hI hR.1 (fun _ => rfl) (fun q => absurd (show 5 ≤ 4 from q) (by decide)))
  by_cases cs_8 : c9 = 117
  · refine lv_tableIn (off := 59) (tgt := 60) hx hb dX1_takesKind_1 (by rw [hT_1, cs_8]; decide) (by rw [hT_1, cs_8]; decide) (by rw [hT_1, cs_8]; rfl) (by decide) ?_
    refine lv_iconst (v := nI 0) hx hb dX1_takesKind_60 (by decide) ?_
    exact hret _ _ _ _ _ _ _ _ dX1_takesKind_61 hS hw (Nat.zero_le _) (Nat.zero_le _) (by decide) (rpo_n (pst3n h6 (by omega) (by omega) (by omega)))
  by_cases cs_9 : c9 = 118
  · refine lv_tableIn (off := 59) (tgt := 60) hx hb dX1_takesKind_1 (by rw [hT_1, cs_9]; decide) (by rw [hT_1, cs_9]; decide) (by rw [hT_1, cs_9]; rfl) (by decide) ?_
    refine lv_iconst (v := nI 0) hx hb dX1_takesKind_60 (by decide) ?_
    exact hret _ _ _ _ _ _ _ _ dX1_takesKind_61 hS hw (Nat.zero_le _) (Nat.zero_le _) (by decide) (rpo_n (pst3n h6 (by omega) (by omega) (by omega)))
  by_cases cs_10 : c9 = 119
  · refine lv_tableIn (off := 51) (tgt := 52) hx hb dX1_takesKind_1 (by rw [hT_1, cs_10]; decide) (by rw [hT_1, cs_10]; decide) (by rw [hT_1, cs_10]; rfl) (by decide) ?_
    refine lv_aload_n hx hb dX1_takesKind_52 rfl (lv_at hl 0 rfl) ?_
    refine lv_iconst (v := nI 2) hx hb dX1_takesKind_53 (by decide) ?_
    refine va_put (D := D) (ci := 1) (v := .int (nI 2)) (ty := .int) (C := RX1) (T := TX1) (N := 7) hx hb hts inX1 tyX1 tyX1_ok nmX1 hown hK hw.2.1 hw.2.2 hS 0 rfl rfl 5 (by decide) (hts _ wd_79) (fun _ h9 => h9) rfl (by decide +kernel) rfl rfl (Nat.le_of_ble_eq_true rfl) dX1_takesKind_54 (fun H locs hP hD hS => ?_)
    have hw : wdH D z (([(rd, .inr (1, [.ref (d 0), .ref (rk 0), .ref (rk 1), .ref (rk 2), .int (nI (P 0 6)), .int (nI 2), .int nv])), ((rk 0), .inl (ka 0, 5, .inl (kf))), ((rk 1), .inl (ka 0, 5, .inl (nf))), ((rk 2), .inl (ka 0, 5, .inl (mf))), ((d 0), .inr (8, [.ref (d 1), .ref (d 2), .ref (d 3), .int (nI (P 0 0)), .int (nI (P 0 1)), .int (nI (P 0 2))])), ((d 1), .inl (ka 0, 6, .inl (wf))), ((d 2), .inl (ka 2, 5, .inr (.inr (.inr (.inr (tf)))))), ((d 3), .inl (ka 0, 5, .inl (df)))] : va_W) ++ R) H := ⟨Nat.le_trans hz0 hS.1, hP, hD⟩
    refine lv_goto (tgt := 62) hx hb dX1_takesKind_57 (by decide) ?_
    refine lv_aload_n hx hb dX1_takesKind_62 rfl (lv_at hl 0 rfl) ?_
    refine lv_iconst (v := nI 1) hx hb dX1_takesKind_63 (by decide) ?_
    refine lv_iconst (v := nI 4) hx hb dX1_takesKind_64 (by decide) ?_
    refine mu_i (mu_runV (c_X1_goesOn l D ka z rd (d 0) (rk 0) (rk 1) (rk 2) 1 4 (nI (P 0 6)) (nI 2) nv (by decide) (([((rk 0), .inl (ka 0, 5, .inl (kf))), ((rk 1), .inl (ka 0, 5, .inl (nf))), ((rk 2), .inl (ka 0, 5, .inl (mf))), ((d 0), .inr (8, [.ref (d 1), .ref (d 2), .ref (d 3), .int (nI (P 0 0)), .int (nI (P 0 1)), .int (nI (P 0 2))])), ((d 1), .inl (ka 0, 6, .inl (wf))), ((d 2), .inl (ka 2, 5, .inr (.inr (.inr (.inr (tf)))))), ((d 3), .inl (ka 0, 5, .inl (df)))] : va_W) ++ R)) X wd_221 wd_218 wd_219 wd_220 wd_2 on_X1_goesOn ⟨Nat.le_of_ble_eq_true rfl, Nat.le_of_ble_eq_true rfl⟩ (va_recv hK hw.2.1 (ci := 1) (q0 := 0) rfl rfl) hw hl.1 rfl (Nat.le_of_ble_eq_true rfl) ⟨Nat.le_of_ble_eq_true rfl, Nat.le_of_ble_eq_true rfl⟩ dX1_takesKind_65) hS (fun r_12 u_11 H locs hp_u_11 hw hS => ?_)
    obtain ⟨rfl, rfl⟩ := hp_u_11
    have hw : wdH D z (([(rd, .inr (1, [.ref (d 0), .ref (rk 0), .ref (rk 1), .ref (rk 2), .int (nI 4), .int (nI 2), .int nv])), ((rk 0), .inl (ka 0, 5, .inl (kf))), ((rk 1), .inl (ka 0, 5, .inl (nf))), ((rk 2), .inl (ka 0, 5, .inl (mf))), ((d 0), .inr (8, [.ref (d 1), .ref (d 2), .ref (d 3), .int (nI (P 0 0)), .int (nI (P 0 1)), .int (nI (P 0 2))])), ((d 1), .inl (ka 0, 6, .inl (wf))), ((d 2), .inl (ka 2, 5, .inr (.inr (.inr (.inr (tf)))))), ((d 3), .inl (ka 0, 5, .inl (df)))] : va_W) ++ R) H := hw
    exact hret _ _ _ _ _ _ _ _ dX1_takesKind_68 hS hw (Nat.zero_le _) (Nat.zero_le _) (by decide) (rpo_s (P2 := up (up P 0 7 2) 0 6 4) (by rw [show c9 = 119 by omega]; exact pst3w h6) hI hR.1 (fun _ => rfl) (fun q => absurd (show 5 ≤ 4 from q) (by decide)))
  refine lv_tableOut (tgt := 60) hx hb dX1_takesKind_1 (by rw [hT_1]; omega) (by decide) ?_
  refine lv_iconst (v := nI 0) hx hb dX1_takesKind_60 (by decide) ?_
  exact hret _ _ _ _ _ _ _ _ dX1_takesKind_61 hS hw (Nat.zero_le _) (Nat.zero_le _) (by decide) (rpo_n (pst3n h6 (by omega) (by omega) (by omega)))
set_option maxRecDepth 100000 in
set_option maxHeartbeats 4000000 in
theorem c_X1_takesTens (l : Launch) (D : va_G) (ka : Nat → ClassId) (z : Nat) (rd : Nat) (d rk : Nat → Nat) (P : NN) (kd nv : Int32) (wf df : Nat → Int32) (tf : Nat → Option Nat) (kf nf mf : Nat → Int32) (hR : RS P kd nv wf df kf nf mf) (c1 : Int32) (c9 : Int) (hc1 : c1.toInt = c9) (R : va_W) (h6 : P 0 6 = 4) : MU l D ka z yX1_takesTens cX1_takesTens 2 (some .boolean) 1 0 0 [.ref rd, .int c1] (rwd ka rd d rk (nI (P 0 6)) kd nv (P 0 0) (P 0 1) (P 0 2) wf df tf kf nf mf ++ R) (Qi D z (fun r w => rpo ka rd d rk P wf df tf kf nf mf R c9 r w)) := by
  refine MU.ofZ (by decide) (Nat.le_of_ble_eq_true rfl) ?_
  intro p e s m args below meth c Q X hw hS hret ls hl
  obtain ⟨hx, hb, hml, hown, hts, hE⟩ := id X
  have hK := hE.1
  have hz0 := hw.1
  have hl : lv_has ls 2 [(0, .ref rd), (1, .int c1)] := hl
  have hI := hR.2.1
  obtain ⟨⟨hi0, hi1, hi2, hi6, hi7, hi8, hi9, hi10⟩, -⟩ := id hI
  refine lv_aload_n hx hb dX1_takesTens_0 rfl (lv_at hl 0 rfl) ?_
  refine lv_bipush (v := nI 10) hx hb dX1_takesTens_1 (by decide) ?_
  refine lv_iload_n hx hb dX1_takesTens_3 rfl (lv_at hl 1 rfl) ?_
  refine lv_bipush (v := nI 48) hx hb dX1_takesTens_4 (by decide) ?_
  refine lv_isub hx hb dX1_takesTens_6 ?_
  refine lv_imul hx hb dX1_takesTens_7 ?_
  refine va_put (D := D) (ci := 1) (v := .int ((nI 10) * (c1 - (nI 48)))) (ty := .int) (C := RX1) (T := TX1) (N := 7) hx hb hts inX1 tyX1 tyX1_ok nmX1 hown hK hw.2.1 hw.2.2 hS 0 rfl rfl 6 (by decide) (hts _ wd_80) (fun _ h9 => h9) rfl (by decide +kernel) rfl rfl (Nat.le_of_ble_eq_true rfl) dX1_takesTens_8 (fun H locs hP hD hS => ?_)
  have hw : wdH D z (([(rd, .inr (1, [.ref (d 0), .ref (rk 0), .ref (rk 1), .ref (rk 2), .int (nI (P 0 6)), .int kd, .int ((nI 10) * (c1 - (nI 48)))])), ((rk 0), .inl (ka 0, 5, .inl (kf))), ((rk 1), .inl (ka 0, 5, .inl (nf))), ((rk 2), .inl (ka 0, 5, .inl (mf))), ((d 0), .inr (8, [.ref (d 1), .ref (d 2), .ref (d 3), .int (nI (P 0 0)), .int (nI (P 0 1)), .int (nI (P 0 2))])), ((d 1), .inl (ka 0, 6, .inl (wf))), ((d 2), .inl (ka 2, 5, .inr (.inr (.inr (.inr (tf)))))), ((d 3), .inl (ka 0, 5, .inl (df)))] : va_W) ++ R) H := ⟨Nat.le_trans hz0 hS.1, hP, hD⟩
  refine lv_aload_n hx hb dX1_takesTens_11 rfl (lv_at hl 0 rfl) ?_
  refine lv_iload_n hx hb dX1_takesTens_12 rfl (lv_at hl 1 rfl) ?_
  refine vp_callSi (ro_runS (c_X1_isDigit l D ka c1 _ hc1) X wd_228 wd_226 wd_227 wd_2 on_X1_isDigit ⟨Nat.le_of_ble_eq_true rfl, Nat.le_of_ble_eq_true rfl⟩ trivial hl.1 rfl (Nat.le_of_ble_eq_true rfl) ⟨(Nat.zero_le _), (Nat.zero_le _)⟩ dX1_takesTens_13) (fun r_1 hr_1 => ?_)
  subst hr_1
  refine lv_iconst (v := nI 5) hx hb dX1_takesTens_16 (by decide) ?_
  by_cases hdg : 48 ≤ c9 ∧ c9 ≤ 57
  · rw [bI_t hdg]
    refine W.eq (g2 := F0 m 17 ls [.int (nI 5), .int (nI 1), .ref rd]) rfl ?_
    refine mu_i (mu_runV (c_X1_goesOn l D ka z rd (d 0) (rk 0) (rk 1) (rk 2) 1 5 (nI (P 0 6)) kd ((nI 10) * (c1 - (nI 48))) (by decide) (([((rk 0), .inl (ka 0, 5, .inl (kf))), ((rk 1), .inl (ka 0, 5, .inl (nf))), ((rk 2), .inl (ka 0, 5, .inl (mf))), ((d 0), .inr (8, [.ref (d 1), .ref (d 2), .ref (d 3), .int (nI (P 0 0)), .int (nI (P 0 1)), .int (nI (P 0 2))])), ((d 1), .inl (ka 0, 6, .inl (wf))), ((d 2), .inl (ka 2, 5, .inr (.inr (.inr (.inr (tf)))))), ((d 3), .inl (ka 0, 5, .inl (df)))] : va_W) ++ R)) X wd_221 wd_218 wd_219 wd_220 wd_2 on_X1_goesOn ⟨Nat.le_of_ble_eq_true rfl, Nat.le_of_ble_eq_true rfl⟩ (va_recv hK hw.2.1 (ci := 1) (q0 := 0) rfl rfl) hw hl.1 rfl (Nat.le_of_ble_eq_true rfl) ⟨Nat.le_of_ble_eq_true rfl, Nat.le_of_ble_eq_true rfl⟩ dX1_takesTens_17) hS (fun r_3 u_2 H locs hp_u_2 hw hS => ?_)
    obtain ⟨rfl, rfl⟩ := hp_u_2
    have hw : wdH D z (([(rd, .inr (1, [.ref (d 0), .ref (rk 0), .ref (rk 1), .ref (rk 2), .int (nI 5), .int kd, .int ((nI 10) * (c1 - (nI 48)))])), ((rk 0), .inl (ka 0, 5, .inl (kf))), ((rk 1), .inl (ka 0, 5, .inl (nf))), ((rk 2), .inl (ka 0, 5, .inl (mf))), ((d 0), .inr (8, [.ref (d 1), .ref (d 2), .ref (d 3), .int (nI (P 0 0)), .int (nI (P 0 1)), .int (nI (P 0 2))])), ((d 1), .inl (ka 0, 6, .inl (wf))), ((d 2), .inl (ka 2, 5, .inr (.inr (.inr (.inr (tf)))))), ((d 3), .inl (ka 0, 5, .inl (df)))] : va_W) ++ R) H := hw
    exact hret _ _ _ _ _ _ _ _ dX1_takesTens_20 hS hw (Nat.zero_le _) (Nat.zero_le _) (by decide) (rpo_s (P2 := up (up P 0 8 (10 * (c9 - 48).toNat)) 0 6 5) (pst4 h6 hdg) hI hR.1 (fun _ => hR.2.2.1 (by omega)) (fun _ => by rw [dg_sub hc1 hdg.1 hdg.2, pk_mul]; rfl))
  · rw [bI_f hdg]
    refine W.eq (g2 := F0 m 17 ls [.int (nI 5), .int (nI 0), .ref rd]) rfl ?_
    refine mu_i (mu_runV (c_X1_goesOn l D ka z rd (d 0) (rk 0) (rk 1) (rk 2) 0 5 (nI (P 0 6)) kd ((nI 10) * (c1 - (nI 48))) (by decide) (([((rk 0), .inl (ka 0, 5, .inl (kf))), ((rk 1), .inl (ka 0, 5, .inl (nf))), ((rk 2), .inl (ka 0, 5, .inl (mf))), ((d 0), .inr (8, [.ref (d 1), .ref (d 2), .ref (d 3), .int (nI (P 0 0)), .int (nI (P 0 1)), .int (nI (P 0 2))])), ((d 1), .inl (ka 0, 6, .inl (wf))), ((d 2), .inl (ka 2, 5, .inr (.inr (.inr (.inr (tf)))))), ((d 3), .inl (ka 0, 5, .inl (df)))] : va_W) ++ R)) X wd_221 wd_218 wd_219 wd_220 wd_2 on_X1_goesOn ⟨Nat.le_of_ble_eq_true rfl, Nat.le_of_ble_eq_true rfl⟩ (va_recv hK hw.2.1 (ci := 1) (q0 := 0) rfl rfl) hw hl.1 rfl (Nat.le_of_ble_eq_true rfl) ⟨Nat.le_of_ble_eq_true rfl, Nat.le_of_ble_eq_true rfl⟩ dX1_takesTens_17) hS (fun r_5 u_4 H locs hp_u_4 hw hS => ?_)
    obtain ⟨rfl, rfl⟩ := hp_u_4
    have hw : wdH D z (([(rd, .inr (1, [.ref (d 0), .ref (rk 0), .ref (rk 1), .ref (rk 2), .int (nI (P 0 6)), .int kd, .int ((nI 10) * (c1 - (nI 48)))])), ((rk 0), .inl (ka 0, 5, .inl (kf))), ((rk 1), .inl (ka 0, 5, .inl (nf))), ((rk 2), .inl (ka 0, 5, .inl (mf))), ((d 0), .inr (8, [.ref (d 1), .ref (d 2), .ref (d 3), .int (nI (P 0 0)), .int (nI (P 0 1)), .int (nI (P 0 2))])), ((d 1), .inl (ka 0, 6, .inl (wf))), ((d 2), .inl (ka 2, 5, .inr (.inr (.inr (.inr (tf)))))), ((d 3), .inl (ka 0, 5, .inl (df)))] : va_W) ++ R) H := hw
    exact hret _ _ _ _ _ _ _ _ dX1_takesTens_20 hS hw (Nat.zero_le _) (Nat.zero_le _) (by decide) (rpo_n (pst4n h6 hdg))
set_option maxRecDepth 100000 in
set_option maxHeartbeats 4000000 in
theorem c_X1_takesOnes (l : Launch) (D : va_G) (ka : Nat → ClassId) (z : Nat) (rd : Nat) (d rk : Nat → Nat) (P : NN) (kd nv : Int32) (wf df : Nat → Int32) (tf : Nat → Option Nat) (kf nf mf : Nat → Int32) (hR : RS P kd nv wf df kf nf mf) (c1 : Int32) (c9 : Int) (hc1 : c1.toInt = c9) (R : va_W) (h6 : P 0 6 = 5) : MU l D ka z yX1_takesOnes cX1_takesOnes 2 (some .boolean) 1 0 0 [.ref rd, .int c1] (rwd ka rd d rk (nI (P 0 6)) kd nv (P 0 0) (P 0 1) (P 0 2) wf df tf kf nf mf ++ R) (Qi D z (fun r w => rpo ka rd d rk P wf df tf kf nf mf R c9 r w)) := by
  refine MU.ofZ (by decide) (Nat.le_of_ble_eq_true rfl) ?_
  intro p e s m args below meth c Q X hw hS hret ls hl
  obtain ⟨hx, hb, hml, hown, hts, hE⟩ := id X
  have hK := hE.1
  have hz0 := hw.1
  have hl : lv_has ls 2 [(0, .ref rd), (1, .int c1)] := hl
  have hI := hR.2.1
  obtain ⟨⟨hi0, hi1, hi2, hi6, hi7, hi8, hi9, hi10⟩, -⟩ := id hI
  refine lv_aload_n hx hb dX1_takesOnes_0 rfl (lv_at hl 0 rfl) ?_
  refine lv_dup hx hb dX1_takesOnes_1 rfl ?_
  refine va_get (D := D) (ci := 1) (v := .int nv) (C := RX1) (T := TX1) (N := 7) hx hb hts inX1 hown hK hw.2.1 0 rfl rfl 6 (by decide) (hts _ wd_80) (fun _ h9 => h9) rfl dX1_takesOnes_2 ?_
  refine lv_iload_n hx hb dX1_takesOnes_5 rfl (lv_at hl 1 rfl) ?_
  refine lv_bipush (v := nI 48) hx hb dX1_takesOnes_6 (by decide) ?_
  refine lv_isub hx hb dX1_takesOnes_8 ?_
  refine lv_iadd hx hb dX1_takesOnes_9 ?_
  refine va_put (D := D) (ci := 1) (v := .int (nv + (c1 - (nI 48)))) (ty := .int) (C := RX1) (T := TX1) (N := 7) hx hb hts inX1 tyX1 tyX1_ok nmX1 hown hK hw.2.1 hw.2.2 hS 0 rfl rfl 6 (by decide) (hts _ wd_80) (fun _ h9 => h9) rfl (by decide +kernel) rfl rfl (Nat.le_of_ble_eq_true rfl) dX1_takesOnes_10 (fun H locs hP hD hS => ?_)
  have hw : wdH D z (([(rd, .inr (1, [.ref (d 0), .ref (rk 0), .ref (rk 1), .ref (rk 2), .int (nI (P 0 6)), .int kd, .int (nv + (c1 - (nI 48)))])), ((rk 0), .inl (ka 0, 5, .inl (kf))), ((rk 1), .inl (ka 0, 5, .inl (nf))), ((rk 2), .inl (ka 0, 5, .inl (mf))), ((d 0), .inr (8, [.ref (d 1), .ref (d 2), .ref (d 3), .int (nI (P 0 0)), .int (nI (P 0 1)), .int (nI (P 0 2))])), ((d 1), .inl (ka 0, 6, .inl (wf))), ((d 2), .inl (ka 2, 5, .inr (.inr (.inr (.inr (tf)))))), ((d 3), .inl (ka 0, 5, .inl (df)))] : va_W) ++ R) H := ⟨Nat.le_trans hz0 hS.1, hP, hD⟩
  refine lv_aload_n hx hb dX1_takesOnes_13 rfl (lv_at hl 0 rfl) ?_
  refine lv_iload_n hx hb dX1_takesOnes_14 rfl (lv_at hl 1 rfl) ?_
  refine vp_callSi (ro_runS (c_X1_isDigit l D ka c1 _ hc1) X wd_228 wd_226 wd_227 wd_2 on_X1_isDigit ⟨Nat.le_of_ble_eq_true rfl, Nat.le_of_ble_eq_true rfl⟩ trivial hl.1 rfl (Nat.le_of_ble_eq_true rfl) ⟨(Nat.zero_le _), (Nat.zero_le _)⟩ dX1_takesOnes_15) (fun r_1 hr_1 => ?_)
  subst hr_1
  refine lv_bipush (v := nI 6) hx hb dX1_takesOnes_18 (by decide) ?_
  by_cases hdg : 48 ≤ c9 ∧ c9 ≤ 57
  · rw [bI_t hdg]
    refine W.eq (g2 := F0 m 20 ls [.int (nI 6), .int (nI 1), .ref rd]) rfl ?_
    refine mu_i (mu_runV (c_X1_goesOn l D ka z rd (d 0) (rk 0) (rk 1) (rk 2) 1 6 (nI (P 0 6)) kd (nv + (c1 - (nI 48))) (by decide) (([((rk 0), .inl (ka 0, 5, .inl (kf))), ((rk 1), .inl (ka 0, 5, .inl (nf))), ((rk 2), .inl (ka 0, 5, .inl (mf))), ((d 0), .inr (8, [.ref (d 1), .ref (d 2), .ref (d 3), .int (nI (P 0 0)), .int (nI (P 0 1)), .int (nI (P 0 2))])), ((d 1), .inl (ka 0, 6, .inl (wf))), ((d 2), .inl (ka 2, 5, .inr (.inr (.inr (.inr (tf)))))), ((d 3), .inl (ka 0, 5, .inl (df)))] : va_W) ++ R)) X wd_221 wd_218 wd_219 wd_220 wd_2 on_X1_goesOn ⟨Nat.le_of_ble_eq_true rfl, Nat.le_of_ble_eq_true rfl⟩ (va_recv hK hw.2.1 (ci := 1) (q0 := 0) rfl rfl) hw hl.1 rfl (Nat.le_of_ble_eq_true rfl) ⟨Nat.le_of_ble_eq_true rfl, Nat.le_of_ble_eq_true rfl⟩ dX1_takesOnes_20) hS (fun r_3 u_2 H locs hp_u_2 hw hS => ?_)
    obtain ⟨rfl, rfl⟩ := hp_u_2
    have hw : wdH D z (([(rd, .inr (1, [.ref (d 0), .ref (rk 0), .ref (rk 1), .ref (rk 2), .int (nI 6), .int kd, .int (nv + (c1 - (nI 48)))])), ((rk 0), .inl (ka 0, 5, .inl (kf))), ((rk 1), .inl (ka 0, 5, .inl (nf))), ((rk 2), .inl (ka 0, 5, .inl (mf))), ((d 0), .inr (8, [.ref (d 1), .ref (d 2), .ref (d 3), .int (nI (P 0 0)), .int (nI (P 0 1)), .int (nI (P 0 2))])), ((d 1), .inl (ka 0, 6, .inl (wf))), ((d 2), .inl (ka 2, 5, .inr (.inr (.inr (.inr (tf)))))), ((d 3), .inl (ka 0, 5, .inl (df)))] : va_W) ++ R) H := hw
    exact hret _ _ _ _ _ _ _ _ dX1_takesOnes_23 hS hw (Nat.zero_le _) (Nat.zero_le _) (by decide) (rpo_s (P2 := up (up P 0 8 (P 0 8 + (c9 - 48).toNat)) 0 6 6) (pst5 h6 hdg) hI hR.1 (fun _ => hR.2.2.1 (by omega)) (fun _ => by rw [dg_sub hc1 hdg.1 hdg.2, hR.2.2.2 (by omega), nI_add]; rfl))
  · rw [bI_f hdg]
    refine W.eq (g2 := F0 m 20 ls [.int (nI 6), .int (nI 0), .ref rd]) rfl ?_
    refine mu_i (mu_runV (c_X1_goesOn l D ka z rd (d 0) (rk 0) (rk 1) (rk 2) 0 6 (nI (P 0 6)) kd (nv + (c1 - (nI 48))) (by decide) (([((rk 0), .inl (ka 0, 5, .inl (kf))), ((rk 1), .inl (ka 0, 5, .inl (nf))), ((rk 2), .inl (ka 0, 5, .inl (mf))), ((d 0), .inr (8, [.ref (d 1), .ref (d 2), .ref (d 3), .int (nI (P 0 0)), .int (nI (P 0 1)), .int (nI (P 0 2))])), ((d 1), .inl (ka 0, 6, .inl (wf))), ((d 2), .inl (ka 2, 5, .inr (.inr (.inr (.inr (tf)))))), ((d 3), .inl (ka 0, 5, .inl (df)))] : va_W) ++ R)) X wd_221 wd_218 wd_219 wd_220 wd_2 on_X1_goesOn ⟨Nat.le_of_ble_eq_true rfl, Nat.le_of_ble_eq_true rfl⟩ (va_recv hK hw.2.1 (ci := 1) (q0 := 0) rfl rfl) hw hl.1 rfl (Nat.le_of_ble_eq_true rfl) ⟨Nat.le_of_ble_eq_true rfl, Nat.le_of_ble_eq_true rfl⟩ dX1_takesOnes_20) hS (fun r_5 u_4 H locs hp_u_4 hw hS => ?_)
    obtain ⟨rfl, rfl⟩ := hp_u_4
    have hw : wdH D z (([(rd, .inr (1, [.ref (d 0), .ref (rk 0), .ref (rk 1), .ref (rk 2), .int (nI (P 0 6)), .int kd, .int (nv + (c1 - (nI 48)))])), ((rk 0), .inl (ka 0, 5, .inl (kf))), ((rk 1), .inl (ka 0, 5, .inl (nf))), ((rk 2), .inl (ka 0, 5, .inl (mf))), ((d 0), .inr (8, [.ref (d 1), .ref (d 2), .ref (d 3), .int (nI (P 0 0)), .int (nI (P 0 1)), .int (nI (P 0 2))])), ((d 1), .inl (ka 0, 6, .inl (wf))), ((d 2), .inl (ka 2, 5, .inr (.inr (.inr (.inr (tf)))))), ((d 3), .inl (ka 0, 5, .inl (df)))] : va_W) ++ R) H := hw
    exact hret _ _ _ _ _ _ _ _ dX1_takesOnes_23 hS hw (Nat.zero_le _) (Nat.zero_le _) (by decide) (rpo_n (pst5n h6 hdg))
set_option maxRecDepth 100000 in
set_option maxHeartbeats 4000000 in
theorem c_X1_takesMind (l : Launch) (D : va_G) (ka : Nat → ClassId) (z : Nat) (rd : Nat) (d rk : Nat → Nat) (P : NN) (kd nv : Int32) (wf df : Nat → Int32) (tf : Nat → Option Nat) (kf nf mf : Nat → Int32) (hR : RS P kd nv wf df kf nf mf) (c1 : Int32) (c9 : Int) (hc1 : c1.toInt = c9) (R : va_W) (h6 : P 0 6 = 6) : MU l D ka z yX1_takesMind cX1_takesMind 3 (some .boolean) 1 0 0 [.ref rd, .int c1] (rwd ka rd d rk (nI (P 0 6)) kd nv (P 0 0) (P 0 1) (P 0 2) wf df tf kf nf mf ++ R) (Qi D z (fun r w => rpo ka rd d rk P wf df tf kf nf mf R c9 r w)) := by
  refine MU.ofZ (by decide) (Nat.le_of_ble_eq_true rfl) ?_
  intro p e s m args below meth c Q X hw hS hret ls hl
  obtain ⟨hx, hb, hml, hown, hts, hE⟩ := id X
  have hK := hE.1
  have hz0 := hw.1
  have hl : lv_has ls 3 [(0, .ref rd), (1, .int c1)] := hl
  have hI := hR.2.1
  obtain ⟨⟨hi0, hi1, hi2, hi6, hi7, hi8, hi9, hi10⟩, -⟩ := id hI
  obtain rfl : kd = nI (P 0 7) := hR.2.2.1 (by omega)
  obtain rfl : nv = nI (P 0 8) := hR.2.2.2 (by omega)
  refine lv_iload_n hx hb dX1_takesMind_0 rfl (lv_at hl 1 rfl) ?_
  refine vp_callSi (ro_runS (c_X1_isDigit l D ka c1 _ hc1) X wd_228 wd_226 wd_227 wd_2 on_X1_isDigit ⟨Nat.le_of_ble_eq_true rfl, Nat.le_of_ble_eq_true rfl⟩ trivial hl.1 rfl (Nat.le_of_ble_eq_true rfl) ⟨(Nat.zero_le _), (Nat.zero_le _)⟩ dX1_takesMind_1) (fun r_1 hr_1 => ?_)
  subst hr_1
  refine b_if_eq (tgt := 18) hx hb dX1_takesMind_4 (by decide) (fun c_2 => ?_) (fun c_2 => ?_)
  · refine lv_iconst (v := nI 0) hx hb dX1_takesMind_18 (by decide) ?_
    exact hret _ _ _ _ _ _ _ _ dX1_takesMind_19 hS hw (Nat.zero_le _) (Nat.zero_le _) (by decide) (rpo_n (by unfold pst; rw [if_neg (by omega), if_neg (by omega), if_neg (by omega), if_neg (by omega), if_neg (by omega), if_neg (by omega), if_pos h6, if_neg (by omega)]))
  · refine lv_aload_n hx hb dX1_takesMind_7 rfl (lv_at hl 0 rfl) ?_
    refine va_get (D := D) (ci := 1) (v := .ref (d 0)) (C := RX1) (T := TX1) (N := 7) hx hb hts inX1 hown hK hw.2.1 0 rfl rfl 0 (by decide) (hts _ wd_74) (fun _ h9 => h9) rfl dX1_takesMind_8 ?_
    refine va_get (D := D) (ci := 8) (v := .int (nI (P 0 1))) (C := RX8) (T := TX8) (N := 6) hx hb hts inX8 hown hK hw.2.1 4 rfl rfl 4 (by decide) (hts _ wd_55) (fun _ h9 => h9) rfl dX1_takesMind_11 ?_
    refine lv_iconst (v := nI 5) hx hb dX1_takesMind_14 (by decide) ?_
    refine i_icmp_lt (tgt := 20) hx hb (nT (by omega)) (nT (by decide)) dX1_takesMind_15 (by decide) (fun c_3 => ?_) (fun c_3 => ?_)
    · refine lv_aload_n hx hb dX1_takesMind_20 rfl (lv_at hl 0 rfl) ?_
      refine va_get (D := D) (ci := 1) (v := .ref (d 0)) (C := RX1) (T := TX1) (N := 7) hx hb hts inX1 hown hK hw.2.1 0 rfl rfl 0 (by decide) (hts _ wd_74) (fun _ h9 => h9) rfl dX1_takesMind_21 ?_
      refine va_get (D := D) (ci := 8) (v := .int (nI (P 0 1))) (C := RX8) (T := TX8) (N := 6) hx hb hts inX8 hown hK hw.2.1 4 rfl rfl 4 (by decide) (hts _ wd_55) (fun _ h9 => h9) rfl dX1_takesMind_24 ?_
      refine lv_istore_n (lv' := [(2, .int (nI (P 0 1))), (0, .ref rd), (1, .int c1)]) hx hb dX1_takesMind_27 rfl hl (by decide) rfl (fun ls hl => ?_)
      refine lv_aload_n hx hb dX1_takesMind_28 rfl (lv_at hl 1 rfl) ?_
      refine va_get (D := D) (ci := 1) (v := .ref (rk 0)) (C := RX1) (T := TX1) (N := 7) hx hb hts inX1 hown hK hw.2.1 0 rfl rfl 1 (by decide) (hts _ wd_75) (fun _ h9 => h9) rfl dX1_takesMind_29 ?_
      refine lv_iload_n hx hb dX1_takesMind_32 rfl (lv_at hl 0 rfl) ?_
      refine lv_aload_n hx hb dX1_takesMind_33 rfl (lv_at hl 1 rfl) ?_
      refine va_get (D := D) (ci := 1) (v := .int (nI (P 0 7))) (C := RX1) (T := TX1) (N := 7) hx hb hts inX1 hown hK hw.2.1 0 rfl rfl 5 (by decide) (hts _ wd_79) (fun _ h9 => h9) rfl dX1_takesMind_34 ?_
      refine r_iast hx hb hK hw.2.1 hw.2.2 hS 1 0 rfl rfl (k := P 0 1) (by omega) (by decide) dX1_takesMind_37 (fun H locs hP hD hS => ?_)
      have hw : wdH D z (([(rd, .inr (1, [.ref (d 0), .ref (rk 0), .ref (rk 1), .ref (rk 2), .int (nI (P 0 6)), .int (nI (P 0 7)), .int (nI (P 0 8))])), ((rk 0), .inl (ka 0, 5, .inl (upd kf (P 0 1) (nI (P 0 7))))), ((rk 1), .inl (ka 0, 5, .inl (nf))), ((rk 2), .inl (ka 0, 5, .inl (mf))), ((d 0), .inr (8, [.ref (d 1), .ref (d 2), .ref (d 3), .int (nI (P 0 0)), .int (nI (P 0 1)), .int (nI (P 0 2))])), ((d 1), .inl (ka 0, 6, .inl (wf))), ((d 2), .inl (ka 2, 5, .inr (.inr (.inr (.inr (tf)))))), ((d 3), .inl (ka 0, 5, .inl (df)))] : va_W) ++ R) H := ⟨Nat.le_trans hz0 hS.1, hP, hD⟩
      refine lv_aload_n hx hb dX1_takesMind_38 rfl (lv_at hl 1 rfl) ?_
      refine va_get (D := D) (ci := 1) (v := .ref (rk 1)) (C := RX1) (T := TX1) (N := 7) hx hb hts inX1 hown hK hw.2.1 0 rfl rfl 2 (by decide) (hts _ wd_76) (fun _ h9 => h9) rfl dX1_takesMind_39 ?_
      refine lv_iload_n hx hb dX1_takesMind_42 rfl (lv_at hl 0 rfl) ?_
      refine lv_aload_n hx hb dX1_takesMind_43 rfl (lv_at hl 1 rfl) ?_
      refine va_get (D := D) (ci := 1) (v := .int (nI (P 0 8))) (C := RX1) (T := TX1) (N := 7) hx hb hts inX1 hown hK hw.2.1 0 rfl rfl 6 (by decide) (hts _ wd_80) (fun _ h9 => h9) rfl dX1_takesMind_44 ?_
      refine r_iast hx hb hK hw.2.1 hw.2.2 hS 2 0 rfl rfl (k := P 0 1) (by omega) (by decide) dX1_takesMind_47 (fun H locs hP hD hS => ?_)
      have hw : wdH D z (([(rd, .inr (1, [.ref (d 0), .ref (rk 0), .ref (rk 1), .ref (rk 2), .int (nI (P 0 6)), .int (nI (P 0 7)), .int (nI (P 0 8))])), ((rk 0), .inl (ka 0, 5, .inl (upd kf (P 0 1) (nI (P 0 7))))), ((rk 1), .inl (ka 0, 5, .inl (upd nf (P 0 1) (nI (P 0 8))))), ((rk 2), .inl (ka 0, 5, .inl (mf))), ((d 0), .inr (8, [.ref (d 1), .ref (d 2), .ref (d 3), .int (nI (P 0 0)), .int (nI (P 0 1)), .int (nI (P 0 2))])), ((d 1), .inl (ka 0, 6, .inl (wf))), ((d 2), .inl (ka 2, 5, .inr (.inr (.inr (.inr (tf)))))), ((d 3), .inl (ka 0, 5, .inl (df)))] : va_W) ++ R) H := ⟨Nat.le_trans hz0 hS.1, hP, hD⟩
      refine lv_aload_n hx hb dX1_takesMind_48 rfl (lv_at hl 1 rfl) ?_
      refine va_get (D := D) (ci := 1) (v := .ref (rk 2)) (C := RX1) (T := TX1) (N := 7) hx hb hts inX1 hown hK hw.2.1 0 rfl rfl 3 (by decide) (hts _ wd_77) (fun _ h9 => h9) rfl dX1_takesMind_49 ?_
      refine lv_iload_n hx hb dX1_takesMind_52 rfl (lv_at hl 0 rfl) ?_
      refine lv_iload_n hx hb dX1_takesMind_53 rfl (lv_at hl 2 rfl) ?_
      refine lv_bipush (v := nI 48) hx hb dX1_takesMind_54 (by decide) ?_
      refine lv_isub hx hb dX1_takesMind_56 ?_
      rw [dg_sub hc1 (by omega) (by omega)]
      refine r_iast hx hb hK hw.2.1 hw.2.2 hS 3 0 rfl rfl (k := P 0 1) (by omega) (by decide) dX1_takesMind_57 (fun H locs hP hD hS => ?_)
      have hw : wdH D z (([(rd, .inr (1, [.ref (d 0), .ref (rk 0), .ref (rk 1), .ref (rk 2), .int (nI (P 0 6)), .int (nI (P 0 7)), .int (nI (P 0 8))])), ((rk 0), .inl (ka 0, 5, .inl (upd kf (P 0 1) (nI (P 0 7))))), ((rk 1), .inl (ka 0, 5, .inl (upd nf (P 0 1) (nI (P 0 8))))), ((rk 2), .inl (ka 0, 5, .inl (upd mf (P 0 1) (nI ((c9 - 48).toNat))))), ((d 0), .inr (8, [.ref (d 1), .ref (d 2), .ref (d 3), .int (nI (P 0 0)), .int (nI (P 0 1)), .int (nI (P 0 2))])), ((d 1), .inl (ka 0, 6, .inl (wf))), ((d 2), .inl (ka 2, 5, .inr (.inr (.inr (.inr (tf)))))), ((d 3), .inl (ka 0, 5, .inl (df)))] : va_W) ++ R) H := ⟨Nat.le_trans hz0 hS.1, hP, hD⟩
      refine lv_aload_n hx hb dX1_takesMind_58 rfl (lv_at hl 1 rfl) ?_
      refine va_get (D := D) (ci := 1) (v := .ref (d 0)) (C := RX1) (T := TX1) (N := 7) hx hb hts inX1 hown hK hw.2.1 0 rfl rfl 0 (by decide) (hts _ wd_74) (fun _ h9 => h9) rfl dX1_takesMind_59 ?_
      refine lv_dup hx hb dX1_takesMind_62 rfl ?_
      refine va_get (D := D) (ci := 8) (v := .int (nI (P 0 1))) (C := RX8) (T := TX8) (N := 6) hx hb hts inX8 hown hK hw.2.1 4 rfl rfl 4 (by decide) (hts _ wd_55) (fun _ h9 => h9) rfl dX1_takesMind_63 ?_
      refine lv_iconst (v := nI 1) hx hb dX1_takesMind_66 (by decide) ?_
      refine n_iadd hx hb dX1_takesMind_67 ?_
      refine va_put (D := D) (ci := 8) (v := .int (nI ((P 0 1) + 1))) (ty := .int) (C := RX8) (T := TX8) (N := 6) hx hb hts inX8 tyX8 tyX8_ok nmX8 hown hK hw.2.1 hw.2.2 hS 4 rfl rfl 4 (by decide) (hts _ wd_55) (fun _ h9 => h9) rfl (by decide +kernel) rfl rfl (Nat.le_of_ble_eq_true rfl) dX1_takesMind_68 (fun H locs hP hD hS => ?_)
      have hw : wdH D z (([(rd, .inr (1, [.ref (d 0), .ref (rk 0), .ref (rk 1), .ref (rk 2), .int (nI (P 0 6)), .int (nI (P 0 7)), .int (nI (P 0 8))])), ((rk 0), .inl (ka 0, 5, .inl (upd kf (P 0 1) (nI (P 0 7))))), ((rk 1), .inl (ka 0, 5, .inl (upd nf (P 0 1) (nI (P 0 8))))), ((rk 2), .inl (ka 0, 5, .inl (upd mf (P 0 1) (nI ((c9 - 48).toNat))))), ((d 0), .inr (8, [.ref (d 1), .ref (d 2), .ref (d 3), .int (nI (P 0 0)), .int (nI ((P 0 1) + 1)), .int (nI (P 0 2))])), ((d 1), .inl (ka 0, 6, .inl (wf))), ((d 2), .inl (ka 2, 5, .inr (.inr (.inr (.inr (tf)))))), ((d 3), .inl (ka 0, 5, .inl (df)))] : va_W) ++ R) H := ⟨Nat.le_trans hz0 hS.1, hP, hD⟩
      refine lv_aload_n hx hb dX1_takesMind_71 rfl (lv_at hl 1 rfl) ?_
      refine lv_iconst (v := nI 1) hx hb dX1_takesMind_72 (by decide) ?_
      refine lv_bipush (v := nI 7) hx hb dX1_takesMind_73 (by decide) ?_
      refine mu_i (mu_runV (c_X1_goesOn l D ka z rd (d 0) (rk 0) (rk 1) (rk 2) 1 7 (nI (P 0 6)) (nI (P 0 7)) (nI (P 0 8)) (by decide) (([((rk 0), .inl (ka 0, 5, .inl (upd kf (P 0 1) (nI (P 0 7))))), ((rk 1), .inl (ka 0, 5, .inl (upd nf (P 0 1) (nI (P 0 8))))), ((rk 2), .inl (ka 0, 5, .inl (upd mf (P 0 1) (nI ((c9 - 48).toNat))))), ((d 0), .inr (8, [.ref (d 1), .ref (d 2), .ref (d 3), .int (nI (P 0 0)), .int (nI ((P 0 1) + 1)), .int (nI (P 0 2))])), ((d 1), .inl (ka 0, 6, .inl (wf))), ((d 2), .inl (ka 2, 5, .inr (.inr (.inr (.inr (tf)))))), ((d 3), .inl (ka 0, 5, .inl (df)))] : va_W) ++ R)) X wd_221 wd_218 wd_219 wd_220 wd_2 on_X1_goesOn ⟨Nat.le_of_ble_eq_true rfl, Nat.le_of_ble_eq_true rfl⟩ (va_recv hK hw.2.1 (ci := 1) (q0 := 0) rfl rfl) hw hl.1 rfl (Nat.le_of_ble_eq_true rfl) ⟨Nat.le_of_ble_eq_true rfl, Nat.le_of_ble_eq_true rfl⟩ dX1_takesMind_75) hS (fun r_5 u_4 H locs hp_u_4 hw hS => ?_)
      obtain ⟨rfl, rfl⟩ := hp_u_4
      have hw : wdH D z (([(rd, .inr (1, [.ref (d 0), .ref (rk 0), .ref (rk 1), .ref (rk 2), .int (nI 7), .int (nI (P 0 7)), .int (nI (P 0 8))])), ((rk 0), .inl (ka 0, 5, .inl (upd kf (P 0 1) (nI (P 0 7))))), ((rk 1), .inl (ka 0, 5, .inl (upd nf (P 0 1) (nI (P 0 8))))), ((rk 2), .inl (ka 0, 5, .inl (upd mf (P 0 1) (nI ((c9 - 48).toNat))))), ((d 0), .inr (8, [.ref (d 1), .ref (d 2), .ref (d 3), .int (nI (P 0 0)), .int (nI ((P 0 1) + 1)), .int (nI (P 0 2))])), ((d 1), .inl (ka 0, 6, .inl (wf))), ((d 2), .inl (ka 2, 5, .inr (.inr (.inr (.inr (tf)))))), ((d 3), .inl (ka 0, 5, .inl (df)))] : va_W) ++ R) H := hw
      exact hret _ _ _ _ _ _ _ _ dX1_takesMind_78 hS hw (Nat.zero_le _) (Nat.zero_le _) (by decide) (rpo_s (P2 := ptk P (c9 - 48).toNat) (pst6 h6 (by omega)) hI ⟨hR.1.1, hR.1.2.1, fun j hj => upd_in (u := P 2) rfl hj (fun q => hR.1.2.2.1 j q), fun j hj => upd_in (u := P 3) rfl hj (fun q => hR.1.2.2.2.1 j q), fun j hj => upd_in (u := P 4) rfl hj (fun q => hR.1.2.2.2.2 j q)⟩ (fun _ => rfl) (fun _ => rfl))
    · refine lv_iconst (v := nI 0) hx hb dX1_takesMind_18 (by decide) ?_
      exact hret _ _ _ _ _ _ _ _ dX1_takesMind_19 hS hw (Nat.zero_le _) (Nat.zero_le _) (by decide) (rpo_n (by unfold pst; rw [if_neg (by omega), if_neg (by omega), if_neg (by omega), if_neg (by omega), if_neg (by omega), if_neg (by omega), if_pos h6, if_neg (by omega)]))
set_option maxRecDepth 100000 in
set_option maxHeartbeats 4000000 in
theorem c_X1_takesBehindTaker (l : Launch) (D : va_G) (ka : Nat → ClassId) (z : Nat) (rd : Nat) (d rk : Nat → Nat) (P : NN) (kd nv : Int32) (wf df : Nat → Int32) (tf : Nat → Option Nat) (kf nf mf : Nat → Int32) (hR : RS P kd nv wf df kf nf mf) (c1 : Int32) (c9 : Int) (hc1 : c1.toInt = c9) (R : va_W) (h6 : P 0 6 = 7) : MU l D ka z yX1_takesBehindTaker cX1_takesBehindTaker 2 (some .boolean) 1 0 0 [.ref rd, .int c1] (rwd ka rd d rk (nI (P 0 6)) kd nv (P 0 0) (P 0 1) (P 0 2) wf df tf kf nf mf ++ R) (Qi D z (fun r w => rpo ka rd d rk P wf df tf kf nf mf R c9 r w)) := by
  refine MU.ofZ (by decide) (Nat.le_of_ble_eq_true rfl) ?_
  intro p e s m args below meth c Q X hw hS hret ls hl
  obtain ⟨hx, hb, hml, hown, hts, hE⟩ := id X
  have hK := hE.1
  have hz0 := hw.1
  have hl : lv_has ls 2 [(0, .ref rd), (1, .int c1)] := hl
  have hI := hR.2.1
  obtain ⟨⟨hi0, hi1, hi2, hi6, hi7, hi8, hi9, hi10⟩, -⟩ := id hI
  refine lv_iload_n hx hb dX1_takesBehindTaker_0 rfl (lv_at hl 1 rfl) ?_
  refine lv_bipush (v := nI 47) hx hb dX1_takesBehindTaker_1 (by decide) ?_
  refine i_icmp_ne (tgt := 14) hx hb hc1 (nT (by decide)) dX1_takesBehindTaker_3 (by decide) (fun c_1 => ?_) (fun c_1 => ?_)
  · refine lv_aload_n hx hb dX1_takesBehindTaker_14 rfl (lv_at hl 0 rfl) ?_
    refine lv_iload_n hx hb dX1_takesBehindTaker_15 rfl (lv_at hl 1 rfl) ?_
    refine lv_bipush (v := nI 59) hx hb dX1_takesBehindTaker_16 (by decide) ?_
    refine i_icmp_ne (tgt := 36) hx hb hc1 (nT (by decide)) dX1_takesBehindTaker_18 (by decide) (fun c_2 => ?_) (fun c_2 => ?_)
    · refine lv_iconst (v := nI 0) hx hb dX1_takesBehindTaker_36 (by decide) ?_
      refine lv_iconst (v := nI 3) hx hb dX1_takesBehindTaker_37 (by decide) ?_
      refine mu_i (mu_runV (c_X1_goesOn l D ka z rd (d 0) (rk 0) (rk 1) (rk 2) 0 3 (nI (P 0 6)) kd nv (by decide) (([((rk 0), .inl (ka 0, 5, .inl (kf))), ((rk 1), .inl (ka 0, 5, .inl (nf))), ((rk 2), .inl (ka 0, 5, .inl (mf))), ((d 0), .inr (8, [.ref (d 1), .ref (d 2), .ref (d 3), .int (nI (P 0 0)), .int (nI (P 0 1)), .int (nI (P 0 2))])), ((d 1), .inl (ka 0, 6, .inl (wf))), ((d 2), .inl (ka 2, 5, .inr (.inr (.inr (.inr (tf)))))), ((d 3), .inl (ka 0, 5, .inl (df)))] : va_W) ++ R)) X wd_221 wd_218 wd_219 wd_220 wd_2 on_X1_goesOn ⟨Nat.le_of_ble_eq_true rfl, Nat.le_of_ble_eq_true rfl⟩ (va_recv hK hw.2.1 (ci := 1) (q0 := 0) rfl rfl) hw hl.1 rfl (Nat.le_of_ble_eq_true rfl) ⟨Nat.le_of_ble_eq_true rfl, Nat.le_of_ble_eq_true rfl⟩ dX1_takesBehindTaker_38) hS (fun r_4 u_3 H locs hp_u_3 hw hS => ?_)
      obtain ⟨rfl, rfl⟩ := hp_u_3
      have hw : wdH D z (([(rd, .inr (1, [.ref (d 0), .ref (rk 0), .ref (rk 1), .ref (rk 2), .int (nI (P 0 6)), .int kd, .int nv])), ((rk 0), .inl (ka 0, 5, .inl (kf))), ((rk 1), .inl (ka 0, 5, .inl (nf))), ((rk 2), .inl (ka 0, 5, .inl (mf))), ((d 0), .inr (8, [.ref (d 1), .ref (d 2), .ref (d 3), .int (nI (P 0 0)), .int (nI (P 0 1)), .int (nI (P 0 2))])), ((d 1), .inl (ka 0, 6, .inl (wf))), ((d 2), .inl (ka 2, 5, .inr (.inr (.inr (.inr (tf)))))), ((d 3), .inl (ka 0, 5, .inl (df)))] : va_W) ++ R) H := hw
      exact hret _ _ _ _ _ _ _ _ dX1_takesBehindTaker_41 hS hw (Nat.zero_le _) (Nat.zero_le _) (by decide) (rpo_n (pst7n h6 (by omega) (by omega)))
    · refine lv_aload_n hx hb dX1_takesBehindTaker_21 rfl (lv_at hl 0 rfl) ?_
      refine va_get (D := D) (ci := 1) (v := .ref (d 0)) (C := RX1) (T := TX1) (N := 7) hx hb hts inX1 hown hK hw.2.1 0 rfl rfl 0 (by decide) (hts _ wd_74) (fun _ h9 => h9) rfl dX1_takesBehindTaker_22 ?_
      refine va_get (D := D) (ci := 8) (v := .int (nI (P 0 1))) (C := RX8) (T := TX8) (N := 6) hx hb hts inX8 hown hK hw.2.1 4 rfl rfl 4 (by decide) (hts _ wd_55) (fun _ h9 => h9) rfl dX1_takesBehindTaker_25 ?_
      refine lv_iconst (v := nI 5) hx hb dX1_takesBehindTaker_28 (by decide) ?_
      refine i_icmp_ge (tgt := 36) hx hb (nT (by omega)) (nT (by decide)) dX1_takesBehindTaker_29 (by decide) (fun c_5 => ?_) (fun c_5 => ?_)
      · refine lv_iconst (v := nI 0) hx hb dX1_takesBehindTaker_36 (by decide) ?_
        refine lv_iconst (v := nI 3) hx hb dX1_takesBehindTaker_37 (by decide) ?_
        refine mu_i (mu_runV (c_X1_goesOn l D ka z rd (d 0) (rk 0) (rk 1) (rk 2) 0 3 (nI (P 0 6)) kd nv (by decide) (([((rk 0), .inl (ka 0, 5, .inl (kf))), ((rk 1), .inl (ka 0, 5, .inl (nf))), ((rk 2), .inl (ka 0, 5, .inl (mf))), ((d 0), .inr (8, [.ref (d 1), .ref (d 2), .ref (d 3), .int (nI (P 0 0)), .int (nI (P 0 1)), .int (nI (P 0 2))])), ((d 1), .inl (ka 0, 6, .inl (wf))), ((d 2), .inl (ka 2, 5, .inr (.inr (.inr (.inr (tf)))))), ((d 3), .inl (ka 0, 5, .inl (df)))] : va_W) ++ R)) X wd_221 wd_218 wd_219 wd_220 wd_2 on_X1_goesOn ⟨Nat.le_of_ble_eq_true rfl, Nat.le_of_ble_eq_true rfl⟩ (va_recv hK hw.2.1 (ci := 1) (q0 := 0) rfl rfl) hw hl.1 rfl (Nat.le_of_ble_eq_true rfl) ⟨Nat.le_of_ble_eq_true rfl, Nat.le_of_ble_eq_true rfl⟩ dX1_takesBehindTaker_38) hS (fun r_7 u_6 H locs hp_u_6 hw hS => ?_)
        obtain ⟨rfl, rfl⟩ := hp_u_6
        have hw : wdH D z (([(rd, .inr (1, [.ref (d 0), .ref (rk 0), .ref (rk 1), .ref (rk 2), .int (nI (P 0 6)), .int kd, .int nv])), ((rk 0), .inl (ka 0, 5, .inl (kf))), ((rk 1), .inl (ka 0, 5, .inl (nf))), ((rk 2), .inl (ka 0, 5, .inl (mf))), ((d 0), .inr (8, [.ref (d 1), .ref (d 2), .ref (d 3), .int (nI (P 0 0)), .int (nI (P 0 1)), .int (nI (P 0 2))])), ((d 1), .inl (ka 0, 6, .inl (wf))), ((d 2), .inl (ka 2, 5, .inr (.inr (.inr (.inr (tf)))))), ((d 3), .inl (ka 0, 5, .inl (df)))] : va_W) ++ R) H := hw
        exact hret _ _ _ _ _ _ _ _ dX1_takesBehindTaker_41 hS hw (Nat.zero_le _) (Nat.zero_le _) (by decide) (rpo_n (pst7n h6 (by omega) (by omega)))
      · refine lv_iconst (v := nI 1) hx hb dX1_takesBehindTaker_32 (by decide) ?_
        refine lv_goto (tgt := 37) hx hb dX1_takesBehindTaker_33 (by decide) ?_
        refine lv_iconst (v := nI 3) hx hb dX1_takesBehindTaker_37 (by decide) ?_
        refine mu_i (mu_runV (c_X1_goesOn l D ka z rd (d 0) (rk 0) (rk 1) (rk 2) 1 3 (nI (P 0 6)) kd nv (by decide) (([((rk 0), .inl (ka 0, 5, .inl (kf))), ((rk 1), .inl (ka 0, 5, .inl (nf))), ((rk 2), .inl (ka 0, 5, .inl (mf))), ((d 0), .inr (8, [.ref (d 1), .ref (d 2), .ref (d 3), .int (nI (P 0 0)), .int (nI (P 0 1)), .int (nI (P 0 2))])), ((d 1), .inl (ka 0, 6, .inl (wf))), ((d 2), .inl (ka 2, 5, .inr (.inr (.inr (.inr (tf)))))), ((d 3), .inl (ka 0, 5, .inl (df)))] : va_W) ++ R)) X wd_221 wd_218 wd_219 wd_220 wd_2 on_X1_goesOn ⟨Nat.le_of_ble_eq_true rfl, Nat.le_of_ble_eq_true rfl⟩ (va_recv hK hw.2.1 (ci := 1) (q0 := 0) rfl rfl) hw hl.1 rfl (Nat.le_of_ble_eq_true rfl) ⟨Nat.le_of_ble_eq_true rfl, Nat.le_of_ble_eq_true rfl⟩ dX1_takesBehindTaker_38) hS (fun r_9 u_8 H locs hp_u_8 hw hS => ?_)
        obtain ⟨rfl, rfl⟩ := hp_u_8
        have hw : wdH D z (([(rd, .inr (1, [.ref (d 0), .ref (rk 0), .ref (rk 1), .ref (rk 2), .int (nI 3), .int kd, .int nv])), ((rk 0), .inl (ka 0, 5, .inl (kf))), ((rk 1), .inl (ka 0, 5, .inl (nf))), ((rk 2), .inl (ka 0, 5, .inl (mf))), ((d 0), .inr (8, [.ref (d 1), .ref (d 2), .ref (d 3), .int (nI (P 0 0)), .int (nI (P 0 1)), .int (nI (P 0 2))])), ((d 1), .inl (ka 0, 6, .inl (wf))), ((d 2), .inl (ka 2, 5, .inr (.inr (.inr (.inr (tf)))))), ((d 3), .inl (ka 0, 5, .inl (df)))] : va_W) ++ R) H := hw
        exact hret _ _ _ _ _ _ _ _ dX1_takesBehindTaker_41 hS hw (Nat.zero_le _) (Nat.zero_le _) (by decide) (rpo_s (P2 := up P 0 6 3) (by rw [show c9 = 59 by omega]; exact pst7s h6 (by omega)) hI hR.1 (fun q => absurd (show 4 ≤ 3 from q) (by decide)) (fun q => absurd (show 5 ≤ 3 from q) (by decide)))
  · refine lv_aload_n hx hb dX1_takesBehindTaker_6 rfl (lv_at hl 0 rfl) ?_
    refine lv_iconst (v := nI 1) hx hb dX1_takesBehindTaker_7 (by decide) ?_
    refine lv_bipush (v := nI 8) hx hb dX1_takesBehindTaker_8 (by decide) ?_
    refine mu_i (mu_runV (c_X1_goesOn l D ka z rd (d 0) (rk 0) (rk 1) (rk 2) 1 8 (nI (P 0 6)) kd nv (by decide) (([((rk 0), .inl (ka 0, 5, .inl (kf))), ((rk 1), .inl (ka 0, 5, .inl (nf))), ((rk 2), .inl (ka 0, 5, .inl (mf))), ((d 0), .inr (8, [.ref (d 1), .ref (d 2), .ref (d 3), .int (nI (P 0 0)), .int (nI (P 0 1)), .int (nI (P 0 2))])), ((d 1), .inl (ka 0, 6, .inl (wf))), ((d 2), .inl (ka 2, 5, .inr (.inr (.inr (.inr (tf)))))), ((d 3), .inl (ka 0, 5, .inl (df)))] : va_W) ++ R)) X wd_221 wd_218 wd_219 wd_220 wd_2 on_X1_goesOn ⟨Nat.le_of_ble_eq_true rfl, Nat.le_of_ble_eq_true rfl⟩ (va_recv hK hw.2.1 (ci := 1) (q0 := 0) rfl rfl) hw hl.1 rfl (Nat.le_of_ble_eq_true rfl) ⟨Nat.le_of_ble_eq_true rfl, Nat.le_of_ble_eq_true rfl⟩ dX1_takesBehindTaker_10) hS (fun r_11 u_10 H locs hp_u_10 hw hS => ?_)
    obtain ⟨rfl, rfl⟩ := hp_u_10
    have hw : wdH D z (([(rd, .inr (1, [.ref (d 0), .ref (rk 0), .ref (rk 1), .ref (rk 2), .int (nI 8), .int kd, .int nv])), ((rk 0), .inl (ka 0, 5, .inl (kf))), ((rk 1), .inl (ka 0, 5, .inl (nf))), ((rk 2), .inl (ka 0, 5, .inl (mf))), ((d 0), .inr (8, [.ref (d 1), .ref (d 2), .ref (d 3), .int (nI (P 0 0)), .int (nI (P 0 1)), .int (nI (P 0 2))])), ((d 1), .inl (ka 0, 6, .inl (wf))), ((d 2), .inl (ka 2, 5, .inr (.inr (.inr (.inr (tf)))))), ((d 3), .inl (ka 0, 5, .inl (df)))] : va_W) ++ R) H := hw
    exact hret _ _ _ _ _ _ _ _ dX1_takesBehindTaker_13 hS hw (Nat.zero_le _) (Nat.zero_le _) (by decide) (rpo_s (P2 := up P 0 6 8) (by rw [show c9 = 47 by omega]; exact pst7g h6) hI hR.1 (fun _ => hR.2.2.1 (by omega)) (fun _ => hR.2.2.2 (by omega)))
set_option maxRecDepth 100000 in
set_option maxHeartbeats 4000000 in
theorem c_X1_takesGood (l : Launch) (D : va_G) (ka : Nat → ClassId) (z : Nat) (rd : Nat) (d rk : Nat → Nat) (P : NN) (kd nv : Int32) (wf df : Nat → Int32) (tf : Nat → Option Nat) (kf nf mf : Nat → Int32) (hR : RS P kd nv wf df kf nf mf) (c1 : Int32) (c9 : Int) (hc1 : c1.toInt = c9) (R : va_W) (h6 : P 0 6 = 8) : MU l D ka z yX1_takesGood cX1_takesGood 2 (some .boolean) 1 0 0 [.ref rd, .int c1] (rwd ka rd d rk (nI (P 0 6)) kd nv (P 0 0) (P 0 1) (P 0 2) wf df tf kf nf mf ++ R) (Qi D z (fun r w => rpo ka rd d rk P wf df tf kf nf mf R c9 r w)) := by
  refine MU.ofZ (by decide) (Nat.le_of_ble_eq_true rfl) ?_
  intro p e s m args below meth c Q X hw hS hret ls hl
  obtain ⟨hx, hb, hml, hown, hts, hE⟩ := id X
  have hK := hE.1
  have hz0 := hw.1
  have hl : lv_has ls 2 [(0, .ref rd), (1, .int c1)] := hl
  have hI := hR.2.1
  obtain ⟨⟨hi0, hi1, hi2, hi6, hi7, hi8, hi9, hi10⟩, -⟩ := id hI
  refine lv_iload_n hx hb dX1_takesGood_0 rfl (lv_at hl 1 rfl) ?_
  refine vp_callSi (ro_runS (c_X1_isDigit l D ka c1 _ hc1) X wd_228 wd_226 wd_227 wd_2 on_X1_isDigit ⟨Nat.le_of_ble_eq_true rfl, Nat.le_of_ble_eq_true rfl⟩ trivial hl.1 rfl (Nat.le_of_ble_eq_true rfl) ⟨(Nat.zero_le _), (Nat.zero_le _)⟩ dX1_takesGood_1) (fun r_1 hr_1 => ?_)
  subst hr_1
  refine b_if_eq (tgt := 24) hx hb dX1_takesGood_4 (by decide) (fun c_2 => ?_) (fun c_2 => ?_)
  · refine lv_iconst (v := nI 0) hx hb dX1_takesGood_24 (by decide) ?_
    exact hret _ _ _ _ _ _ _ _ dX1_takesGood_25 hS hw (Nat.zero_le _) (Nat.zero_le _) (by decide) (rpo_n (pst8n h6 (by omega)))
  · refine lv_iload_n hx hb dX1_takesGood_7 rfl (lv_at hl 1 rfl) ?_
    refine lv_bipush (v := nI 48) hx hb dX1_takesGood_8 (by decide) ?_
    refine i_icmp_eq (tgt := 24) hx hb hc1 (nT (by decide)) dX1_takesGood_10 (by decide) (fun c_3 => ?_) (fun c_3 => ?_)
    · refine lv_iconst (v := nI 0) hx hb dX1_takesGood_24 (by decide) ?_
      exact hret _ _ _ _ _ _ _ _ dX1_takesGood_25 hS hw (Nat.zero_le _) (Nat.zero_le _) (by decide) (rpo_n (pst8n h6 (by omega)))
    · refine lv_aload_n hx hb dX1_takesGood_13 rfl (lv_at hl 0 rfl) ?_
      refine va_get (D := D) (ci := 1) (v := .ref (d 0)) (C := RX1) (T := TX1) (N := 7) hx hb hts inX1 hown hK hw.2.1 0 rfl rfl 0 (by decide) (hts _ wd_74) (fun _ h9 => h9) rfl dX1_takesGood_14 ?_
      refine va_get (D := D) (ci := 8) (v := .int (nI (P 0 2))) (C := RX8) (T := TX8) (N := 6) hx hb hts inX8 hown hK hw.2.1 4 rfl rfl 5 (by decide) (hts _ wd_58) (fun _ h9 => h9) rfl dX1_takesGood_17 ?_
      refine lv_iconst (v := nI 5) hx hb dX1_takesGood_20 (by decide) ?_
      refine i_icmp_lt (tgt := 26) hx hb (nT (by omega)) (nT (by decide)) dX1_takesGood_21 (by decide) (fun c_4 => ?_) (fun c_4 => ?_)
      · refine lv_aload_n hx hb dX1_takesGood_26 rfl (lv_at hl 0 rfl) ?_
        refine va_get (D := D) (ci := 1) (v := .ref (d 0)) (C := RX1) (T := TX1) (N := 7) hx hb hts inX1 hown hK hw.2.1 0 rfl rfl 0 (by decide) (hts _ wd_74) (fun _ h9 => h9) rfl dX1_takesGood_27 ?_
        refine va_get (D := D) (ci := 8) (v := .ref (d 3)) (C := RX8) (T := TX8) (N := 6) hx hb hts inX8 hown hK hw.2.1 4 rfl rfl 2 (by decide) (hts _ wd_48) (fun _ h9 => h9) rfl dX1_takesGood_30 ?_
        refine lv_aload_n hx hb dX1_takesGood_33 rfl (lv_at hl 0 rfl) ?_
        refine va_get (D := D) (ci := 1) (v := .ref (d 0)) (C := RX1) (T := TX1) (N := 7) hx hb hts inX1 hown hK hw.2.1 0 rfl rfl 0 (by decide) (hts _ wd_74) (fun _ h9 => h9) rfl dX1_takesGood_34 ?_
        refine va_get (D := D) (ci := 8) (v := .int (nI (P 0 2))) (C := RX8) (T := TX8) (N := 6) hx hb hts inX8 hown hK hw.2.1 4 rfl rfl 5 (by decide) (hts _ wd_58) (fun _ h9 => h9) rfl dX1_takesGood_37 ?_
        refine lv_iload_n hx hb dX1_takesGood_40 rfl (lv_at hl 1 rfl) ?_
        refine lv_bipush (v := nI 48) hx hb dX1_takesGood_41 (by decide) ?_
        refine lv_isub hx hb dX1_takesGood_43 ?_
        rw [dg_sub hc1 (by omega) (by omega)]
        refine r_iast hx hb hK hw.2.1 hw.2.2 hS 7 0 rfl rfl (k := P 0 2) (by omega) (by decide) dX1_takesGood_44 (fun H locs hP hD hS => ?_)
        have hw : wdH D z (([(rd, .inr (1, [.ref (d 0), .ref (rk 0), .ref (rk 1), .ref (rk 2), .int (nI (P 0 6)), .int kd, .int nv])), ((rk 0), .inl (ka 0, 5, .inl (kf))), ((rk 1), .inl (ka 0, 5, .inl (nf))), ((rk 2), .inl (ka 0, 5, .inl (mf))), ((d 0), .inr (8, [.ref (d 1), .ref (d 2), .ref (d 3), .int (nI (P 0 0)), .int (nI (P 0 1)), .int (nI (P 0 2))])), ((d 1), .inl (ka 0, 6, .inl (wf))), ((d 2), .inl (ka 2, 5, .inr (.inr (.inr (.inr (tf)))))), ((d 3), .inl (ka 0, 5, .inl (upd df (P 0 2) (nI ((c9 - 48).toNat)))))] : va_W) ++ R) H := ⟨Nat.le_trans hz0 hS.1, hP, hD⟩
        refine lv_aload_n hx hb dX1_takesGood_45 rfl (lv_at hl 0 rfl) ?_
        refine va_get (D := D) (ci := 1) (v := .ref (d 0)) (C := RX1) (T := TX1) (N := 7) hx hb hts inX1 hown hK hw.2.1 0 rfl rfl 0 (by decide) (hts _ wd_74) (fun _ h9 => h9) rfl dX1_takesGood_46 ?_
        refine lv_dup hx hb dX1_takesGood_49 rfl ?_
        refine va_get (D := D) (ci := 8) (v := .int (nI (P 0 2))) (C := RX8) (T := TX8) (N := 6) hx hb hts inX8 hown hK hw.2.1 4 rfl rfl 5 (by decide) (hts _ wd_58) (fun _ h9 => h9) rfl dX1_takesGood_50 ?_
        refine lv_iconst (v := nI 1) hx hb dX1_takesGood_53 (by decide) ?_
        refine n_iadd hx hb dX1_takesGood_54 ?_
        refine va_put (D := D) (ci := 8) (v := .int (nI ((P 0 2) + 1))) (ty := .int) (C := RX8) (T := TX8) (N := 6) hx hb hts inX8 tyX8 tyX8_ok nmX8 hown hK hw.2.1 hw.2.2 hS 4 rfl rfl 5 (by decide) (hts _ wd_58) (fun _ h9 => h9) rfl (by decide +kernel) rfl rfl (Nat.le_of_ble_eq_true rfl) dX1_takesGood_55 (fun H locs hP hD hS => ?_)
        have hw : wdH D z (([(rd, .inr (1, [.ref (d 0), .ref (rk 0), .ref (rk 1), .ref (rk 2), .int (nI (P 0 6)), .int kd, .int nv])), ((rk 0), .inl (ka 0, 5, .inl (kf))), ((rk 1), .inl (ka 0, 5, .inl (nf))), ((rk 2), .inl (ka 0, 5, .inl (mf))), ((d 0), .inr (8, [.ref (d 1), .ref (d 2), .ref (d 3), .int (nI (P 0 0)), .int (nI (P 0 1)), .int (nI ((P 0 2) + 1))])), ((d 1), .inl (ka 0, 6, .inl (wf))), ((d 2), .inl (ka 2, 5, .inr (.inr (.inr (.inr (tf)))))), ((d 3), .inl (ka 0, 5, .inl (upd df (P 0 2) (nI ((c9 - 48).toNat)))))] : va_W) ++ R) H := ⟨Nat.le_trans hz0 hS.1, hP, hD⟩
        refine lv_iconst (v := nI 1) hx hb dX1_takesGood_58 (by decide) ?_
        exact hret _ _ _ _ _ _ _ _ dX1_takesGood_59 hS hw (Nat.zero_le _) (Nat.zero_le _) (by decide) (rpo_s (P2 := up (up P 5 (P 0 2) (c9 - 48).toNat) 0 2 (P 0 2 + 1)) (pst8 h6 (by omega)) hI ⟨hR.1.1, fun j hj => upd_in rfl hj (fun q => hR.1.2.1 j q), hR.1.2.2⟩ (fun _ => hR.2.2.1 (by omega)) (fun _ => hR.2.2.2 (by omega)))
      · refine lv_iconst (v := nI 0) hx hb dX1_takesGood_24 (by decide) ?_
        exact hret _ _ _ _ _ _ _ _ dX1_takesGood_25 hS hw (Nat.zero_le _) (Nat.zero_le _) (by decide) (rpo_n (pst8n h6 (by omega)))
set_option maxRecDepth 100000 in
set_option maxHeartbeats 4000000 in
theorem c_X1_takes (l : Launch) (D : va_G) (ka : Nat → ClassId) (z : Nat) (rd : Nat) (d rk : Nat → Nat) (P : NN) (kd nv : Int32) (wf df : Nat → Int32) (tf : Nat → Option Nat) (kf nf mf : Nat → Int32) (hR : RS P kd nv wf df kf nf mf) (c1 : Int32) (c9 : Int) (hc1 : c1.toInt = c9) (R : va_W) : MU l D ka z yX1_takes cX1_takes 2 (some .boolean) 2 0 0 [.ref rd, .int c1] (rwd ka rd d rk (nI (P 0 6)) kd nv (P 0 0) (P 0 1) (P 0 2) wf df tf kf nf mf ++ R) (Qi D z (fun r w => rpo ka rd d rk P wf df tf kf nf mf R c9 r w)) := by
  refine MU.ofZ (by decide) (Nat.le_of_ble_eq_true rfl) ?_
  intro p e s m args below meth c Q X hw hS hret ls hl
  obtain ⟨hx, hb, hml, hown, hts, hE⟩ := id X
  have hK := hE.1
  have hz0 := hw.1
  have hl : lv_has ls 2 [(0, .ref rd), (1, .int c1)] := hl
  have hI := hR.2.1
  obtain ⟨⟨hi0, hi1, hi2, hi6, hi7, hi8, hi9, hi10⟩, -⟩ := id hI
  refine lv_aload_n hx hb dX1_takes_0 rfl (lv_at hl 0 rfl) ?_
  refine va_get (D := D) (ci := 1) (v := .int (nI (P 0 6))) (C := RX1) (T := TX1) (N := 7) hx hb hts inX1 hown hK hw.2.1 0 rfl rfl 4 (by decide) (hts _ wd_78) (fun _ h9 => h9) rfl dX1_takes_1 ?_
  have hT_1 : (nI (P 0 6)).toInt = ((P 0 6 : Nat) : Int) := (nT (by omega))
  by_cases cs_2 : ((P 0 6 : Nat) : Int) = 0
  · refine lv_tableIn (off := 48) (tgt := 52) hx hb dX1_takes_4 (by rw [hT_1, cs_2]; decide) (by rw [hT_1, cs_2]; decide) (by rw [hT_1, cs_2]; rfl) (by decide) ?_
    refine lv_aload_n hx hb dX1_takes_52 rfl (lv_at hl 0 rfl) ?_
    refine lv_iload_n hx hb dX1_takes_53 rfl (lv_at hl 1 rfl) ?_
    refine lv_bipush (v := nI 118) hx hb dX1_takes_54 (by decide) ?_
    refine i_icmp_ne (tgt := 63) hx hb hc1 (nT (by decide)) dX1_takes_56 (by decide) (fun c_3 => ?_) (fun c_3 => ?_)
    · refine lv_iconst (v := nI 0) hx hb dX1_takes_63 (by decide) ?_
      refine lv_iconst (v := nI 1) hx hb dX1_takes_64 (by decide) ?_
      refine mu_i (mu_runV (c_X1_goesOn l D ka z rd (d 0) (rk 0) (rk 1) (rk 2) 0 1 (nI (P 0 6)) kd nv (by decide) (([((rk 0), .inl (ka 0, 5, .inl (kf))), ((rk 1), .inl (ka 0, 5, .inl (nf))), ((rk 2), .inl (ka 0, 5, .inl (mf))), ((d 0), .inr (8, [.ref (d 1), .ref (d 2), .ref (d 3), .int (nI (P 0 0)), .int (nI (P 0 1)), .int (nI (P 0 2))])), ((d 1), .inl (ka 0, 6, .inl (wf))), ((d 2), .inl (ka 2, 5, .inr (.inr (.inr (.inr (tf)))))), ((d 3), .inl (ka 0, 5, .inl (df)))] : va_W) ++ R)) X wd_221 wd_218 wd_219 wd_220 wd_2 on_X1_goesOn ⟨Nat.le_of_ble_eq_true rfl, Nat.le_of_ble_eq_true rfl⟩ (va_recv hK hw.2.1 (ci := 1) (q0 := 0) rfl rfl) hw hl.1 rfl (Nat.le_of_ble_eq_true rfl) ⟨Nat.le_of_ble_eq_true rfl, Nat.le_of_ble_eq_true rfl⟩ dX1_takes_65) hS (fun r_5 u_4 H locs hp_u_4 hw hS => ?_)
      obtain ⟨rfl, rfl⟩ := hp_u_4
      have hw : wdH D z (([(rd, .inr (1, [.ref (d 0), .ref (rk 0), .ref (rk 1), .ref (rk 2), .int (nI (P 0 6)), .int kd, .int nv])), ((rk 0), .inl (ka 0, 5, .inl (kf))), ((rk 1), .inl (ka 0, 5, .inl (nf))), ((rk 2), .inl (ka 0, 5, .inl (mf))), ((d 0), .inr (8, [.ref (d 1), .ref (d 2), .ref (d 3), .int (nI (P 0 0)), .int (nI (P 0 1)), .int (nI (P 0 2))])), ((d 1), .inl (ka 0, 6, .inl (wf))), ((d 2), .inl (ka 2, 5, .inr (.inr (.inr (.inr (tf)))))), ((d 3), .inl (ka 0, 5, .inl (df)))] : va_W) ++ R) H := hw
      exact hret _ _ _ _ _ _ _ _ dX1_takes_68 hS hw (Nat.zero_le _) (Nat.zero_le _) (by decide) (rpo_n (pst0n (by omega) (by omega)))
    · refine lv_iconst (v := nI 1) hx hb dX1_takes_59 (by decide) ?_
      refine lv_goto (tgt := 64) hx hb dX1_takes_60 (by decide) ?_
      refine lv_iconst (v := nI 1) hx hb dX1_takes_64 (by decide) ?_
      refine mu_i (mu_runV (c_X1_goesOn l D ka z rd (d 0) (rk 0) (rk 1) (rk 2) 1 1 (nI (P 0 6)) kd nv (by decide) (([((rk 0), .inl (ka 0, 5, .inl (kf))), ((rk 1), .inl (ka 0, 5, .inl (nf))), ((rk 2), .inl (ka 0, 5, .inl (mf))), ((d 0), .inr (8, [.ref (d 1), .ref (d 2), .ref (d 3), .int (nI (P 0 0)), .int (nI (P 0 1)), .int (nI (P 0 2))])), ((d 1), .inl (ka 0, 6, .inl (wf))), ((d 2), .inl (ka 2, 5, .inr (.inr (.inr (.inr (tf)))))), ((d 3), .inl (ka 0, 5, .inl (df)))] : va_W) ++ R)) X wd_221 wd_218 wd_219 wd_220 wd_2 on_X1_goesOn ⟨Nat.le_of_ble_eq_true rfl, Nat.le_of_ble_eq_true rfl⟩ (va_recv hK hw.2.1 (ci := 1) (q0 := 0) rfl rfl) hw hl.1 rfl (Nat.le_of_ble_eq_true rfl) ⟨Nat.le_of_ble_eq_true rfl, Nat.le_of_ble_eq_true rfl⟩ dX1_takes_65) hS (fun r_7 u_6 H locs hp_u_6 hw hS => ?_)
      obtain ⟨rfl, rfl⟩ := hp_u_6
      have hw : wdH D z (([(rd, .inr (1, [.ref (d 0), .ref (rk 0), .ref (rk 1), .ref (rk 2), .int (nI 1), .int kd, .int nv])), ((rk 0), .inl (ka 0, 5, .inl (kf))), ((rk 1), .inl (ka 0, 5, .inl (nf))), ((rk 2), .inl (ka 0, 5, .inl (mf))), ((d 0), .inr (8, [.ref (d 1), .ref (d 2), .ref (d 3), .int (nI (P 0 0)), .int (nI (P 0 1)), .int (nI (P 0 2))])), ((d 1), .inl (ka 0, 6, .inl (wf))), ((d 2), .inl (ka 2, 5, .inr (.inr (.inr (.inr (tf)))))), ((d 3), .inl (ka 0, 5, .inl (df)))] : va_W) ++ R) H := hw
      exact hret _ _ _ _ _ _ _ _ dX1_takes_68 hS hw (Nat.zero_le _) (Nat.zero_le _) (by decide) (rpo_s (P2 := up P 0 6 1) (by rw [show c9 = 118 by omega]; exact pst0 (by omega)) hI hR.1 (fun q => absurd (show 4 ≤ 1 from q) (by decide)) (fun q => absurd (show 5 ≤ 1 from q) (by decide)))
  by_cases cs_8 : ((P 0 6 : Nat) : Int) = 1
  · refine lv_tableIn (off := 65) (tgt := 69) hx hb dX1_takes_4 (by rw [hT_1, cs_8]; decide) (by rw [hT_1, cs_8]; decide) (by rw [hT_1, cs_8]; rfl) (by decide) ?_
    refine lv_aload_n hx hb dX1_takes_69 rfl (lv_at hl 0 rfl) ?_
    refine lv_iload_n hx hb dX1_takes_70 rfl (lv_at hl 1 rfl) ?_
    refine mu_i (mu_runV (c_X1_takesGloom l D ka z rd d rk P kd nv wf df tf kf nf mf hR c1 c9 hc1 R (by first | exact pst1 (by omega) | exact pst2 (by omega) (by omega))) X wd_225 wd_222 wd_223 wd_224 wd_2 on_X1_takesGloom ⟨Nat.le_of_ble_eq_true rfl, Nat.le_of_ble_eq_true rfl⟩ (va_recv hK hw.2.1 (ci := 1) (q0 := 0) rfl rfl) hw hl.1 rfl (Nat.le_of_ble_eq_true rfl) ⟨Nat.le_of_ble_eq_true rfl, Nat.le_of_ble_eq_true rfl⟩ dX1_takes_71) hS (fun r_10 u_9 H locs hp_u_9 hw hS => ?_)
    exact hret _ _ _ _ _ _ _ _ dX1_takes_74 hS hw (Nat.zero_le _) (Nat.zero_le _) (rpo_01 hp_u_9) hp_u_9
  by_cases cs_11 : ((P 0 6 : Nat) : Int) = 2
  · refine lv_tableIn (off := 71) (tgt := 75) hx hb dX1_takes_4 (by rw [hT_1, cs_11]; decide) (by rw [hT_1, cs_11]; decide) (by rw [hT_1, cs_11]; rfl) (by decide) ?_
    refine lv_iload_n hx hb dX1_takes_75 rfl (lv_at hl 1 rfl) ?_
    refine lv_bipush (v := nI 59) hx hb dX1_takes_76 (by decide) ?_
    refine i_icmp_ne (tgt := 90) hx hb hc1 (nT (by decide)) dX1_takes_78 (by decide) (fun c_12 => ?_) (fun c_12 => ?_)
    · refine lv_aload_n hx hb dX1_takes_90 rfl (lv_at hl 0 rfl) ?_
      refine lv_iload_n hx hb dX1_takes_91 rfl (lv_at hl 1 rfl) ?_
      refine mu_i (mu_runV (c_X1_takesGloom l D ka z rd d rk P kd nv wf df tf kf nf mf hR c1 c9 hc1 R (by first | exact pst1 (by omega) | exact pst2 (by omega) (by omega))) X wd_225 wd_222 wd_223 wd_224 wd_2 on_X1_takesGloom ⟨Nat.le_of_ble_eq_true rfl, Nat.le_of_ble_eq_true rfl⟩ (va_recv hK hw.2.1 (ci := 1) (q0 := 0) rfl rfl) hw hl.1 rfl (Nat.le_of_ble_eq_true rfl) ⟨Nat.le_of_ble_eq_true rfl, Nat.le_of_ble_eq_true rfl⟩ dX1_takes_92) hS (fun r_14 u_13 H locs hp_u_13 hw hS => ?_)
      exact hret _ _ _ _ _ _ _ _ dX1_takes_95 hS hw (Nat.zero_le _) (Nat.zero_le _) (rpo_01 hp_u_13) hp_u_13
    · refine lv_aload_n hx hb dX1_takes_81 rfl (lv_at hl 0 rfl) ?_
      refine lv_iconst (v := nI 1) hx hb dX1_takes_82 (by decide) ?_
      refine lv_iconst (v := nI 3) hx hb dX1_takes_83 (by decide) ?_
      refine mu_i (mu_runV (c_X1_goesOn l D ka z rd (d 0) (rk 0) (rk 1) (rk 2) 1 3 (nI (P 0 6)) kd nv (by decide) (([((rk 0), .inl (ka 0, 5, .inl (kf))), ((rk 1), .inl (ka 0, 5, .inl (nf))), ((rk 2), .inl (ka 0, 5, .inl (mf))), ((d 0), .inr (8, [.ref (d 1), .ref (d 2), .ref (d 3), .int (nI (P 0 0)), .int (nI (P 0 1)), .int (nI (P 0 2))])), ((d 1), .inl (ka 0, 6, .inl (wf))), ((d 2), .inl (ka 2, 5, .inr (.inr (.inr (.inr (tf)))))), ((d 3), .inl (ka 0, 5, .inl (df)))] : va_W) ++ R)) X wd_221 wd_218 wd_219 wd_220 wd_2 on_X1_goesOn ⟨Nat.le_of_ble_eq_true rfl, Nat.le_of_ble_eq_true rfl⟩ (va_recv hK hw.2.1 (ci := 1) (q0 := 0) rfl rfl) hw hl.1 rfl (Nat.le_of_ble_eq_true rfl) ⟨Nat.le_of_ble_eq_true rfl, Nat.le_of_ble_eq_true rfl⟩ dX1_takes_84) hS (fun r_16 u_15 H locs hp_u_15 hw hS => ?_)
      obtain ⟨rfl, rfl⟩ := hp_u_15
      have hw : wdH D z (([(rd, .inr (1, [.ref (d 0), .ref (rk 0), .ref (rk 1), .ref (rk 2), .int (nI 3), .int kd, .int nv])), ((rk 0), .inl (ka 0, 5, .inl (kf))), ((rk 1), .inl (ka 0, 5, .inl (nf))), ((rk 2), .inl (ka 0, 5, .inl (mf))), ((d 0), .inr (8, [.ref (d 1), .ref (d 2), .ref (d 3), .int (nI (P 0 0)), .int (nI (P 0 1)), .int (nI (P 0 2))])), ((d 1), .inl (ka 0, 6, .inl (wf))), ((d 2), .inl (ka 2, 5, .inr (.inr (.inr (.inr (tf)))))), ((d 3), .inl (ka 0, 5, .inl (df)))] : va_W) ++ R) H := hw
      refine lv_goto (tgt := 95) hx hb dX1_takes_87 (by decide) ?_
      exact hret _ _ _ _ _ _ _ _ dX1_takes_95 hS hw (Nat.zero_le _) (Nat.zero_le _) (by decide) (rpo_s (P2 := up P 0 6 3) (by rw [show c9 = 59 by omega]; exact pst2s (by omega)) hI hR.1 (fun q => absurd (show 4 ≤ 3 from q) (by decide)) (fun q => absurd (show 5 ≤ 3 from q) (by decide)))
  by_cases cs_17 : ((P 0 6 : Nat) : Int) = 3
  · refine lv_tableIn (off := 92) (tgt := 96) hx hb dX1_takes_4 (by rw [hT_1, cs_17]; decide) (by rw [hT_1, cs_17]; decide) (by rw [hT_1, cs_17]; rfl) (by decide) ?_
    refine lv_aload_n hx hb dX1_takes_96 rfl (lv_at hl 0 rfl) ?_
    refine lv_iload_n hx hb dX1_takes_97 rfl (lv_at hl 1 rfl) ?_
    refine mu_i (mu_runV (c_X1_takesKind l D ka z rd d rk P kd nv wf df tf kf nf mf hR c1 c9 hc1 R (by omega)) X wd_232 wd_229 wd_230 wd_231 wd_2 on_X1_takesKind ⟨Nat.le_of_ble_eq_true rfl, Nat.le_of_ble_eq_true rfl⟩ (va_recv hK hw.2.1 (ci := 1) (q0 := 0) rfl rfl) hw hl.1 rfl (Nat.le_of_ble_eq_true rfl) ⟨Nat.le_of_ble_eq_true rfl, Nat.le_of_ble_eq_true rfl⟩ dX1_takes_98) hS (fun r_19 u_18 H locs hp_u_18 hw hS => ?_)
    exact hret _ _ _ _ _ _ _ _ dX1_takes_101 hS hw (Nat.zero_le _) (Nat.zero_le _) (rpo_01 hp_u_18) hp_u_18
  by_cases cs_20 : ((P 0 6 : Nat) : Int) = 4
  · refine lv_tableIn (off := 98) (tgt := 102) hx hb dX1_takes_4 (by rw [hT_1, cs_20]; decide) (by rw [hT_1, cs_20]; decide) (by rw [hT_1, cs_20]; rfl) (by decide) ?_
    refine lv_aload_n hx hb dX1_takes_102 rfl (lv_at hl 0 rfl) ?_
    refine lv_iload_n hx hb dX1_takes_103 rfl (lv_at hl 1 rfl) ?_
    refine mu_i (mu_runV (c_X1_takesTens l D ka z rd d rk P kd nv wf df tf kf nf mf hR c1 c9 hc1 R (by omega)) X wd_236 wd_233 wd_234 wd_235 wd_2 on_X1_takesTens ⟨Nat.le_of_ble_eq_true rfl, Nat.le_of_ble_eq_true rfl⟩ (va_recv hK hw.2.1 (ci := 1) (q0 := 0) rfl rfl) hw hl.1 rfl (Nat.le_of_ble_eq_true rfl) ⟨Nat.le_of_ble_eq_true rfl, Nat.le_of_ble_eq_true rfl⟩ dX1_takes_104) hS (fun r_22 u_21 H locs hp_u_21 hw hS => ?_)
    exact hret _ _ _ _ _ _ _ _ dX1_takes_107 hS hw (Nat.zero_le _) (Nat.zero_le _) (rpo_01 hp_u_21) hp_u_21
  by_cases cs_23 : ((P 0 6 : Nat) : Int) = 5
  · refine lv_tableIn (off := 104) (tgt := 108) hx hb dX1_takes_4 (by rw [hT_1, cs_23]; decide) (by rw [hT_1, cs_23]; decide) (by rw [hT_1, cs_23]; rfl) (by decide) ?_
    refine lv_aload_n hx hb dX1_takes_108 rfl (lv_at hl 0 rfl) ?_
    refine lv_iload_n hx hb dX1_takes_109 rfl (lv_at hl 1 rfl) ?_
    refine mu_i (mu_runV (c_X1_takesOnes l D ka z rd d rk P kd nv wf df tf kf nf mf hR c1 c9 hc1 R (by omega)) X wd_240 wd_237 wd_238 wd_239 wd_2 on_X1_takesOnes ⟨Nat.le_of_ble_eq_true rfl, Nat.le_of_ble_eq_true rfl⟩ (va_recv hK hw.2.1 (ci := 1) (q0 := 0) rfl rfl) hw hl.1 rfl (Nat.le_of_ble_eq_true rfl) ⟨Nat.le_of_ble_eq_true rfl, Nat.le_of_ble_eq_true rfl⟩ dX1_takes_110) hS (fun r_25 u_24 H locs hp_u_24 hw hS => ?_)
    exact hret _ _ _ _ _ _ _ _ dX1_takes_113 hS hw (Nat.zero_le _) (Nat.zero_le _) (rpo_01 hp_u_24) hp_u_24
  by_cases cs_26 : ((P 0 6 : Nat) : Int) = 6
  · refine lv_tableIn (off := 110) (tgt := 114) hx hb dX1_takes_4 (by rw [hT_1, cs_26]; decide) (by rw [hT_1, cs_26]; decide) (by rw [hT_1, cs_26]; rfl) (by decide) ?_
    refine lv_aload_n hx hb dX1_takes_114 rfl (lv_at hl 0 rfl) ?_
    refine lv_iload_n hx hb dX1_takes_115 rfl (lv_at hl 1 rfl) ?_
    refine mu_i (mu_runV (c_X1_takesMind l D ka z rd d rk P kd nv wf df tf kf nf mf hR c1 c9 hc1 R (by omega)) X wd_244 wd_241 wd_242 wd_243 wd_2 on_X1_takesMind ⟨Nat.le_of_ble_eq_true rfl, Nat.le_of_ble_eq_true rfl⟩ (va_recv hK hw.2.1 (ci := 1) (q0 := 0) rfl rfl) hw hl.1 rfl (Nat.le_of_ble_eq_true rfl) ⟨Nat.le_of_ble_eq_true rfl, Nat.le_of_ble_eq_true rfl⟩ dX1_takes_116) hS (fun r_28 u_27 H locs hp_u_27 hw hS => ?_)
    exact hret _ _ _ _ _ _ _ _ dX1_takes_119 hS hw (Nat.zero_le _) (Nat.zero_le _) (rpo_01 hp_u_27) hp_u_27
  by_cases cs_29 : ((P 0 6 : Nat) : Int) = 7
  · refine lv_tableIn (off := 116) (tgt := 120) hx hb dX1_takes_4 (by rw [hT_1, cs_29]; decide) (by rw [hT_1, cs_29]; decide) (by rw [hT_1, cs_29]; rfl) (by decide) ?_
    refine lv_aload_n hx hb dX1_takes_120 rfl (lv_at hl 0 rfl) ?_
    refine lv_iload_n hx hb dX1_takes_121 rfl (lv_at hl 1 rfl) ?_
    refine mu_i (mu_runV (c_X1_takesBehindTaker l D ka z rd d rk P kd nv wf df tf kf nf mf hR c1 c9 hc1 R (by omega)) X wd_248 wd_245 wd_246 wd_247 wd_2 on_X1_takesBehindTaker ⟨Nat.le_of_ble_eq_true rfl, Nat.le_of_ble_eq_true rfl⟩ (va_recv hK hw.2.1 (ci := 1) (q0 := 0) rfl rfl) hw hl.1 rfl (Nat.le_of_ble_eq_true rfl) ⟨Nat.le_of_ble_eq_true rfl, Nat.le_of_ble_eq_true rfl⟩ dX1_takes_122) hS (fun r_31 u_30 H locs hp_u_30 hw hS => ?_)
    exact hret _ _ _ _ _ _ _ _ dX1_takes_125 hS hw (Nat.zero_le _) (Nat.zero_le _) (rpo_01 hp_u_30) hp_u_30
  refine lv_tableOut (tgt := 126) hx hb dX1_takes_4 (by rw [hT_1]; omega) (by decide) ?_
  refine lv_aload_n hx hb dX1_takes_126 rfl (lv_at hl 0 rfl) ?_
  refine lv_iload_n hx hb dX1_takes_127 rfl (lv_at hl 1 rfl) ?_
  refine mu_i (mu_runV (c_X1_takesGood l D ka z rd d rk P kd nv wf df tf kf nf mf hR c1 c9 hc1 R (by omega)) X wd_252 wd_249 wd_250 wd_251 wd_2 on_X1_takesGood ⟨Nat.le_of_ble_eq_true rfl, Nat.le_of_ble_eq_true rfl⟩ (va_recv hK hw.2.1 (ci := 1) (q0 := 0) rfl rfl) hw hl.1 rfl (Nat.le_of_ble_eq_true rfl) ⟨Nat.le_of_ble_eq_true rfl, Nat.le_of_ble_eq_true rfl⟩ dX1_takes_128) hS (fun r_33 u_32 H locs hp_u_32 hw hS => ?_)
  exact hret _ _ _ _ _ _ _ _ dX1_takes_131 hS hw (Nat.zero_le _) (Nat.zero_le _) (rpo_01 hp_u_32) hp_u_32
