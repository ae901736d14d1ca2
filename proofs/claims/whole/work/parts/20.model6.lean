set_option maxRecDepth 100000 in
set_option maxHeartbeats 4000000 in
theorem c_X11_digit (l : Launch) (D : va_G) (ka : Nat → ClassId) (z : Nat) (h : Nat) (a : Nat → Nat) (N : Nat → Nat → Nat) (C : Nat → Nat → Int32) (f : Nat → Int32) (g : Nat → Nat → Int32) (R : va_W) (t e1 lo : Nat) (hte : t ≤ e1) (he : e1 ≤ 240) (hlo : lo ≤ 1) : MU l D ka z yX11_digit cX11_digit 3 (some .int) 1 0 0 [.ref h, .int (nI e1), .int (nI lo)] (mw ka h a N C (upd f 13 (nI t)) g ++ R) (Qi D z (fun r w => ∃ t2, w = mw ka h a N C (upd f 13 (nI t2)) g ++ R ∧ (r, t2) = (if t < e1 ∧ (48 + (lo : Int) ≤ cz C t ∧ cz C t ≤ 57) then (nI (cz C t - 48).toNat, t + 1) else (-9, t)))) := by
  refine MU.ofI (by decide) (Nat.le_of_ble_eq_true rfl) ?_
  intro p e s m args below meth c Q X hw hS hret ls hl
  obtain ⟨hx, hb, hml, hown, hts, hE⟩ := id X
  have hK := hE.1
  have hz0 := hw.1
  have hl : lv_has ls 3 [(0, .ref h), (1, .int (nI e1)), (2, .int (nI lo))] := hl
  refine lv_aload_n hx hb dX11_digit_0 rfl (lv_at hl 0 rfl) ?_
  refine va_get (D := D) (ci := 11) (v := .int (nI t)) (C := RX11) (T := TX11) (N := 35) hx hb hts inX11 hown hK hw.2.1 0 rfl rfl 13 (by decide) (hts _ wd_687) (fun _ h9 => h9) rfl dX11_digit_1 ?_
  refine lv_iload_n hx hb dX11_digit_4 rfl (lv_at hl 1 rfl) ?_
  refine i_icmp_ge (tgt := 29) hx hb (nT (by omega)) (nT (by omega)) dX11_digit_5 (by decide) (fun c_1 => ?_) (fun c_1 => ?_)
  · refine lv_bipush (v := (-9)) hx hb dX11_digit_29 (by decide) ?_
    refine hret _ _ _ _ _ _ _ _ dX11_digit_31 hS hw (Nat.zero_le _) (Nat.zero_le _) ?_
    exact ⟨t, rfl, by rw [if_neg (by omega)]⟩
  · refine lv_aload_n hx hb dX11_digit_8 rfl (lv_at hl 0 rfl) ?_
    refine va_get (D := D) (ci := 11) (v := .ref (a 4)) (C := RX11) (T := TX11) (N := 35) hx hb hts inX11 hown hK hw.2.1 0 rfl rfl 4 (by decide) (hts _ wd_678) (fun _ h9 => h9) rfl dX11_digit_9 ?_
    refine lv_aload_n hx hb dX11_digit_12 rfl (lv_at hl 0 rfl) ?_
    refine va_get (D := D) (ci := 11) (v := .int (nI t)) (C := RX11) (T := TX11) (N := 35) hx hb hts inX11 hown hK hw.2.1 0 rfl rfl 13 (by decide) (hts _ wd_687) (fun _ h9 => h9) rfl dX11_digit_13 ?_
    refine n_iald hx hb hK hw.2.1 3 0 rfl rfl (k := t) (by omega) (by decide) dX11_digit_16 ?_
    refine lv_bipush (v := nI 48) hx hb dX11_digit_17 (by decide) ?_
    refine lv_iload_n hx hb dX11_digit_19 rfl (lv_at hl 2 rfl) ?_
    refine n_iadd hx hb dX11_digit_20 ?_
    refine lv_bipush (v := nI 57) hx hb dX11_digit_21 (by decide) ?_
    refine vp_callSi (ro_runS (c_X11_within l D ka (C (t / 60) (t % 60)) (nI (48 + lo)) (nI 57) _ _ _ (show (C (t / 60) (t % 60)).toInt = cz C t from rfl) (nT (by omega)) (nT (by decide))) X wd_789 wd_787 wd_788 wd_8 on_X11_within ⟨Nat.le_of_ble_eq_true rfl, Nat.le_of_ble_eq_true rfl⟩ trivial hl.1 rfl (Nat.le_of_ble_eq_true rfl) ⟨(Nat.zero_le _), (Nat.zero_le _)⟩ dX11_digit_23) (fun r_2 hr_2 => ?_)
    subst hr_2
    refine b_if_ne (tgt := 32) hx hb dX11_digit_26 (by decide) (fun c_3 => ?_) (fun c_3 => ?_)
    · refine lv_aload_n hx hb dX11_digit_32 rfl (lv_at hl 0 rfl) ?_
      refine lv_dup hx hb dX11_digit_33 rfl ?_
      refine va_get (D := D) (ci := 11) (v := .int (nI t)) (C := RX11) (T := TX11) (N := 35) hx hb hts inX11 hown hK hw.2.1 0 rfl rfl 13 (by decide) (hts _ wd_687) (fun _ h9 => h9) rfl dX11_digit_34 ?_
      refine lv_iconst (v := nI 1) hx hb dX11_digit_37 (by decide) ?_
      refine n_iadd hx hb dX11_digit_38 ?_
      refine va_put (D := D) (ci := 11) (ty := .int) (C := RX11) (T := TX11) (N := 35) hx hb hts inX11 tyX11 tyX11_ok nmX11 hown hK hw.2.1 hw.2.2 hS 0 rfl rfl 13 (by decide) (hts _ wd_687) (fun _ h9 => h9) rfl (by decide +kernel) rfl rfl (Nat.le_of_ble_eq_true rfl) dX11_digit_39 (fun H locs hP hD hS => ?_)
      have hw : wdH D z (mw ka h a N C (upd f 13 (nI (t + 1))) g ++ R) H := ⟨Nat.le_trans hz0 hS.1, hP, hD⟩
      refine lv_aload_n hx hb dX11_digit_42 rfl (lv_at hl 0 rfl) ?_
      refine va_get (D := D) (ci := 11) (v := .ref (a 4)) (C := RX11) (T := TX11) (N := 35) hx hb hts inX11 hown hK hw.2.1 0 rfl rfl 4 (by decide) (hts _ wd_678) (fun _ h9 => h9) rfl dX11_digit_43 ?_
      refine lv_aload_n hx hb dX11_digit_46 rfl (lv_at hl 0 rfl) ?_
      refine va_get (D := D) (ci := 11) (v := .int (nI (t + 1))) (C := RX11) (T := TX11) (N := 35) hx hb hts inX11 hown hK hw.2.1 0 rfl rfl 13 (by decide) (hts _ wd_687) (fun _ h9 => h9) rfl dX11_digit_47 ?_
      refine lv_iconst (v := nI 1) hx hb dX11_digit_50 (by decide) ?_
      refine n_isub hx hb (by omega) dX11_digit_51 ?_
      refine n_iald hx hb hK hw.2.1 3 0 rfl rfl (k := (t + 1) - 1) (by omega) (by decide) dX11_digit_52 ?_
      refine lv_bipush (v := nI 48) hx hb dX11_digit_53 (by decide) ?_
      obtain ⟨v, hv, hcv⟩ : ∃ v : Nat, (v : Int) = cz C t - 48 ∧ C (t / 60) (t % 60) = nI (v + 48) := ⟨(cz C t - 48).toNat, by omega, by rw [ii_eq, nT (by omega)]; show cz C t = _; omega⟩
      rw [Nat.add_sub_cancel, hcv]
      refine n_isub hx hb (by omega) dX11_digit_55 ?_
      refine hret _ _ _ _ _ _ _ _ dX11_digit_56 hS hw (Nat.zero_le _) (Nat.zero_le _) ?_
      exact ⟨t + 1, rfl, by rw [if_pos (by omega), show (cz C t - 48).toNat = v + 48 - 48 by omega]⟩
    · refine lv_bipush (v := (-9)) hx hb dX11_digit_29 (by decide) ?_
      refine hret _ _ _ _ _ _ _ _ dX11_digit_31 hS hw (Nat.zero_le _) (Nat.zero_le _) ?_
      exact ⟨t, rfl, by rw [if_neg (by omega)]⟩
set_option maxRecDepth 100000 in
set_option maxHeartbeats 4000000 in
theorem c_X11_isSign (l : Launch) (D : va_G) (ka : Nat → ClassId) (z : Nat) (h : Nat) (a : Nat → Nat) (N : Nat → Nat → Nat) (C : Nat → Nat → Int32) (f : Nat → Int32) (g : Nat → Nat → Int32) (R : va_W) (t e1 co : Nat) (hte : t ≤ e1) (he : e1 ≤ 240) (hco : co < 1000) : MU l D ka z yX11_isSign cX11_isSign 3 (some .boolean) 0 0 0 [.ref h, .int (nI e1), .int (nI co)] (mw ka h a N C (upd f 13 (nI t)) g ++ R) (Qi D z (fun r w => ∃ t2, w = mw ka h a N C (upd f 13 (nI t2)) g ++ R ∧ (r, t2) = (if t < e1 ∧ cz C t = co then ((1 : Int32), t + 1) else (0, t)))) := by
  refine MU.ofZ (by decide) (Nat.le_of_ble_eq_true rfl) ?_
  intro p e s m args below meth c Q X hw hS hret ls hl
  obtain ⟨hx, hb, hml, hown, hts, hE⟩ := id X
  have hK := hE.1
  have hz0 := hw.1
  have hl : lv_has ls 3 [(0, .ref h), (1, .int (nI e1)), (2, .int (nI co))] := hl
  refine lv_aload_n hx hb dX11_isSign_0 rfl (lv_at hl 0 rfl) ?_
  refine va_get (D := D) (ci := 11) (v := .int (nI t)) (C := RX11) (T := TX11) (N := 35) hx hb hts inX11 hown hK hw.2.1 0 rfl rfl 13 (by decide) (hts _ wd_687) (fun _ h9 => h9) rfl dX11_isSign_1 ?_
  refine lv_iload_n hx hb dX11_isSign_4 rfl (lv_at hl 1 rfl) ?_
  refine i_icmp_ge (tgt := 21) hx hb (nT (by omega)) (nT (by omega)) dX11_isSign_5 (by decide) (fun c_1 => ?_) (fun c_1 => ?_)
  · refine lv_iconst (v := nI 0) hx hb dX11_isSign_21 (by decide) ?_
    refine hret _ _ _ _ _ _ _ _ dX11_isSign_22 hS hw (Nat.zero_le _) (Nat.zero_le _) (by decide) ?_
    exact ⟨t, rfl, by rw [if_neg (by omega)]; rfl⟩
  · refine lv_aload_n hx hb dX11_isSign_8 rfl (lv_at hl 0 rfl) ?_
    refine va_get (D := D) (ci := 11) (v := .ref (a 4)) (C := RX11) (T := TX11) (N := 35) hx hb hts inX11 hown hK hw.2.1 0 rfl rfl 4 (by decide) (hts _ wd_678) (fun _ h9 => h9) rfl dX11_isSign_9 ?_
    refine lv_aload_n hx hb dX11_isSign_12 rfl (lv_at hl 0 rfl) ?_
    refine va_get (D := D) (ci := 11) (v := .int (nI t)) (C := RX11) (T := TX11) (N := 35) hx hb hts inX11 hown hK hw.2.1 0 rfl rfl 13 (by decide) (hts _ wd_687) (fun _ h9 => h9) rfl dX11_isSign_13 ?_
    refine n_iald hx hb hK hw.2.1 3 0 rfl rfl (k := t) (by omega) (by decide) dX11_isSign_16 ?_
    refine lv_iload_n hx hb dX11_isSign_17 rfl (lv_at hl 2 rfl) ?_
    refine i_icmp_eq (tgt := 23) hx hb (show (C (t / 60) (t % 60)).toInt = cz C t from rfl) (nT (by omega)) dX11_isSign_18 (by decide) (fun c_2 => ?_) (fun c_2 => ?_)
    · refine lv_aload_n hx hb dX11_isSign_23 rfl (lv_at hl 0 rfl) ?_
      refine lv_dup hx hb dX11_isSign_24 rfl ?_
      refine va_get (D := D) (ci := 11) (v := .int (nI t)) (C := RX11) (T := TX11) (N := 35) hx hb hts inX11 hown hK hw.2.1 0 rfl rfl 13 (by decide) (hts _ wd_687) (fun _ h9 => h9) rfl dX11_isSign_25 ?_
      refine lv_iconst (v := nI 1) hx hb dX11_isSign_28 (by decide) ?_
      refine n_iadd hx hb dX11_isSign_29 ?_
      refine va_put (D := D) (ci := 11) (ty := .int) (C := RX11) (T := TX11) (N := 35) hx hb hts inX11 tyX11 tyX11_ok nmX11 hown hK hw.2.1 hw.2.2 hS 0 rfl rfl 13 (by decide) (hts _ wd_687) (fun _ h9 => h9) rfl (by decide +kernel) rfl rfl (Nat.le_of_ble_eq_true rfl) dX11_isSign_30 (fun H locs hP hD hS => ?_)
      have hw : wdH D z (mw ka h a N C (upd f 13 (nI (t + 1))) g ++ R) H := ⟨Nat.le_trans hz0 hS.1, hP, hD⟩
      refine lv_iconst (v := nI 1) hx hb dX11_isSign_33 (by decide) ?_
      refine hret _ _ _ _ _ _ _ _ dX11_isSign_34 hS hw (Nat.zero_le _) (Nat.zero_le _) (by decide) ?_
      exact ⟨t + 1, rfl, by rw [if_pos (by omega)]; rfl⟩
    · refine lv_iconst (v := nI 0) hx hb dX11_isSign_21 (by decide) ?_
      refine hret _ _ _ _ _ _ _ _ dX11_isSign_22 hS hw (Nat.zero_le _) (Nat.zero_le _) (by decide) ?_
      exact ⟨t, rfl, by rw [if_neg (by omega)]; rfl⟩
set_option maxRecDepth 100000 in
set_option maxHeartbeats 4000000 in
theorem c_X11_readTheGloom (l : Launch) (D : va_G) (ka : Nat → ClassId) (z : Nat) (h : Nat) (a : Nat → Nat) (N : Nat → Nat → Nat) (C : Nat → Nat → Int32) (f : Nat → Int32) (g : Nat → Nat → Int32) (R : va_W) (t e1 : Nat) (P : NN) (hte : t ≤ e1) (he : e1 ≤ 240) (hp0 : P 0 0 = 0) (hp6 : P 0 6 = 1) : MU l D ka z yX11_readTheGloom cX11_readTheGloom 3 (some .boolean) 2 0 0 [.ref h, .int (nI e1)] (mw ka h a N C (upd f 13 (nI t)) g ++ R) (Qi D z (fun r w => ∃ t2 g2 P2, w = mw ka h a N C (upd (upd f 13 (nI t2)) 14 (nI (P2 0 0))) g2 ++ R ∧ (t ≤ t2 ∧ t2 ≤ e1) ∧ prun C (e1 - t) t P = prun C (e1 - t2) t2 P2 ∧ ((r = 1 ∧ P2 0 6 = 2 ∧ (1 ≤ P2 0 0 ∧ P2 0 0 ≤ 6) ∧ PG g2 P2 ∧ P2 0 1 = P 0 1 ∧ P2 0 2 = P 0 2 ∧ (t2 < e1 → cz C t2 ≠ 59 → pst P2 (cz C t2) = none)) ∨ (r = 0 ∧ stuck C e1 t2 P2)))) := by
  refine MU.ofZ (by decide) (Nat.le_of_ble_eq_true rfl) ?_
  intro p e s m args below meth c Q X hw hS hret ls hl
  obtain ⟨hx, hb, hml, hown, hts, hE⟩ := id X
  have hK := hE.1
  have hz0 := hw.1
  have hl : lv_has ls 3 [(0, .ref h), (1, .int (nI e1))] := hl
  refine lv_aload_n hx hb dX11_readTheGloom_0 rfl (lv_at hl 0 rfl) ?_
  refine lv_iconst (v := nI 0) hx hb dX11_readTheGloom_1 (by decide) ?_
  refine va_put (D := D) (ci := 11) (ty := .int) (C := RX11) (T := TX11) (N := 35) hx hb hts inX11 tyX11 tyX11_ok nmX11 hown hK hw.2.1 hw.2.2 hS 0 rfl rfl 14 (by decide) (hts _ wd_688) (fun _ h9 => h9) rfl (by decide +kernel) rfl rfl (Nat.le_of_ble_eq_true rfl) dX11_readTheGloom_2 (fun H locs hP hD hS => ?_)
  have hw : wdH D z (mw ka h a N C (upd (upd f 13 (nI t)) 14 (nI 0)) g ++ R) H := ⟨Nat.le_trans hz0 hS.1, hP, hD⟩
  have hw : wdH D z (mw ka h a N C (upd (upd f 13 (nI t)) 14 (nI (P 0 0))) g ++ R) H := by rw [hp0]; exact hw
  have loop5 : ∀ (fuel5 : Nat) (u : Nat) (g1 : Nat → Nat → Int32) (P1 : NN), 6 - P1 0 0 < fuel5 → (t ≤ u ∧ u ≤ e1) → (P1 0 0 ≤ 6) → (P1 0 6 = (if P1 0 0 = 0 then 1 else 2)) → (P1 0 1 = P 0 1 ∧ P1 0 2 = P 0 2) → (PG g1 P1) → (prun C (e1 - t) t P = prun C (e1 - u) u P1) → ∀ (H : Heap) (locs : List Loc), wdH D z (mw ka h a N C (upd (upd f 13 (nI u)) 14 (nI (P1 0 0))) g1 ++ R) H → va_S (fun q => z ≤ q) s.heap H locs → ∀ ls : Array Slot, lv_has ls 3 [(0, .ref h), (1, .int (nI e1))] → W p l e (rmz 2 0 0) s m args below meth c H locs 0 0 Q (F0 m 5 ls []) := by
    intro fuel5
    induction fuel5 with
    | zero => intro u g1 P1 hfu; exact absurd hfu (Nat.not_lt_zero _)
    | succ fuel5 ih5 =>
      intro u g1 P1 hfu hu hP0 hPd hP1 hPG hrun H locs hw hS ls hl
      refine lv_aload_n hx hb dX11_readTheGloom_5 rfl (lv_at hl 0 rfl) ?_
      refine va_get (D := D) (ci := 11) (v := .int (nI (P1 0 0))) (C := RX11) (T := TX11) (N := 35) hx hb hts inX11 hown hK hw.2.1 0 rfl rfl 14 (by decide) (hts _ wd_688) (fun _ h9 => h9) rfl dX11_readTheGloom_6 ?_
      refine lv_bipush (v := nI 6) hx hb dX11_readTheGloom_9 (by decide) ?_
      refine i_icmp_ge (tgt := 63) hx hb (nT (by omega)) (nT (by decide)) dX11_readTheGloom_11 (by decide) (fun c_1 => ?_) (fun c_1 => ?_)
      · refine lv_iconst (v := nI 1) hx hb dX11_readTheGloom_63 (by decide) ?_
        refine hret _ _ _ _ _ _ _ _ dX11_readTheGloom_64 hS hw (Nat.zero_le _) (Nat.zero_le _) (by decide) ?_
        have h62 : P1 0 6 = 2 := by rw [hPd, if_neg (by omega)]
        refine ⟨u, g1, P1, rfl, hu, hrun, Or.inl ⟨rfl, h62, by omega, hPG, hP1.1, hP1.2, fun h1 h2 => ?_⟩⟩
        rw [pst2 h62 h2]; exact pgl_n (by omega)
      · refine lv_aload_n hx hb dX11_readTheGloom_14 rfl (lv_at hl 0 rfl) ?_
        refine lv_iload_n hx hb dX11_readTheGloom_15 rfl (lv_at hl 1 rfl) ?_
        refine lv_iconst (v := nI 0) hx hb dX11_readTheGloom_16 (by decide) ?_
        refine mu_i (mu_runV (c_X11_digit l D ka z h a N C (upd f 14 (nI (P1 0 0))) g1 R u e1 0 (by omega) (by omega) (by omega)) X wd_816 wd_813 wd_815 ws_7 wd_8 on_X11_digit ⟨Nat.le_of_ble_eq_true rfl, Nat.le_of_ble_eq_true rfl⟩ (va_recv hK hw.2.1 (ci := 11) (q0 := 0) rfl rfl) (show wdH D z (mw ka h a N C (upd (upd f 14 (nI (P1 0 0))) 13 (nI u)) g1 ++ R) _ from hw) hl.1 rfl (Nat.le_of_ble_eq_true rfl) ⟨Nat.le_of_ble_eq_true rfl, Nat.le_of_ble_eq_true rfl⟩ dX11_readTheGloom_17) hS (fun r_3 u_2 H locs hp_u_2 hw hS => ?_)
        obtain ⟨t_4, rfl, hrt_5⟩ := hp_u_2
        by_cases cd_6 : u < e1 ∧ (48 + ((0 : Nat) : Int) ≤ cz C u ∧ cz C u ≤ 57)
        · rw [if_pos cd_6] at hrt_5
          obtain ⟨q1, q2⟩ := Prod.mk.inj hrt_5
          subst q1
          subst t_4
          obtain ⟨v_7, hv_7⟩ : ∃ v : Nat, v = (cz C u - 48).toNat := ⟨_, rfl⟩
          rw [← hv_7]
          have hbv_7 : v_7 ≤ 9 ∧ cz C u = (v_7 : Int) + 48 := by omega
          have hw : wdH D z (mw ka h a N C (upd (upd f 13 (nI (u + 1))) 14 (nI (P1 0 0))) g1 ++ R) H := hw
          refine lv_istore_n (lv' := [(2, .int (nI v_7)), (0, .ref h), (1, .int (nI e1))]) hx hb dX11_readTheGloom_20 rfl hl (by decide) rfl (fun ls hl => ?_)
          refine lv_iload_n hx hb dX11_readTheGloom_21 rfl (lv_at hl 0 rfl) ?_
          refine lv_bipush (v := (-9)) hx hb dX11_readTheGloom_22 (by decide) ?_
          refine i_icmp_ne (tgt := 40) hx hb (nT (by omega)) ng9 dX11_readTheGloom_24 (by decide) (fun c_8 => ?_) (fun c_8 => by omega)
          refine lv_aload_n hx hb dX11_readTheGloom_40 rfl (lv_at hl 1 rfl) ?_
          refine va_get (D := D) (ci := 11) (v := .ref (a 17)) (C := RX11) (T := TX11) (N := 35) hx hb hts inX11 hown hK hw.2.1 0 rfl rfl 17 (by decide) (hts _ wd_691) (fun _ h9 => h9) rfl dX11_readTheGloom_41 ?_
          refine lv_aload_n hx hb dX11_readTheGloom_44 rfl (lv_at hl 1 rfl) ?_
          refine va_get (D := D) (ci := 11) (v := .int (nI (P1 0 0))) (C := RX11) (T := TX11) (N := 35) hx hb hts inX11 hown hK hw.2.1 0 rfl rfl 14 (by decide) (hts _ wd_688) (fun _ h9 => h9) rfl dX11_readTheGloom_45 ?_
          refine lv_iload_n hx hb dX11_readTheGloom_48 rfl (lv_at hl 0 rfl) ?_
          refine r_iast hx hb hK hw.2.1 hw.2.2 hS 9 0 rfl rfl (k := P1 0 0) (by omega) (by decide) dX11_readTheGloom_49 (fun H locs hP hD hS => ?_)
          have hw : wdH D z (mw ka h a N C (upd (upd f 13 (nI (u + 1))) 14 (nI (P1 0 0))) (va_up g1 17 (upd (g1 17) (P1 0 0) (nI v_7))) ++ R) H := ⟨Nat.le_trans hz0 hS.1, hP, hD⟩
          refine lv_aload_n hx hb dX11_readTheGloom_50 rfl (lv_at hl 1 rfl) ?_
          refine lv_dup hx hb dX11_readTheGloom_51 rfl ?_
          refine va_get (D := D) (ci := 11) (v := .int (nI (P1 0 0))) (C := RX11) (T := TX11) (N := 35) hx hb hts inX11 hown hK hw.2.1 0 rfl rfl 14 (by decide) (hts _ wd_688) (fun _ h9 => h9) rfl dX11_readTheGloom_52 ?_
          refine lv_iconst (v := nI 1) hx hb dX11_readTheGloom_55 (by decide) ?_
          refine n_iadd hx hb dX11_readTheGloom_56 ?_
          refine va_put (D := D) (ci := 11) (ty := .int) (C := RX11) (T := TX11) (N := 35) hx hb hts inX11 tyX11 tyX11_ok nmX11 hown hK hw.2.1 hw.2.2 hS 0 rfl rfl 14 (by decide) (hts _ wd_688) (fun _ h9 => h9) rfl (by decide +kernel) rfl rfl (Nat.le_of_ble_eq_true rfl) dX11_readTheGloom_57 (fun H locs hP hD hS => ?_)
          have hw : wdH D z (mw ka h a N C (upd (upd f 13 (nI (u + 1))) 14 (nI ((P1 0 0) + 1))) (va_up g1 17 (upd (g1 17) (P1 0 0) (nI v_7))) ++ R) H := ⟨Nat.le_trans hz0 hS.1, hP, hD⟩
          refine lv_goto (tgt := 5) hx hb dX11_readTheGloom_60 (by decide) ?_
          exact ih5 (u + 1) (va_up g1 17 (upd (g1 17) (P1 0 0) (nI v_7))) (up (up (up P1 1 (P1 0 0) (cz C u - 48).toNat) 0 0 (P1 0 0 + 1)) 0 6 2) (by show 6 - (P1 0 0 + 1) < fuel5; omega) (by omega) (by show P1 0 0 + 1 ≤ 6; omega) (by show 2 = (if P1 0 0 + 1 = 0 then 1 else 2); rw [if_neg (by omega)]) hP1 (fun j hj => by have hj : j < P1 0 0 + 1 := hj; show (va_up g1 17 (upd (g1 17) (P1 0 0) (nI v_7))) 17 j = nI (upN (P1 1) (P1 0 0) (cz C u - 48).toNat j) ∧ upN (P1 1) (P1 0 0) (cz C u - 48).toNat j ≤ 9; show upd (g1 17) (P1 0 0) (nI v_7) j = _ ∧ _; unfold upd upN; by_cases hjj : j = P1 0 0 <;> first | (rw [if_pos hjj, if_pos hjj]; exact ⟨by rw [hv_7], by omega⟩) | (rw [if_neg hjj, if_neg hjj]; exact hPG j (by omega))) (by rw [hrun]; refine prun_go (by omega) ?_; by_cases hz : P1 0 0 = 0 <;> first | (rw [pst1 (by rw [hPd, if_pos hz]), pgl_s (by omega)]) | (rw [pst2 (by rw [hPd, if_neg hz]) (by omega), pgl_s (by omega)])) _ _ hw hS ls (lv_sub hl [1, 2] rfl)
        · rw [if_neg cd_6] at hrt_5
          obtain ⟨q1, q2⟩ := Prod.mk.inj hrt_5
          subst q1
          subst t_4
          have hw : wdH D z (mw ka h a N C (upd (upd f 13 (nI u)) 14 (nI (P1 0 0))) g1 ++ R) H := hw
          refine lv_istore_n (lv' := [(2, .int (-9)), (0, .ref h), (1, .int (nI e1))]) hx hb dX11_readTheGloom_20 rfl hl (by decide) rfl (fun ls hl => ?_)
          refine lv_iload_n hx hb dX11_readTheGloom_21 rfl (lv_at hl 0 rfl) ?_
          refine lv_bipush (v := (-9)) hx hb dX11_readTheGloom_22 (by decide) ?_
          refine i_icmp_ne (tgt := 40) hx hb ng9 ng9 dX11_readTheGloom_24 (by decide) (fun c_9 => absurd rfl c_9) (fun c_9 => ?_)
          refine lv_aload_n hx hb dX11_readTheGloom_27 rfl (lv_at hl 1 rfl) ?_
          refine va_get (D := D) (ci := 11) (v := .int (nI (P1 0 0))) (C := RX11) (T := TX11) (N := 35) hx hb hts inX11 hown hK hw.2.1 0 rfl rfl 14 (by decide) (hts _ wd_688) (fun _ h9 => h9) rfl dX11_readTheGloom_28 ?_
          refine i_if_le (tgt := 38) hx hb (nT (by omega)) dX11_readTheGloom_31 (by decide) (fun c_10 => ?_) (fun c_10 => ?_)
          · refine lv_iconst (v := nI 0) hx hb dX11_readTheGloom_38 (by decide) ?_
            refine hret _ _ _ _ _ _ _ _ dX11_readTheGloom_39 hS hw (Nat.zero_le _) (Nat.zero_le _) (by decide) ?_
            have h61 : P1 0 6 = 1 := by rw [hPd, if_pos (by omega)]
            refine ⟨u, g1, P1, rfl, hu, hrun, Or.inr ⟨rfl, fun h1 => ?_, fun _ => by omega⟩⟩
            rw [pst1 h61]; exact pgl_n (by omega)
          · refine lv_iconst (v := nI 1) hx hb dX11_readTheGloom_34 (by decide) ?_
            refine lv_goto (tgt := 39) hx hb dX11_readTheGloom_35 (by decide) ?_
            refine hret _ _ _ _ _ _ _ _ dX11_readTheGloom_39 hS hw (Nat.zero_le _) (Nat.zero_le _) (by decide) ?_
            have h62 : P1 0 6 = 2 := by rw [hPd, if_neg (by omega)]
            refine ⟨u, g1, P1, rfl, hu, hrun, Or.inl ⟨rfl, h62, by omega, hPG, hP1.1, hP1.2, fun h1 h2 => ?_⟩⟩
            rw [pst2 h62 h2]; exact pgl_n (by omega)
  exact loop5 _ t g P (Nat.lt_succ_self _) (by omega) (by omega) (by rw [if_pos hp0]; exact hp6) ⟨rfl, rfl⟩ (fun j hj => by omega) rfl _ _ hw hS ls (lv_sub hl [0, 1] rfl)
