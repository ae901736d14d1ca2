set_option maxRecDepth 100000 in
set_option maxHeartbeats 4000000 in
theorem c_X2_allAreSo (l : Launch) (D : va_G) (ka : Nat → ClassId) (b : Nat → Nat) (v ta : Nat → Nat) (N : NN) (wf df : Nat → Int32) (tf : Nat → Option Nat) (hV : VR N ta wf df tf) (hN : WF N) (hL : N 0 5 = 0) : RO l D ka yX2_allAreSo cX2_allAreSo 4 (some .boolean) 3 [.ref (b 0), .ref (v 0)] (fun H => (va_P D vwCl (([(b 0, .inr (2, [.ref (b 1), .ref (b 2), .ref (b 3), .int (nI (N 0 3))])), (b 1, .inl (ka 0, 8, .inl (fun j => nI (N 6 j)))), (b 2, .inl (ka 0, 8, .inl (fun j => nI (N 7 j)))), (b 3, .inl (ka 0, 8, .inl (fun j => nI (N 8 j))))] : va_W) ++ ([] : va_W)) H ∧ va_P D vwCl (kw ka v ta N wf df tf) H)) (vp_Si (fun r => r = bI (soA N (N 0 3) = true))) := by
  refine RO.ofZ (by decide) (Nat.le_of_ble_eq_true rfl) ?_
  intro p e s m args below meth c Q X hP hret ls hl
  obtain ⟨hx, hb, hml, hown, hts, hE⟩ := id X
  have hK := hE.1
  have hl : lv_has ls 4 [(0, .ref (b 0)), (1, .ref (v 0))] := hl
  obtain ⟨hR9, hP⟩ := hP
  have hN1 := hN.1
  refine lv_iconst (v := nI 0) hx hb dX2_allAreSo_0 (by decide) ?_
  refine lv_istore_n (lv' := [(2, .int (nI 0)), (0, .ref (b 0)), (1, .ref (v 0))]) hx hb dX2_allAreSo_1 rfl hl (by decide) rfl (fun ls hl => ?_)
  have loop2 : ∀ (fuel2 : Nat) (bq : Nat), N 0 3 - bq < fuel2 → (bq ≤ N 0 3) → (soA N bq = true) → ∀ ls : Array Slot, lv_has ls 4 [(0, .ref (b 0)), (1, .ref (v 0)), (2, .int (nI bq))] → W p l e (rmz 3 0 0) s m args below meth c s.heap [] 0 0 Q (F0 m 2 ls []) := by
    intro fuel2
    induction fuel2 with
    | zero => intro bq hfu; exact absurd hfu (Nat.not_lt_zero _)
    | succ fuel2 ih2 =>
      intro bq hfu hbq hs9 ls hl
      have hb6 : bq < N 0 3 → N 6 bq < N 0 1 := hN.2.2.2.2.2.2.1 bq
      refine lv_iload_n hx hb dX2_allAreSo_2 rfl (lv_at hl 2 rfl) ?_
      refine lv_aload_n hx hb dX2_allAreSo_3 rfl (lv_at hl 0 rfl) ?_
      refine va_get (D := D) (ci := 2) (v := .int (nI (N 0 3))) (C := RX2) (T := TX2) (N := 4) hx hb hts inX2 hown hK hR9 0 rfl rfl 3 (by decide) (hts _ wd_105) (fun _ h9 => h9) rfl dX2_allAreSo_4 ?_
      refine i_icmp_ge (tgt := 53) hx hb (nT (by omega)) (nT (by omega)) dX2_allAreSo_7 (by decide) (fun c_1 => ?_) (fun c_1 => ?_)
      · refine lv_iconst (v := nI 1) hx hb dX2_allAreSo_53 (by decide) ?_
        refine hret _ _ _ dX2_allAreSo_54 (by decide) ?_
        exact (bI_t (by rw [show N 0 3 = bq by omega]; exact hs9)).symm
      · refine lv_aload_n hx hb dX2_allAreSo_10 rfl (lv_at hl 1 rfl) ?_
        refine lv_aload_n hx hb dX2_allAreSo_11 rfl (lv_at hl 0 rfl) ?_
        refine va_get (D := D) (ci := 2) (v := .ref (b 1)) (C := RX2) (T := TX2) (N := 4) hx hb hts inX2 hown hK hR9 0 rfl rfl 0 (by decide) (hts _ wd_102) (fun _ h9 => h9) rfl dX2_allAreSo_12 ?_
        refine lv_iload_n hx hb dX2_allAreSo_15 rfl (lv_at hl 2 rfl) ?_
        refine n_iald hx hb hK hR9 1 0 rfl rfl (k := bq) (by omega) (by decide) dX2_allAreSo_16 ?_
        refine va_csq (ro_runV (c_X8_takerAt l D ka v ta N wf df tf hV hN (nI (N 6 bq)) _ (nT (by omega))) X wd_311 wd_534 wd_309 wd_310 wd_3 on_X8_takerAt ⟨Nat.le_of_ble_eq_true rfl, Nat.le_of_ble_eq_true rfl⟩ (va_recv hK hP (ci := 8) (q0 := 0) rfl rfl) hP hl.1 rfl (Nat.le_of_ble_eq_true rfl) ⟨(Nat.zero_le _), (Nat.zero_le _)⟩ dX2_allAreSo_17) (fun r_2 hr_2 => ?_)
        subst hr_2
        rw [if_pos (by omega)]
        refine W.eq (g2 := F0 m 20 ls [.ref (ta (N 6 bq))]) rfl ?_
        refine lv_astore_n (lv' := [(3, .ref (ta (N 6 bq))), (0, .ref (b 0)), (1, .ref (v 0)), (2, .int (nI bq))]) hx hb dX2_allAreSo_20 rfl hl (by decide) rfl (fun ls hl => ?_)
        refine lv_aload_n hx hb dX2_allAreSo_21 rfl (lv_at hl 0 rfl) ?_
        refine lv_ifnull hx hb dX2_allAreSo_22 ?_
        refine lv_aload_n hx hb dX2_allAreSo_25 rfl (lv_at hl 2 rfl) ?_
        refine lv_aload_n hx hb dX2_allAreSo_26 rfl (lv_at hl 0 rfl) ?_
        refine lv_aload_n hx hb dX2_allAreSo_27 rfl (lv_at hl 1 rfl) ?_
        refine va_get (D := D) (ci := 2) (v := .ref (b 2)) (C := RX2) (T := TX2) (N := 4) hx hb hts inX2 hown hK hR9 0 rfl rfl 1 (by decide) (hts _ wd_103) (fun _ h9 => h9) rfl dX2_allAreSo_28 ?_
        refine lv_iload_n hx hb dX2_allAreSo_31 rfl (lv_at hl 3 rfl) ?_
        refine n_iald hx hb hK hR9 2 0 rfl rfl (k := bq) (by omega) (by decide) dX2_allAreSo_32 ?_
        have hv_3 := hN.2.2.2.2.2.2.2.1 bq
        refine vp_callSi (ro_runV (c_X8_heldAlone l D ka v ta N wf df tf hV hN hL (N 6 bq) (N 7 bq) (by omega) (by omega)) X wd_383 wd_535 wd_381 wd_382 wd_3 on_X8_heldAlone ⟨Nat.le_of_ble_eq_true rfl, Nat.le_of_ble_eq_true rfl⟩ (va_recv hK hP (ci := 8) (q0 := 0) rfl rfl) hP hl.1 rfl (Nat.le_of_ble_eq_true rfl) ⟨(Nat.zero_le _), (Nat.zero_le _)⟩ dX2_allAreSo_33) (fun r_5 hr_5 => ?_)
        subst hr_5
        have hb9_4 := hld_le N (N 6 bq) (N 7 bq) 1
        refine lv_aload_n hx hb dX2_allAreSo_36 rfl (lv_at hl 1 rfl) ?_
        refine va_get (D := D) (ci := 2) (v := .ref (b 3)) (C := RX2) (T := TX2) (N := 4) hx hb hts inX2 hown hK hR9 0 rfl rfl 2 (by decide) (hts _ wd_104) (fun _ h9 => h9) rfl dX2_allAreSo_37 ?_
        refine lv_iload_n hx hb dX2_allAreSo_40 rfl (lv_at hl 3 rfl) ?_
        refine n_iald hx hb hK hR9 3 0 rfl rfl (k := bq) (by omega) (by decide) dX2_allAreSo_41 ?_
        have hv_6 := hN.2.2.2.2.2.2.2.2.1 bq
        refine i_icmp_eq (tgt := 47) hx hb (nT (by omega)) (nT (by omega)) dX2_allAreSo_42 (by decide) (fun c_7 => ?_) (fun c_7 => ?_)
        · refine n_iinc (lv' := [(2, .int (nI (bq + 1))), (3, .ref (ta (N 6 bq))), (0, .ref (b 0)), (1, .ref (v 0))]) (k := 3) (d := 1) hx hb dX2_allAreSo_47 hl rfl rfl (by decide) rfl (fun ls hl => ?_)
          refine lv_goto (tgt := 2) hx hb dX2_allAreSo_50 (by decide) ?_
          exact ih2 (bq + 1) (by omega) (by omega) (by rw [soA, hs9]; simp; omega) ls (lv_sub hl [2, 3, 0] rfl)
        · refine lv_iconst (v := nI 0) hx hb dX2_allAreSo_45 (by decide) ?_
          refine hret _ _ _ dX2_allAreSo_46 (by decide) ?_
          exact (bI_f (by rw [soA_f (q := bq) (by omega) (by omega)]; decide)).symm
  exact loop2 _ 0 (Nat.lt_succ_self _) (by omega) rfl ls (lv_sub hl [1, 2, 0] rfl)
set_option maxRecDepth 100000 in
set_option maxHeartbeats 4000000 in
theorem c_X0_isStillIn (l : Launch) (D : va_G) (ka : Nat → ClassId) (b : Nat → Nat) (cnt : Nat) (tq bq eq : Nat → Int32) (Aq Mq Zq : Nat → Nat) (hA : ∀ p, p < cnt → tq p = nI (Aq p) ∧ Aq p < 5) (hM : ∀ p, p < cnt → bq p = nI (Mq p) ∧ Mq p < 60) (hE9 : ∀ p, p < cnt → eq p = nI (Mq p + Zq p) ∧ Zq p ≤ 40) (hct : cnt ≤ 20) (pq : Nat) (hpq : pq < cnt) : RO l D ka yX0_isStillIn cX0_isStillIn 3 (some .boolean) 0 [.ref (b 0), .int (nI pq)] (fun H => va_P D vwCl (([(b 0, .inr (0, [.ref (b 1), .ref (b 2), .ref (b 3), .int (nI cnt)])), (b 1, .inl (ka 0, 20, .inl (tq))), (b 2, .inl (ka 0, 20, .inl (bq))), (b 3, .inl (ka 0, 20, .inl (eq)))] : va_W) ++ ([] : va_W)) H) (vp_Si (fun r => r = bI (stl Aq Mq Zq pq pq = true))) := by
  refine RO.ofZ (by decide) (Nat.le_of_ble_eq_true rfl) ?_
  intro p e s m args below meth c Q X hP hret ls hl
  obtain ⟨hx, hb, hml, hown, hts, hE⟩ := id X
  have hK := hE.1
  have hl : lv_has ls 3 [(0, .ref (b 0)), (1, .int (nI pq))] := hl
  refine lv_iconst (v := nI 0) hx hb dX0_isStillIn_0 (by decide) ?_
  refine lv_istore_n (lv' := [(2, .int (nI 0)), (0, .ref (b 0)), (1, .int (nI pq))]) hx hb dX0_isStillIn_1 rfl hl (by decide) rfl (fun ls hl => ?_)
  have loop2 : ∀ (fuel2 : Nat) (qq : Nat), pq - qq < fuel2 → (qq ≤ pq) → (stl Aq Mq Zq pq qq = false) → ∀ ls : Array Slot, lv_has ls 3 [(0, .ref (b 0)), (1, .int (nI pq)), (2, .int (nI qq))] → W p l e (rmz 0 0 0) s m args below meth c s.heap [] 0 0 Q (F0 m 2 ls []) := by
    intro fuel2
    induction fuel2 with
    | zero => intro qq hfu; exact absurd hfu (Nat.not_lt_zero _)
    | succ fuel2 ih2 =>
      intro qq hfu hqq hst ls hl
      refine lv_iload_n hx hb dX0_isStillIn_2 rfl (lv_at hl 2 rfl) ?_
      refine lv_iload_n hx hb dX0_isStillIn_3 rfl (lv_at hl 1 rfl) ?_
      refine i_icmp_ge (tgt := 45) hx hb (nT (by omega)) (nT (by omega)) dX0_isStillIn_4 (by decide) (fun c_1 => ?_) (fun c_1 => ?_)
      · refine lv_iconst (v := nI 0) hx hb dX0_isStillIn_45 (by decide) ?_
        refine hret _ _ _ dX0_isStillIn_46 (by decide) ?_
        exact (bI_f (by rw [show qq = pq by omega] at hst; rw [hst]; decide)).symm
      · refine lv_aload_n hx hb dX0_isStillIn_7 rfl (lv_at hl 0 rfl) ?_
        refine va_get (D := D) (ci := 0) (v := .ref (b 1)) (C := RX0) (T := TX0) (N := 4) hx hb hts inX0 hown hK hP 0 rfl rfl 0 (by decide) (hts _ wd_122) (fun _ h9 => h9) rfl dX0_isStillIn_8 ?_
        refine lv_iload_n hx hb dX0_isStillIn_11 rfl (lv_at hl 2 rfl) ?_
        refine n_iald hx hb hK hP 1 0 rfl rfl (k := qq) (by omega) (by decide) dX0_isStillIn_12 ?_
        have hq_2 := hA qq (by omega)
        rw [hq_2.1]
        have hv_3 := hq_2.2
        refine lv_aload_n hx hb dX0_isStillIn_13 rfl (lv_at hl 0 rfl) ?_
        refine va_get (D := D) (ci := 0) (v := .ref (b 1)) (C := RX0) (T := TX0) (N := 4) hx hb hts inX0 hown hK hP 0 rfl rfl 0 (by decide) (hts _ wd_122) (fun _ h9 => h9) rfl dX0_isStillIn_14 ?_
        refine lv_iload_n hx hb dX0_isStillIn_17 rfl (lv_at hl 1 rfl) ?_
        refine n_iald hx hb hK hP 1 0 rfl rfl (k := pq) (by omega) (by decide) dX0_isStillIn_18 ?_
        have hq_4 := hA pq (by omega)
        rw [hq_4.1]
        have hv_5 := hq_4.2
        refine i_icmp_ne (tgt := 39) hx hb (nT (by omega)) (nT (by omega)) dX0_isStillIn_19 (by decide) (fun c_6 => ?_) (fun c_6 => ?_)
        · refine n_iinc (lv' := [(2, .int (nI (qq + 1))), (0, .ref (b 0)), (1, .int (nI pq))]) (k := 2) (d := 1) hx hb dX0_isStillIn_39 hl rfl rfl (by decide) rfl (fun ls hl => ?_)
          refine lv_goto (tgt := 2) hx hb dX0_isStillIn_42 (by decide) ?_
          exact ih2 (qq + 1) (by omega) (by omega) (by rw [stl, hst]; simp; omega) ls (lv_sub hl [1, 2, 0] rfl)
        · refine lv_aload_n hx hb dX0_isStillIn_22 rfl (lv_at hl 0 rfl) ?_
          refine va_get (D := D) (ci := 0) (v := .ref (b 3)) (C := RX0) (T := TX0) (N := 4) hx hb hts inX0 hown hK hP 0 rfl rfl 2 (by decide) (hts _ wd_124) (fun _ h9 => h9) rfl dX0_isStillIn_23 ?_
          refine lv_iload_n hx hb dX0_isStillIn_26 rfl (lv_at hl 2 rfl) ?_
          refine n_iald hx hb hK hP 3 0 rfl rfl (k := qq) (by omega) (by decide) dX0_isStillIn_27 ?_
          have hq_7 := hE9 qq (by omega)
          rw [hq_7.1]
          have hv_8 := hq_7.2
          have hv_9 := (hM qq (by omega)).2
          refine lv_aload_n hx hb dX0_isStillIn_28 rfl (lv_at hl 0 rfl) ?_
          refine va_get (D := D) (ci := 0) (v := .ref (b 2)) (C := RX0) (T := TX0) (N := 4) hx hb hts inX0 hown hK hP 0 rfl rfl 1 (by decide) (hts _ wd_123) (fun _ h9 => h9) rfl dX0_isStillIn_29 ?_
          refine lv_iload_n hx hb dX0_isStillIn_32 rfl (lv_at hl 1 rfl) ?_
          refine n_iald hx hb hK hP 2 0 rfl rfl (k := pq) (by omega) (by decide) dX0_isStillIn_33 ?_
          have hq_10 := hM pq (by omega)
          rw [hq_10.1]
          have hv_11 := hq_10.2
          refine i_icmp_le (tgt := 39) hx hb (nT (by omega)) (nT (by omega)) dX0_isStillIn_34 (by decide) (fun c_12 => ?_) (fun c_12 => ?_)
          · refine n_iinc (lv' := [(2, .int (nI (qq + 1))), (0, .ref (b 0)), (1, .int (nI pq))]) (k := 2) (d := 1) hx hb dX0_isStillIn_39 hl rfl rfl (by decide) rfl (fun ls hl => ?_)
            refine lv_goto (tgt := 2) hx hb dX0_isStillIn_42 (by decide) ?_
            exact ih2 (qq + 1) (by omega) (by omega) (by rw [stl, hst]; simp; omega) ls (lv_sub hl [1, 2, 0] rfl)
          · refine lv_iconst (v := nI 1) hx hb dX0_isStillIn_37 (by decide) ?_
            refine hret _ _ _ dX0_isStillIn_38 (by decide) ?_
            exact (bI_t (stl_t (q := qq) (by omega) (by omega) (by omega))).symm
  exact loop2 _ 0 (Nat.lt_succ_self _) (by omega) rfl ls (lv_sub hl [1, 2, 0] rfl)
set_option maxRecDepth 100000 in
set_option maxHeartbeats 4000000 in
theorem c_X0_firstWrong (l : Launch) (D : va_G) (ka : Nat → ClassId) (b : Nat → Nat) (cnt : Nat) (tq bq eq : Nat → Int32) (Aq Mq Zq : Nat → Nat) (hA : ∀ p, p < cnt → tq p = nI (Aq p) ∧ Aq p < 5) (hM : ∀ p, p < cnt → bq p = nI (Mq p) ∧ Mq p < 60) (hE9 : ∀ p, p < cnt → eq p = nI (Mq p + Zq p) ∧ Zq p ≤ 40) (hct : cnt ≤ 20) : RO l D ka yX0_firstWrong cX0_firstWrong 2 (some .int) 1 [.ref (b 0)] (fun H => va_P D vwCl (([(b 0, .inr (0, [.ref (b 1), .ref (b 2), .ref (b 3), .int (nI cnt)])), (b 1, .inl (ka 0, 20, .inl (tq))), (b 2, .inl (ka 0, 20, .inl (bq))), (b 3, .inl (ka 0, 20, .inl (eq)))] : va_W) ++ ([] : va_W)) H) (vp_Si (fun r => r = fno (fw (wrg Aq Mq Zq) cnt))) := by
  refine RO.ofI (by decide) (Nat.le_of_ble_eq_true rfl) ?_
  intro p e s m args below meth c Q X hP hret ls hl
  obtain ⟨hx, hb, hml, hown, hts, hE⟩ := id X
  have hK := hE.1
  have hl : lv_has ls 2 [(0, .ref (b 0))] := hl
  refine lv_iconst (v := nI 1) hx hb dX0_firstWrong_0 (by decide) ?_
  refine lv_istore_n (lv' := [(1, .int (nI 1)), (0, .ref (b 0))]) hx hb dX0_firstWrong_1 rfl hl (by decide) rfl (fun ls hl => ?_)
  have loop2 : ∀ (fuel2 : Nat) (kq : Nat), cnt - kq < fuel2 → (1 ≤ kq ∧ (kq ≤ cnt ∨ kq = 1)) → (fw (wrg Aq Mq Zq) kq = none) → ∀ ls : Array Slot, lv_has ls 2 [(0, .ref (b 0)), (1, .int (nI kq))] → W p l e (rmz 1 0 0) s m args below meth c s.heap [] 0 0 Q (F0 m 2 ls []) := by
    intro fuel2
    induction fuel2 with
    | zero => intro kq hfu; exact absurd hfu (Nat.not_lt_zero _)
    | succ fuel2 ih2 =>
      intro kq hfu hkq hfw ls hl
      refine lv_iload_n hx hb dX0_firstWrong_2 rfl (lv_at hl 1 rfl) ?_
      refine lv_aload_n hx hb dX0_firstWrong_3 rfl (lv_at hl 0 rfl) ?_
      refine va_get (D := D) (ci := 0) (v := .int (nI cnt)) (C := RX0) (T := TX0) (N := 4) hx hb hts inX0 hown hK hP 0 rfl rfl 3 (by decide) (hts _ wd_125) (fun _ h9 => h9) rfl dX0_firstWrong_4 ?_
      refine i_icmp_ge (tgt := 43) hx hb (nT (by omega)) (nT (by omega)) dX0_firstWrong_7 (by decide) (fun c_1 => ?_) (fun c_1 => ?_)
      · refine lv_bipush (v := (-9)) hx hb dX0_firstWrong_43 (by decide) ?_
        refine hret _ _ _ dX0_firstWrong_45 ?_
        rcases Nat.eq_zero_or_pos cnt with h0 | h0
        · subst h0; rfl
        · rw [show cnt = kq by omega, hfw]; rfl
      · refine lv_aload_n hx hb dX0_firstWrong_10 rfl (lv_at hl 0 rfl) ?_
        refine va_get (D := D) (ci := 0) (v := .ref (b 2)) (C := RX0) (T := TX0) (N := 4) hx hb hts inX0 hown hK hP 0 rfl rfl 1 (by decide) (hts _ wd_123) (fun _ h9 => h9) rfl dX0_firstWrong_11 ?_
        refine lv_iload_n hx hb dX0_firstWrong_14 rfl (lv_at hl 1 rfl) ?_
        refine n_iald hx hb hK hP 2 0 rfl rfl (k := kq) (by omega) (by decide) dX0_firstWrong_15 ?_
        have hq_2 := hM kq (by omega)
        rw [hq_2.1]
        have hv_3 := hq_2.2
        refine lv_aload_n hx hb dX0_firstWrong_16 rfl (lv_at hl 0 rfl) ?_
        refine va_get (D := D) (ci := 0) (v := .ref (b 2)) (C := RX0) (T := TX0) (N := 4) hx hb hts inX0 hown hK hP 0 rfl rfl 1 (by decide) (hts _ wd_123) (fun _ h9 => h9) rfl dX0_firstWrong_17 ?_
        refine lv_iload_n hx hb dX0_firstWrong_20 rfl (lv_at hl 1 rfl) ?_
        refine lv_iconst (v := nI 1) hx hb dX0_firstWrong_21 (by decide) ?_
        refine n_isub hx hb (by omega) dX0_firstWrong_22 ?_
        refine n_iald hx hb hK hP 2 0 rfl rfl (k := kq - 1) (by omega) (by decide) dX0_firstWrong_23 ?_
        have hq_4 := hM (kq - 1) (by omega)
        rw [hq_4.1]
        have hv_5 := hq_4.2
        refine i_icmp_lt (tgt := 35) hx hb (nT (by omega)) (nT (by omega)) dX0_firstWrong_24 (by decide) (fun c_6 => ?_) (fun c_6 => ?_)
        · refine lv_iload_n hx hb dX0_firstWrong_35 rfl (lv_at hl 1 rfl) ?_
          refine hret _ _ _ dX0_firstWrong_36 ?_
          rw [fw_t hfw (by unfold wrg; rw [Bool.or_eq_true]; first | exact Or.inl (by simp; omega) | exact Or.inr (by assumption)) cnt (by omega)]; rfl
        · refine lv_aload_n hx hb dX0_firstWrong_27 rfl (lv_at hl 0 rfl) ?_
          refine lv_iload_n hx hb dX0_firstWrong_28 rfl (lv_at hl 1 rfl) ?_
          refine vp_callSi (ro_runV (c_X0_isStillIn l D ka b cnt tq bq eq Aq Mq Zq hA hM hE9 hct kq (by omega)) X wd_449 wd_446 wd_447 wd_448 wd_5 on_X0_isStillIn ⟨Nat.le_of_ble_eq_true rfl, Nat.le_of_ble_eq_true rfl⟩ (va_recv hK hP (ci := 0) (q0 := 0) rfl rfl) hP hl.1 rfl (Nat.le_of_ble_eq_true rfl) ⟨(Nat.zero_le _), (Nat.zero_le _)⟩ dX0_firstWrong_29) (fun r_7 hr_7 => ?_)
          subst hr_7
          refine b_if_eq (tgt := 37) hx hb dX0_firstWrong_32 (by decide) (fun c_8 => ?_) (fun c_8 => ?_)
          · refine n_iinc (lv' := [(1, .int (nI (kq + 1))), (0, .ref (b 0))]) (k := 1) (d := 1) hx hb dX0_firstWrong_37 hl rfl rfl (by decide) rfl (fun ls hl => ?_)
            refine lv_goto (tgt := 2) hx hb dX0_firstWrong_40 (by decide) ?_
            exact ih2 (kq + 1) (by omega) (by omega) (fw_f hfw (by unfold wrg; rw [Bool.or_eq_false_iff]; exact ⟨by simp; omega, Bool.eq_false_iff.mpr (by assumption)⟩)) ls (lv_sub hl [1, 0] rfl)
          · refine lv_iload_n hx hb dX0_firstWrong_35 rfl (lv_at hl 1 rfl) ?_
            refine hret _ _ _ dX0_firstWrong_36 ?_
            rw [fw_t hfw (by unfold wrg; rw [Bool.or_eq_true]; first | exact Or.inl (by simp; omega) | exact Or.inr (by assumption)) cnt (by omega)]; rfl
  exact loop2 _ 1 (Nat.lt_succ_self _) (by omega) (fw_f rfl rfl) ls (lv_sub hl [1, 0] rfl)
set_option maxRecDepth 100000 in
set_option maxHeartbeats 4000000 in
theorem c_X0_minutesOfAll (l : Launch) (D : va_G) (ka : Nat → ClassId) (b : Nat → Nat) (cnt : Nat) (tq bq eq : Nat → Int32) (Aq Mq Zq : Nat → Nat) (hA : ∀ p, p < cnt → tq p = nI (Aq p) ∧ Aq p < 5) (hM : ∀ p, p < cnt → bq p = nI (Mq p) ∧ Mq p < 60) (hE9 : ∀ p, p < cnt → eq p = nI (Mq p + Zq p) ∧ Zq p ≤ 40) (hct : cnt ≤ 20) : RO l D ka yX0_minutesOfAll cX0_minutesOfAll 3 (some .int) 0 [.ref (b 0)] (fun H => va_P D vwCl (([(b 0, .inr (0, [.ref (b 1), .ref (b 2), .ref (b 3), .int (nI cnt)])), (b 1, .inl (ka 0, 20, .inl (tq))), (b 2, .inl (ka 0, 20, .inl (bq))), (b 3, .inl (ka 0, 20, .inl (eq)))] : va_W) ++ ([] : va_W)) H) (vp_Si (fun r => r = nI (smA Zq cnt))) := by
  refine RO.ofI (by decide) (Nat.le_of_ble_eq_true rfl) ?_
  intro p e s m args below meth c Q X hP hret ls hl
  obtain ⟨hx, hb, hml, hown, hts, hE⟩ := id X
  have hK := hE.1
  have hl : lv_has ls 3 [(0, .ref (b 0))] := hl
  refine lv_iconst (v := nI 0) hx hb dX0_minutesOfAll_0 (by decide) ?_
  refine lv_istore_n (lv' := [(1, .int (nI 0)), (0, .ref (b 0))]) hx hb dX0_minutesOfAll_1 rfl hl (by decide) rfl (fun ls hl => ?_)
  refine lv_iconst (v := nI 0) hx hb dX0_minutesOfAll_2 (by decide) ?_
  refine lv_istore_n (lv' := [(2, .int (nI 0)), (1, .int (nI 0)), (0, .ref (b 0))]) hx hb dX0_minutesOfAll_3 rfl hl (by decide) rfl (fun ls hl => ?_)
  have loop4 : ∀ (fuel4 : Nat) (pq : Nat) (sq : Nat), cnt - pq < fuel4 → (pq ≤ cnt) → (sq = smA Zq pq) → ∀ ls : Array Slot, lv_has ls 3 [(0, .ref (b 0)), (1, .int (nI sq)), (2, .int (nI pq))] → W p l e (rmz 0 0 0) s m args below meth c s.heap [] 0 0 Q (F0 m 4 ls []) := by
    intro fuel4
    induction fuel4 with
    | zero => intro pq sq hfu; exact absurd hfu (Nat.not_lt_zero _)
    | succ fuel4 ih4 =>
      intro pq sq hfu hpq hsq ls hl
      refine lv_iload_n hx hb dX0_minutesOfAll_4 rfl (lv_at hl 2 rfl) ?_
      refine lv_aload_n hx hb dX0_minutesOfAll_5 rfl (lv_at hl 0 rfl) ?_
      refine va_get (D := D) (ci := 0) (v := .int (nI cnt)) (C := RX0) (T := TX0) (N := 4) hx hb hts inX0 hown hK hP 0 rfl rfl 3 (by decide) (hts _ wd_125) (fun _ h9 => h9) rfl dX0_minutesOfAll_6 ?_
      refine i_icmp_ge (tgt := 34) hx hb (nT (by omega)) (nT (by omega)) dX0_minutesOfAll_9 (by decide) (fun c_1 => ?_) (fun c_1 => ?_)
      · refine lv_iload_n hx hb dX0_minutesOfAll_34 rfl (lv_at hl 1 rfl) ?_
        refine hret _ _ _ dX0_minutesOfAll_35 ?_
        rw [hsq, show pq = cnt by omega]
      · refine lv_iload_n hx hb dX0_minutesOfAll_12 rfl (lv_at hl 1 rfl) ?_
        refine lv_aload_n hx hb dX0_minutesOfAll_13 rfl (lv_at hl 0 rfl) ?_
        refine va_get (D := D) (ci := 0) (v := .ref (b 3)) (C := RX0) (T := TX0) (N := 4) hx hb hts inX0 hown hK hP 0 rfl rfl 2 (by decide) (hts _ wd_124) (fun _ h9 => h9) rfl dX0_minutesOfAll_14 ?_
        refine lv_iload_n hx hb dX0_minutesOfAll_17 rfl (lv_at hl 2 rfl) ?_
        refine n_iald hx hb hK hP 3 0 rfl rfl (k := pq) (by omega) (by decide) dX0_minutesOfAll_18 ?_
        have hq_2 := hE9 pq (by omega)
        rw [hq_2.1]
        have hv_3 := hq_2.2
        have hv_4 := (hM pq (by omega)).2
        refine lv_aload_n hx hb dX0_minutesOfAll_19 rfl (lv_at hl 0 rfl) ?_
        refine va_get (D := D) (ci := 0) (v := .ref (b 2)) (C := RX0) (T := TX0) (N := 4) hx hb hts inX0 hown hK hP 0 rfl rfl 1 (by decide) (hts _ wd_123) (fun _ h9 => h9) rfl dX0_minutesOfAll_20 ?_
        refine lv_iload_n hx hb dX0_minutesOfAll_23 rfl (lv_at hl 2 rfl) ?_
        refine n_iald hx hb hK hP 2 0 rfl rfl (k := pq) (by omega) (by decide) dX0_minutesOfAll_24 ?_
        have hq_5 := hM pq (by omega)
        rw [hq_5.1]
        have hv_6 := hq_5.2
        refine n_isub hx hb (by omega) dX0_minutesOfAll_25 ?_
        refine n_iadd hx hb dX0_minutesOfAll_26 ?_
        refine lv_istore_n (lv' := [(1, .int (nI (sq + ((Mq pq + Zq pq) - (Mq pq))))), (0, .ref (b 0)), (2, .int (nI pq))]) hx hb dX0_minutesOfAll_27 rfl hl (by decide) rfl (fun ls hl => ?_)
        refine n_iinc (lv' := [(2, .int (nI (pq + 1))), (1, .int (nI (sq + ((Mq pq + Zq pq) - (Mq pq))))), (0, .ref (b 0))]) (k := 2) (d := 1) hx hb dX0_minutesOfAll_28 hl rfl rfl (by decide) rfl (fun ls hl => ?_)
        refine lv_goto (tgt := 4) hx hb dX0_minutesOfAll_31 (by decide) ?_
        exact ih4 (pq + 1) (sq + ((Mq pq + Zq pq) - (Mq pq))) (by omega) (by omega) (by rw [smA, ← hsq]; omega) ls (lv_sub hl [2, 1, 0] rfl)
  exact loop4 _ 0 0 (Nat.lt_succ_self _) (by omega) rfl ls (lv_sub hl [2, 1, 0] rfl)
set_option maxRecDepth 100000 in
set_option maxHeartbeats 4000000 in
theorem c_X0_minutesOf (l : Launch) (D : va_G) (ka : Nat → ClassId) (b : Nat → Nat) (cnt : Nat) (tq bq eq : Nat → Int32) (Aq Mq Zq : Nat → Nat) (hA : ∀ p, p < cnt → tq p = nI (Aq p) ∧ Aq p < 5) (hM : ∀ p, p < cnt → bq p = nI (Mq p) ∧ Mq p < 60) (hE9 : ∀ p, p < cnt → eq p = nI (Mq p + Zq p) ∧ Zq p ≤ 40) (hct : cnt ≤ 20) (aq : Nat) (haq : aq < 5) : RO l D ka yX0_minutesOf cX0_minutesOf 4 (some .int) 0 [.ref (b 0), .int (nI aq)] (fun H => va_P D vwCl (([(b 0, .inr (0, [.ref (b 1), .ref (b 2), .ref (b 3), .int (nI cnt)])), (b 1, .inl (ka 0, 20, .inl (tq))), (b 2, .inl (ka 0, 20, .inl (bq))), (b 3, .inl (ka 0, 20, .inl (eq)))] : va_W) ++ ([] : va_W)) H) (vp_Si (fun r => r = nI (smI Aq Zq aq cnt))) := by
  refine RO.ofI (by decide) (Nat.le_of_ble_eq_true rfl) ?_
  intro p e s m args below meth c Q X hP hret ls hl
  obtain ⟨hx, hb, hml, hown, hts, hE⟩ := id X
  have hK := hE.1
  have hl : lv_has ls 4 [(0, .ref (b 0)), (1, .int (nI aq))] := hl
  refine lv_iconst (v := nI 0) hx hb dX0_minutesOf_0 (by decide) ?_
  refine lv_istore_n (lv' := [(2, .int (nI 0)), (0, .ref (b 0)), (1, .int (nI aq))]) hx hb dX0_minutesOf_1 rfl hl (by decide) rfl (fun ls hl => ?_)
  refine lv_iconst (v := nI 0) hx hb dX0_minutesOf_2 (by decide) ?_
  refine lv_istore_n (lv' := [(3, .int (nI 0)), (2, .int (nI 0)), (0, .ref (b 0)), (1, .int (nI aq))]) hx hb dX0_minutesOf_3 rfl hl (by decide) rfl (fun ls hl => ?_)
  have loop4 : ∀ (fuel4 : Nat) (pq : Nat) (sq : Nat), cnt - pq < fuel4 → (pq ≤ cnt) → (sq = smI Aq Zq aq pq) → ∀ ls : Array Slot, lv_has ls 4 [(0, .ref (b 0)), (1, .int (nI aq)), (2, .int (nI sq)), (3, .int (nI pq))] → W p l e (rmz 0 0 0) s m args below meth c s.heap [] 0 0 Q (F0 m 4 ls []) := by
    intro fuel4
    induction fuel4 with
    | zero => intro pq sq hfu; exact absurd hfu (Nat.not_lt_zero _)
    | succ fuel4 ih4 =>
      intro pq sq hfu hpq hsq ls hl
      refine lv_iload_n hx hb dX0_minutesOf_4 rfl (lv_at hl 3 rfl) ?_
      refine lv_aload_n hx hb dX0_minutesOf_5 rfl (lv_at hl 0 rfl) ?_
      refine va_get (D := D) (ci := 0) (v := .int (nI cnt)) (C := RX0) (T := TX0) (N := 4) hx hb hts inX0 hown hK hP 0 rfl rfl 3 (by decide) (hts _ wd_125) (fun _ h9 => h9) rfl dX0_minutesOf_6 ?_
      refine i_icmp_ge (tgt := 44) hx hb (nT (by omega)) (nT (by omega)) dX0_minutesOf_9 (by decide) (fun c_1 => ?_) (fun c_1 => ?_)
      · refine lv_iload_n hx hb dX0_minutesOf_44 rfl (lv_at hl 2 rfl) ?_
        refine hret _ _ _ dX0_minutesOf_45 ?_
        rw [hsq, show pq = cnt by omega]
      · refine lv_aload_n hx hb dX0_minutesOf_12 rfl (lv_at hl 0 rfl) ?_
        refine va_get (D := D) (ci := 0) (v := .ref (b 1)) (C := RX0) (T := TX0) (N := 4) hx hb hts inX0 hown hK hP 0 rfl rfl 0 (by decide) (hts _ wd_122) (fun _ h9 => h9) rfl dX0_minutesOf_13 ?_
        refine lv_iload_n hx hb dX0_minutesOf_16 rfl (lv_at hl 3 rfl) ?_
        refine n_iald hx hb hK hP 1 0 rfl rfl (k := pq) (by omega) (by decide) dX0_minutesOf_17 ?_
        have hq_2 := hA pq (by omega)
        rw [hq_2.1]
        have hv_3 := hq_2.2
        refine lv_iload_n hx hb dX0_minutesOf_18 rfl (lv_at hl 1 rfl) ?_
        refine i_icmp_ne (tgt := 38) hx hb (nT (by omega)) (nT (by omega)) dX0_minutesOf_19 (by decide) (fun c_4 => ?_) (fun c_4 => ?_)
        · refine n_iinc (lv' := [(3, .int (nI (pq + 1))), (0, .ref (b 0)), (1, .int (nI aq)), (2, .int (nI sq))]) (k := 3) (d := 1) hx hb dX0_minutesOf_38 hl rfl rfl (by decide) rfl (fun ls hl => ?_)
          refine lv_goto (tgt := 4) hx hb dX0_minutesOf_41 (by decide) ?_
          exact ih4 (pq + 1) sq (by omega) (by omega) (by rw [smI, ← hsq]; first | (rw [if_pos (by omega)]; omega) | (rw [if_neg (by omega)]; omega)) ls (lv_sub hl [1, 2, 3, 0] rfl)
        · refine lv_iload_n hx hb dX0_minutesOf_22 rfl (lv_at hl 2 rfl) ?_
          refine lv_aload_n hx hb dX0_minutesOf_23 rfl (lv_at hl 0 rfl) ?_
          refine va_get (D := D) (ci := 0) (v := .ref (b 3)) (C := RX0) (T := TX0) (N := 4) hx hb hts inX0 hown hK hP 0 rfl rfl 2 (by decide) (hts _ wd_124) (fun _ h9 => h9) rfl dX0_minutesOf_24 ?_
          refine lv_iload_n hx hb dX0_minutesOf_27 rfl (lv_at hl 3 rfl) ?_
          refine n_iald hx hb hK hP 3 0 rfl rfl (k := pq) (by omega) (by decide) dX0_minutesOf_28 ?_
          have hq_5 := hE9 pq (by omega)
          rw [hq_5.1]
          have hv_6 := hq_5.2
          have hv_7 := (hM pq (by omega)).2
          refine lv_aload_n hx hb dX0_minutesOf_29 rfl (lv_at hl 0 rfl) ?_
          refine va_get (D := D) (ci := 0) (v := .ref (b 2)) (C := RX0) (T := TX0) (N := 4) hx hb hts inX0 hown hK hP 0 rfl rfl 1 (by decide) (hts _ wd_123) (fun _ h9 => h9) rfl dX0_minutesOf_30 ?_
          refine lv_iload_n hx hb dX0_minutesOf_33 rfl (lv_at hl 3 rfl) ?_
          refine n_iald hx hb hK hP 2 0 rfl rfl (k := pq) (by omega) (by decide) dX0_minutesOf_34 ?_
          have hq_8 := hM pq (by omega)
          rw [hq_8.1]
          have hv_9 := hq_8.2
          refine n_isub hx hb (by omega) dX0_minutesOf_35 ?_
          refine n_iadd hx hb dX0_minutesOf_36 ?_
          refine lv_istore_n (lv' := [(2, .int (nI (sq + ((Mq pq + Zq pq) - (Mq pq))))), (0, .ref (b 0)), (1, .int (nI aq)), (3, .int (nI pq))]) hx hb dX0_minutesOf_37 rfl hl (by decide) rfl (fun ls hl => ?_)
          refine n_iinc (lv' := [(3, .int (nI (pq + 1))), (2, .int (nI (sq + ((Mq pq + Zq pq) - (Mq pq))))), (0, .ref (b 0)), (1, .int (nI aq))]) (k := 3) (d := 1) hx hb dX0_minutesOf_38 hl rfl rfl (by decide) rfl (fun ls hl => ?_)
          refine lv_goto (tgt := 4) hx hb dX0_minutesOf_41 (by decide) ?_
          exact ih4 (pq + 1) (sq + ((Mq pq + Zq pq) - (Mq pq))) (by omega) (by omega) (by rw [smI, ← hsq]; first | (rw [if_pos (by omega)]; omega) | (rw [if_neg (by omega)]; omega)) ls (lv_sub hl [2, 3, 1, 0] rfl)
  exact loop4 _ 0 0 (Nat.lt_succ_self _) (by omega) rfl ls (lv_sub hl [2, 3, 1, 0] rfl)
set_option maxRecDepth 100000 in
set_option maxHeartbeats 4000000 in
theorem c_X0_latestEnd (l : Launch) (D : va_G) (ka : Nat → ClassId) (b : Nat → Nat) (cnt : Nat) (tq bq eq : Nat → Int32) (Aq Mq Zq : Nat → Nat) (hA : ∀ p, p < cnt → tq p = nI (Aq p) ∧ Aq p < 5) (hM : ∀ p, p < cnt → bq p = nI (Mq p) ∧ Mq p < 60) (hE9 : ∀ p, p < cnt → eq p = nI (Mq p + Zq p) ∧ Zq p ≤ 40) (hct : cnt ≤ 20) : RO l D ka yX0_latestEnd cX0_latestEnd 3 (some .int) 1 [.ref (b 0)] (fun H => va_P D vwCl (([(b 0, .inr (0, [.ref (b 1), .ref (b 2), .ref (b 3), .int (nI cnt)])), (b 1, .inl (ka 0, 20, .inl (tq))), (b 2, .inl (ka 0, 20, .inl (bq))), (b 3, .inl (ka 0, 20, .inl (eq)))] : va_W) ++ ([] : va_W)) H) (vp_Si (fun r => r = lat Mq Zq cnt)) := by
  refine RO.ofI (by decide) (Nat.le_of_ble_eq_true rfl) ?_
  intro p e s m args below meth c Q X hP hret ls hl
  obtain ⟨hx, hb, hml, hown, hts, hE⟩ := id X
  have hK := hE.1
  have hl : lv_has ls 3 [(0, .ref (b 0))] := hl
  refine lv_bipush (v := (-9)) hx hb dX0_latestEnd_0 (by decide) ?_
  refine lv_istore_n (lv' := [(1, .int (-9)), (0, .ref (b 0))]) hx hb dX0_latestEnd_2 rfl hl (by decide) rfl (fun ls hl => ?_)
  refine lv_iconst (v := nI 0) hx hb dX0_latestEnd_3 (by decide) ?_
  refine lv_istore_n (lv' := [(2, .int (nI 0)), (1, .int (-9)), (0, .ref (b 0))]) hx hb dX0_latestEnd_4 rfl hl (by decide) rfl (fun ls hl => ?_)
  have loop5 : ∀ (fuel5 : Nat) (pq : Nat), cnt - pq < fuel5 → (pq ≤ cnt) → ∀ ls : Array Slot, lv_has ls 3 [(0, .ref (b 0)), (1, .int (lat Mq Zq pq)), (2, .int (nI pq))] → W p l e (rmz 1 0 0) s m args below meth c s.heap [] 0 0 Q (F0 m 5 ls []) := by
    intro fuel5
    induction fuel5 with
    | zero => intro pq hfu; exact absurd hfu (Nat.not_lt_zero _)
    | succ fuel5 ih5 =>
      intro pq hfu hpq ls hl
      have hmx := mxE_le (f := fun p => Mq p + Zq p) (b := 99) (k := pq) (fun q hq => by have h1 := (hM q (by omega)).2; have h2 := (hE9 q (by omega)).2; show Mq q + Zq q ≤ 99; omega)
      refine lv_iload_n hx hb dX0_latestEnd_5 rfl (lv_at hl 2 rfl) ?_
      refine lv_aload_n hx hb dX0_latestEnd_6 rfl (lv_at hl 0 rfl) ?_
      refine va_get (D := D) (ci := 0) (v := .int (nI cnt)) (C := RX0) (T := TX0) (N := 4) hx hb hts inX0 hown hK hP 0 rfl rfl 3 (by decide) (hts _ wd_125) (fun _ h9 => h9) rfl dX0_latestEnd_7 ?_
      refine i_icmp_ge (tgt := 30) hx hb (nT (by omega)) (nT (by omega)) dX0_latestEnd_10 (by decide) (fun c_1 => ?_) (fun c_1 => ?_)
      · refine lv_iload_n hx hb dX0_latestEnd_30 rfl (lv_at hl 1 rfl) ?_
        refine hret _ _ _ dX0_latestEnd_31 ?_
        rw [show pq = cnt by omega]
      · refine lv_iload_n hx hb dX0_latestEnd_13 rfl (lv_at hl 1 rfl) ?_
        refine lv_aload_n hx hb dX0_latestEnd_14 rfl (lv_at hl 0 rfl) ?_
        refine va_get (D := D) (ci := 0) (v := .ref (b 3)) (C := RX0) (T := TX0) (N := 4) hx hb hts inX0 hown hK hP 0 rfl rfl 2 (by decide) (hts _ wd_124) (fun _ h9 => h9) rfl dX0_latestEnd_15 ?_
        refine lv_iload_n hx hb dX0_latestEnd_18 rfl (lv_at hl 2 rfl) ?_
        refine n_iald hx hb hK hP 3 0 rfl rfl (k := pq) (by omega) (by decide) dX0_latestEnd_19 ?_
        have hq_2 := hE9 pq (by omega)
        rw [hq_2.1]
        have hv_3 := hq_2.2
        have hv_4 := (hM pq (by omega)).2
        refine va_mmax hx hb (hml.trans hl.1.symm) hown (hts _ wd_458) (hts _ wd_367) (hts _ wd_12) (hts _ wd_368) (Nat.le_of_ble_eq_true rfl) (Nat.le_of_ble_eq_true rfl) (Nat.zero_le _) (Nat.zero_le _) dX0_latestEnd_20 ?_
        rw [lat_max (M := Mq) (H := Zq) (k := pq) (Nat.lt_of_le_of_lt hmx (by decide)) (by omega)]
        refine lv_istore_n (lv' := [(1, .int (lat Mq Zq (pq + 1))), (0, .ref (b 0)), (2, .int (nI pq))]) hx hb dX0_latestEnd_23 rfl hl (by decide) rfl (fun ls hl => ?_)
        refine n_iinc (lv' := [(2, .int (nI (pq + 1))), (1, .int (lat Mq Zq (pq + 1))), (0, .ref (b 0))]) (k := 2) (d := 1) hx hb dX0_latestEnd_24 hl rfl rfl (by decide) rfl (fun ls hl => ?_)
        refine lv_goto (tgt := 5) hx hb dX0_latestEnd_27 (by decide) ?_
        exact ih5 (pq + 1) (by omega) (by omega) ls (lv_sub hl [2, 1, 0] rfl)
  exact loop5 _ 0 (Nat.lt_succ_self _) (by omega) ls (lv_sub hl [2, 1, 0] rfl)
set_option maxRecDepth 100000 in
set_option maxHeartbeats 4000000 in
theorem c_X0_inAt (l : Launch) (D : va_G) (ka : Nat → ClassId) (b : Nat → Nat) (cnt : Nat) (tq bq eq : Nat → Int32) (Aq Mq Zq : Nat → Nat) (hA : ∀ p, p < cnt → tq p = nI (Aq p) ∧ Aq p < 5) (hM : ∀ p, p < cnt → bq p = nI (Mq p) ∧ Mq p < 60) (hE9 : ∀ p, p < cnt → eq p = nI (Mq p + Zq p) ∧ Zq p ≤ 40) (hct : cnt ≤ 20) (tm : Nat) (htm : tm < 60) : RO l D ka yX0_inAt cX0_inAt 4 (some .int) 0 [.ref (b 0), .int (nI tm)] (fun H => va_P D vwCl (([(b 0, .inr (0, [.ref (b 1), .ref (b 2), .ref (b 3), .int (nI cnt)])), (b 1, .inl (ka 0, 20, .inl (tq))), (b 2, .inl (ka 0, 20, .inl (bq))), (b 3, .inl (ka 0, 20, .inl (eq)))] : va_W) ++ ([] : va_W)) H) (vp_Si (fun r => r = nI (ins Mq Zq tm cnt))) := by
  refine RO.ofI (by decide) (Nat.le_of_ble_eq_true rfl) ?_
  intro p e s m args below meth c Q X hP hret ls hl
  obtain ⟨hx, hb, hml, hown, hts, hE⟩ := id X
  have hK := hE.1
  have hl : lv_has ls 4 [(0, .ref (b 0)), (1, .int (nI tm))] := hl
  refine lv_iconst (v := nI 0) hx hb dX0_inAt_0 (by decide) ?_
  refine lv_istore_n (lv' := [(2, .int (nI 0)), (0, .ref (b 0)), (1, .int (nI tm))]) hx hb dX0_inAt_1 rfl hl (by decide) rfl (fun ls hl => ?_)
  refine lv_iconst (v := nI 0) hx hb dX0_inAt_2 (by decide) ?_
  refine lv_istore_n (lv' := [(3, .int (nI 0)), (2, .int (nI 0)), (0, .ref (b 0)), (1, .int (nI tm))]) hx hb dX0_inAt_3 rfl hl (by decide) rfl (fun ls hl => ?_)
  have loop4 : ∀ (fuel4 : Nat) (pq : Nat) (sq : Nat), cnt - pq < fuel4 → (pq ≤ cnt) → (sq = ins Mq Zq tm pq) → ∀ ls : Array Slot, lv_has ls 4 [(0, .ref (b 0)), (1, .int (nI tm)), (2, .int (nI sq)), (3, .int (nI pq))] → W p l e (rmz 0 0 0) s m args below meth c s.heap [] 0 0 Q (F0 m 4 ls []) := by
    intro fuel4
    induction fuel4 with
    | zero => intro pq sq hfu; exact absurd hfu (Nat.not_lt_zero _)
    | succ fuel4 ih4 =>
      intro pq sq hfu hpq hsq ls hl
      have hib := ins_le Mq Zq tm pq
      refine lv_iload_n hx hb dX0_inAt_4 rfl (lv_at hl 3 rfl) ?_
      refine lv_aload_n hx hb dX0_inAt_5 rfl (lv_at hl 0 rfl) ?_
      refine va_get (D := D) (ci := 0) (v := .int (nI cnt)) (C := RX0) (T := TX0) (N := 4) hx hb hts inX0 hown hK hP 0 rfl rfl 3 (by decide) (hts _ wd_125) (fun _ h9 => h9) rfl dX0_inAt_6 ?_
      refine i_icmp_ge (tgt := 41) hx hb (nT (by omega)) (nT (by omega)) dX0_inAt_9 (by decide) (fun c_1 => ?_) (fun c_1 => ?_)
      · refine lv_iload_n hx hb dX0_inAt_41 rfl (lv_at hl 2 rfl) ?_
        refine hret _ _ _ dX0_inAt_42 ?_
        rw [hsq, show pq = cnt by omega]
      · refine lv_aload_n hx hb dX0_inAt_12 rfl (lv_at hl 0 rfl) ?_
        refine va_get (D := D) (ci := 0) (v := .ref (b 2)) (C := RX0) (T := TX0) (N := 4) hx hb hts inX0 hown hK hP 0 rfl rfl 1 (by decide) (hts _ wd_123) (fun _ h9 => h9) rfl dX0_inAt_13 ?_
        refine lv_iload_n hx hb dX0_inAt_16 rfl (lv_at hl 3 rfl) ?_
        refine n_iald hx hb hK hP 2 0 rfl rfl (k := pq) (by omega) (by decide) dX0_inAt_17 ?_
        have hq_2 := hM pq (by omega)
        rw [hq_2.1]
        have hv_3 := hq_2.2
        refine lv_iload_n hx hb dX0_inAt_18 rfl (lv_at hl 1 rfl) ?_
        refine i_icmp_gt (tgt := 35) hx hb (nT (by omega)) (nT (by omega)) dX0_inAt_19 (by decide) (fun c_4 => ?_) (fun c_4 => ?_)
        · refine n_iinc (lv' := [(3, .int (nI (pq + 1))), (0, .ref (b 0)), (1, .int (nI tm)), (2, .int (nI sq))]) (k := 3) (d := 1) hx hb dX0_inAt_35 hl rfl rfl (by decide) rfl (fun ls hl => ?_)
          refine lv_goto (tgt := 4) hx hb dX0_inAt_38 (by decide) ?_
          exact ih4 (pq + 1) sq (by omega) (by omega) (by rw [ins, ← hsq]; first | rw [if_pos (by omega)] | rw [if_neg (by omega), Nat.add_zero]) ls (lv_sub hl [1, 2, 3, 0] rfl)
        · refine lv_iload_n hx hb dX0_inAt_22 rfl (lv_at hl 1 rfl) ?_
          refine lv_aload_n hx hb dX0_inAt_23 rfl (lv_at hl 0 rfl) ?_
          refine va_get (D := D) (ci := 0) (v := .ref (b 3)) (C := RX0) (T := TX0) (N := 4) hx hb hts inX0 hown hK hP 0 rfl rfl 2 (by decide) (hts _ wd_124) (fun _ h9 => h9) rfl dX0_inAt_24 ?_
          refine lv_iload_n hx hb dX0_inAt_27 rfl (lv_at hl 3 rfl) ?_
          refine n_iald hx hb hK hP 3 0 rfl rfl (k := pq) (by omega) (by decide) dX0_inAt_28 ?_
          have hq_5 := hE9 pq (by omega)
          rw [hq_5.1]
          have hv_6 := hq_5.2
          have hv_7 := (hM pq (by omega)).2
          refine i_icmp_ge (tgt := 35) hx hb (nT (by omega)) (nT (by omega)) dX0_inAt_29 (by decide) (fun c_8 => ?_) (fun c_8 => ?_)
          · refine n_iinc (lv' := [(3, .int (nI (pq + 1))), (0, .ref (b 0)), (1, .int (nI tm)), (2, .int (nI sq))]) (k := 3) (d := 1) hx hb dX0_inAt_35 hl rfl rfl (by decide) rfl (fun ls hl => ?_)
            refine lv_goto (tgt := 4) hx hb dX0_inAt_38 (by decide) ?_
            exact ih4 (pq + 1) sq (by omega) (by omega) (by rw [ins, ← hsq]; first | rw [if_pos (by omega)] | rw [if_neg (by omega), Nat.add_zero]) ls (lv_sub hl [1, 2, 3, 0] rfl)
          · refine n_iinc (lv' := [(2, .int (nI (sq + 1))), (0, .ref (b 0)), (1, .int (nI tm)), (3, .int (nI pq))]) (k := 2) (d := 1) hx hb dX0_inAt_32 hl rfl rfl (by decide) rfl (fun ls hl => ?_)
            refine n_iinc (lv' := [(3, .int (nI (pq + 1))), (2, .int (nI (sq + 1))), (0, .ref (b 0)), (1, .int (nI tm))]) (k := 3) (d := 1) hx hb dX0_inAt_35 hl rfl rfl (by decide) rfl (fun ls hl => ?_)
            refine lv_goto (tgt := 4) hx hb dX0_inAt_38 (by decide) ?_
            exact ih4 (pq + 1) (sq + 1) (by omega) (by omega) (by rw [ins, ← hsq]; first | rw [if_pos (by omega)] | rw [if_neg (by omega), Nat.add_zero]) ls (lv_sub hl [2, 3, 1, 0] rfl)
  exact loop4 _ 0 0 (Nat.lt_succ_self _) (by omega) rfl ls (lv_sub hl [2, 3, 1, 0] rfl)
set_option maxRecDepth 100000 in
set_option maxHeartbeats 4000000 in
theorem c_X0_mostAtOnce (l : Launch) (D : va_G) (ka : Nat → ClassId) (b : Nat → Nat) (cnt : Nat) (tq bq eq : Nat → Int32) (Aq Mq Zq : Nat → Nat) (hA : ∀ p, p < cnt → tq p = nI (Aq p) ∧ Aq p < 5) (hM : ∀ p, p < cnt → bq p = nI (Mq p) ∧ Mq p < 60) (hE9 : ∀ p, p < cnt → eq p = nI (Mq p + Zq p) ∧ Zq p ≤ 40) (hct : cnt ≤ 20) : RO l D ka yX0_mostAtOnce cX0_mostAtOnce 3 (some .int) 1 [.ref (b 0)] (fun H => va_P D vwCl (([(b 0, .inr (0, [.ref (b 1), .ref (b 2), .ref (b 3), .int (nI cnt)])), (b 1, .inl (ka 0, 20, .inl (tq))), (b 2, .inl (ka 0, 20, .inl (bq))), (b 3, .inl (ka 0, 20, .inl (eq)))] : va_W) ++ ([] : va_W)) H) (vp_Si (fun r => r = nI (mst Mq Zq cnt))) := by
  refine RO.ofI (by decide) (Nat.le_of_ble_eq_true rfl) ?_
  intro p e s m args below meth c Q X hP hret ls hl
  obtain ⟨hx, hb, hml, hown, hts, hE⟩ := id X
  have hK := hE.1
  have hl : lv_has ls 3 [(0, .ref (b 0))] := hl
  refine lv_iconst (v := nI 0) hx hb dX0_mostAtOnce_0 (by decide) ?_
  refine lv_istore_n (lv' := [(1, .int (nI 0)), (0, .ref (b 0))]) hx hb dX0_mostAtOnce_1 rfl hl (by decide) rfl (fun ls hl => ?_)
  refine lv_iconst (v := nI 0) hx hb dX0_mostAtOnce_2 (by decide) ?_
  refine lv_istore_n (lv' := [(2, .int (nI 0)), (1, .int (nI 0)), (0, .ref (b 0))]) hx hb dX0_mostAtOnce_3 rfl hl (by decide) rfl (fun ls hl => ?_)
  have loop4 : ∀ (fuel4 : Nat) (pq : Nat) (sq : Nat), cnt - pq < fuel4 → (pq ≤ cnt) → (sq = mxE (fun p => ins Mq Zq (Mq p) cnt) pq) → ∀ ls : Array Slot, lv_has ls 3 [(0, .ref (b 0)), (1, .int (nI sq)), (2, .int (nI pq))] → W p l e (rmz 1 0 0) s m args below meth c s.heap [] 0 0 Q (F0 m 4 ls []) := by
    intro fuel4
    induction fuel4 with
    | zero => intro pq sq hfu; exact absurd hfu (Nat.not_lt_zero _)
    | succ fuel4 ih4 =>
      intro pq sq hfu hpq hsq ls hl
      have hib : sq ≤ 20 := by rw [hsq]; exact mxE_le (fun q _ => Nat.le_trans (ins_le Mq Zq (Mq q) cnt) hct)
      refine lv_iload_n hx hb dX0_mostAtOnce_4 rfl (lv_at hl 2 rfl) ?_
      refine lv_aload_n hx hb dX0_mostAtOnce_5 rfl (lv_at hl 0 rfl) ?_
      refine va_get (D := D) (ci := 0) (v := .int (nI cnt)) (C := RX0) (T := TX0) (N := 4) hx hb hts inX0 hown hK hP 0 rfl rfl 3 (by decide) (hts _ wd_125) (fun _ h9 => h9) rfl dX0_mostAtOnce_6 ?_
      refine i_icmp_ge (tgt := 33) hx hb (nT (by omega)) (nT (by omega)) dX0_mostAtOnce_9 (by decide) (fun c_1 => ?_) (fun c_1 => ?_)
      · refine lv_iload_n hx hb dX0_mostAtOnce_33 rfl (lv_at hl 1 rfl) ?_
        refine hret _ _ _ dX0_mostAtOnce_34 ?_
        rw [hsq, show pq = cnt by omega, mst_eq (fun p hp => Nat.lt_trans (hM p hp).2 (by decide))]
      · refine lv_iload_n hx hb dX0_mostAtOnce_12 rfl (lv_at hl 1 rfl) ?_
        refine lv_aload_n hx hb dX0_mostAtOnce_13 rfl (lv_at hl 0 rfl) ?_
        refine lv_aload_n hx hb dX0_mostAtOnce_14 rfl (lv_at hl 0 rfl) ?_
        refine va_get (D := D) (ci := 0) (v := .ref (b 2)) (C := RX0) (T := TX0) (N := 4) hx hb hts inX0 hown hK hP 0 rfl rfl 1 (by decide) (hts _ wd_123) (fun _ h9 => h9) rfl dX0_mostAtOnce_15 ?_
        refine lv_iload_n hx hb dX0_mostAtOnce_18 rfl (lv_at hl 2 rfl) ?_
        refine n_iald hx hb hK hP 2 0 rfl rfl (k := pq) (by omega) (by decide) dX0_mostAtOnce_19 ?_
        have hq_2 := hM pq (by omega)
        rw [hq_2.1]
        have hv_3 := hq_2.2
        refine vp_callSi (ro_runV (c_X0_inAt l D ka b cnt tq bq eq Aq Mq Zq hA hM hE9 hct (Mq pq) (by omega)) X wd_466 wd_463 wd_464 wd_465 wd_5 on_X0_inAt ⟨Nat.le_of_ble_eq_true rfl, Nat.le_of_ble_eq_true rfl⟩ (va_recv hK hP (ci := 0) (q0 := 0) rfl rfl) hP hl.1 rfl (Nat.le_of_ble_eq_true rfl) ⟨(Nat.zero_le _), (Nat.zero_le _)⟩ dX0_mostAtOnce_20) (fun r_5 hr_5 => ?_)
        subst hr_5
        have hb9_4 := ins_le Mq Zq (Mq pq) cnt
        refine va_mmax hx hb (hml.trans hl.1.symm) hown (hts _ wd_458) (hts _ wd_367) (hts _ wd_12) (hts _ wd_368) (Nat.le_of_ble_eq_true rfl) (Nat.le_of_ble_eq_true rfl) (Nat.zero_le _) (Nat.zero_le _) dX0_mostAtOnce_23 ?_
        rw [n_max (a := sq) (b := ins Mq Zq (Mq pq) cnt) (by omega) (by omega)]
        refine lv_istore_n (lv' := [(1, .int (nI (max sq (ins Mq Zq (Mq pq) cnt)))), (0, .ref (b 0)), (2, .int (nI pq))]) hx hb dX0_mostAtOnce_26 rfl hl (by decide) rfl (fun ls hl => ?_)
        refine n_iinc (lv' := [(2, .int (nI (pq + 1))), (1, .int (nI (max sq (ins Mq Zq (Mq pq) cnt)))), (0, .ref (b 0))]) (k := 2) (d := 1) hx hb dX0_mostAtOnce_27 hl rfl rfl (by decide) rfl (fun ls hl => ?_)
        refine lv_goto (tgt := 4) hx hb dX0_mostAtOnce_30 (by decide) ?_
        exact ih4 (pq + 1) (max sq (ins Mq Zq (Mq pq) cnt)) (by omega) (by omega) (by rw [mxE, ← hsq]) ls (lv_sub hl [2, 1, 0] rfl)
  exact loop4 _ 0 0 (Nat.lt_succ_self _) (by omega) rfl ls (lv_sub hl [2, 1, 0] rfl)
