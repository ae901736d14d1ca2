set_option maxRecDepth 100000 in
set_option maxHeartbeats 4000000 in
theorem c_X11_areSo (l : Launch) (D : va_G) (ka : Nat → ClassId) (h : Nat) (a : Nat → Nat) (N : Nat → Nat → Nat) (C : Nat → Nat → Int32) (f : Nat → Int32) (g : Nat → Nat → Int32) (R : va_W) (hN : WF N) : RO l D ka yX11_areSo cX11_areSo 2 (some .boolean) 2 [.ref h] (fun H => va_P D vwCl (mw ka h a N C f g ++ R) H) (vp_Si (fun r => r = bI (soA N (N 0 3) = true))) := by
  refine RO.ofZ (by decide) (Nat.le_of_ble_eq_true rfl) ?_
  intro p e s m args below meth c Q X hP hret ls hl
  obtain ⟨hx, hb, hml, hown, hts, hE⟩ := id X
  have hK := hE.1
  have hl : lv_has ls 2 [(0, .ref h)] := hl
  have hN1 := hN.1
  refine lv_iconst (v := nI 0) hx hb dX11_areSo_0 (by decide) ?_
  refine lv_istore_n (lv' := [(1, .int (nI 0)), (0, .ref h)]) hx hb dX11_areSo_1 rfl hl (by decide) rfl (fun ls hl => ?_)
  have loop2 : ∀ (fuel2 : Nat) (b : Nat), N 0 3 - b < fuel2 → (b ≤ N 0 3) → (soA N b = true) → ∀ ls : Array Slot, lv_has ls 2 [(0, .ref h), (1, .int (nI b))] → W p l e (rmz 2 0 0) s m args below meth c s.heap [] 0 0 Q (F0 m 2 ls []) := by
    intro fuel2
    induction fuel2 with
    | zero => intro b hfu; exact absurd hfu (Nat.not_lt_zero _)
    | succ fuel2 ih2 =>
      intro b hfu hi1 hs ls hl
      have hb6 : b < N 0 3 → N 6 b < N 0 1 := hN.2.2.2.2.2.2.1 b
      refine lv_iload_n hx hb dX11_areSo_2 rfl (lv_at hl 1 rfl) ?_
      refine lv_aload_n hx hb dX11_areSo_3 rfl (lv_at hl 0 rfl) ?_
      refine va_get (D := D) (ci := 11) (v := .int (nI (N 0 3))) (C := RX11) (T := TX11) (N := 35) hx hb hts inX11 hown hK hP 0 rfl rfl 31 (by decide) (hts _ wd_705) (fun _ h9 => h9) rfl dX11_areSo_4 ?_
      refine i_icmp_ge (tgt := 44) hx hb (nT (by omega)) (nT (by omega)) dX11_areSo_7 (by decide) (fun c_1 => ?_) (fun c_1 => ?_)
      · refine lv_iconst (v := nI 1) hx hb dX11_areSo_44 (by decide) ?_
        refine hret _ _ _ dX11_areSo_45 (by decide) ?_
        exact (bI_t (by rw [show N 0 3 = b by omega]; exact hs)).symm
      · refine lv_aload_n hx hb dX11_areSo_10 rfl (lv_at hl 0 rfl) ?_
        refine lv_aload_n hx hb dX11_areSo_11 rfl (lv_at hl 0 rfl) ?_
        refine va_get (D := D) (ci := 11) (v := .ref (a 32)) (C := RX11) (T := TX11) (N := 35) hx hb hts inX11 hown hK hP 0 rfl rfl 32 (by decide) (hts _ wd_706) (fun _ h9 => h9) rfl dX11_areSo_12 ?_
        refine lv_iload_n hx hb dX11_areSo_15 rfl (lv_at hl 1 rfl) ?_
        refine n_iald hx hb hK hP 20 0 rfl rfl (k := b) (by omega) (by decide) dX11_areSo_16 ?_
        refine lv_aload_n hx hb dX11_areSo_17 rfl (lv_at hl 0 rfl) ?_
        refine va_get (D := D) (ci := 11) (v := .ref (a 33)) (C := RX11) (T := TX11) (N := 35) hx hb hts inX11 hown hK hP 0 rfl rfl 33 (by decide) (hts _ wd_707) (fun _ h9 => h9) rfl dX11_areSo_18 ?_
        refine lv_iload_n hx hb dX11_areSo_21 rfl (lv_at hl 1 rfl) ?_
        refine n_iald hx hb hK hP 21 0 rfl rfl (k := b) (by omega) (by decide) dX11_areSo_22 ?_
        have hv_2 : N 7 b ≤ 59 := hN.2.2.2.2.2.2.2.1 b
        refine lv_iconst (v := nI 1) hx hb dX11_areSo_23 (by decide) ?_
        refine vp_callSi (ro_runV (c_X11_holdsBy l D ka h a N C f g R (N 6 b) (N 7 b) 1 (by omega) (by omega) (by omega) (show 0 < N 0 0 by omega) hN) X wd_879 wd_876 wd_878 ws_14 wd_8 on_X11_holdsBy ⟨Nat.le_of_ble_eq_true rfl, Nat.le_of_ble_eq_true rfl⟩ (va_recv hK hP (ci := 11) (q0 := 0) rfl rfl) hP hl.1 rfl (Nat.le_of_ble_eq_true rfl) ⟨(Nat.zero_le _), (Nat.zero_le _)⟩ dX11_areSo_24) (fun r_4 hr_4 => ?_)
        subst hr_4
        have hd_3 := hld_le N (N 6 b) (N 7 b) 1
        refine lv_aload_n hx hb dX11_areSo_27 rfl (lv_at hl 0 rfl) ?_
        refine va_get (D := D) (ci := 11) (v := .ref (a 34)) (C := RX11) (T := TX11) (N := 35) hx hb hts inX11 hown hK hP 0 rfl rfl 34 (by decide) (hts _ wd_708) (fun _ h9 => h9) rfl dX11_areSo_28 ?_
        refine lv_iload_n hx hb dX11_areSo_31 rfl (lv_at hl 1 rfl) ?_
        refine n_iald hx hb hK hP 22 0 rfl rfl (k := b) (by omega) (by decide) dX11_areSo_32 ?_
        have hv_5 : N 8 b ≤ 40 := hN.2.2.2.2.2.2.2.2.1 b
        refine i_icmp_eq (tgt := 38) hx hb (nT (by omega)) (nT (by omega)) dX11_areSo_33 (by decide) (fun c_6 => ?_) (fun c_6 => ?_)
        · refine n_iinc (lv' := [(1, .int (nI (b + 1))), (0, .ref h)]) (k := 1) (d := 1) hx hb dX11_areSo_38 hl rfl rfl (by decide) rfl (fun ls hl => ?_)
          refine lv_goto (tgt := 2) hx hb dX11_areSo_41 (by decide) ?_
          exact ih2 (b + 1) (by omega) (by omega) (by rw [soA, hs]; simp; omega) ls (lv_sub hl [1, 0] rfl)
        · refine lv_iconst (v := nI 0) hx hb dX11_areSo_36 (by decide) ?_
          refine hret _ _ _ dX11_areSo_37 (by decide) ?_
          exact (bI_f (by rw [soA_f (q := b) (by omega) (by omega)]; decide)).symm
  exact loop2 _ 0 (Nat.lt_succ_self _) (by omega) rfl ls (lv_sub hl [1, 0] rfl)
set_option maxRecDepth 100000 in
set_option maxHeartbeats 4000000 in
theorem c_X11_fails (l : Launch) (D : va_G) (ka : Nat → ClassId) (z : Nat) (h : Nat) (a : Nat → Nat) (N : Nat → Nat → Nat) (C : Nat → Nat → Int32) (f : Nat → Int32) (g : Nat → Nat → Int32) (R : va_W) (k : Nat) (hk : k < 5) (hN : WF N) : MU l D ka z yX11_fails cX11_fails 2 (some .int) 0 0 0 [.ref h, .int (nI k)] (mw ka h a N C f g ++ R) (Qi D z (fun r w => r = -10 - nI k ∧ w = mw ka h a (up N 0 4 k) C f g ++ R)) := by
  refine MU.ofI (by decide) (Nat.le_of_ble_eq_true rfl) ?_
  intro p e s m args below meth c Q X hw hS hret ls hl
  obtain ⟨hx, hb, hml, hown, hts, hE⟩ := id X
  have hK := hE.1
  have hz0 := hw.1
  have hl : lv_has ls 2 [(0, .ref h), (1, .int (nI k))] := hl
  have hN1 := hN.1
  refine lv_aload_n hx hb dX11_fails_0 rfl (lv_at hl 0 rfl) ?_
  refine lv_iload_n hx hb dX11_fails_1 rfl (lv_at hl 1 rfl) ?_
  refine va_put (D := D) (ci := 11) (ty := .int) (C := RX11) (T := TX11) (N := 35) hx hb hts inX11 tyX11 tyX11_ok nmX11 hown hK hw.2.1 hw.2.2 hS 0 rfl rfl 0 (by decide) (hts _ wd_674) (fun _ h9 => h9) rfl (by decide +kernel) rfl rfl (Nat.le_of_ble_eq_true rfl) dX11_fails_2 (fun H locs hP hD hS => ?_)
  have hw : wdH D z (mw ka h a (up N 0 4 k) C f g ++ R) H := ⟨Nat.le_trans hz0 hS.1, hP, hD⟩
  refine lv_bipush (v := (-10)) hx hb dX11_fails_5 (by decide) ?_
  refine lv_iload_n hx hb dX11_fails_7 rfl (lv_at hl 1 rfl) ?_
  refine lv_isub hx hb dX11_fails_8 ?_
  exact hret _ _ _ _ _ _ _ _ dX11_fails_9 hS hw (Nat.zero_le _) (Nat.zero_le _) ⟨rfl, rfl⟩
set_option maxRecDepth 100000 in
set_option maxHeartbeats 4000000 in
theorem c_X11_lost (l : Launch) (D : va_G) (ka : Nat → ClassId) (z : Nat) (h : Nat) (a : Nat → Nat) (N : Nat → Nat → Nat) (C : Nat → Nat → Int32) (f : Nat → Int32) (g : Nat → Nat → Int32) (R : va_W) (k : Nat) (hk : k < 5) (hN : WF N) : MU l D ka z yX11_lost cX11_lost 2 (some .long) 0 0 0 [.ref h, .int (nI k)] (mw ka h a N C f g ++ R) (Ql D z (fun r w => r = LOSTV ∧ w = mw ka h a (up N 0 4 k) C f g ++ R)) := by
  refine MU.ofL (by decide) (Nat.le_of_ble_eq_true rfl) ?_
  intro p e s m args below meth c Q X hw hS hret ls hl
  obtain ⟨hx, hb, hml, hown, hts, hE⟩ := id X
  have hK := hE.1
  have hz0 := hw.1
  have hl : lv_has ls 2 [(0, .ref h), (1, .int (nI k))] := hl
  have hN1 := hN.1
  refine lv_aload_n hx hb dX11_lost_0 rfl (lv_at hl 0 rfl) ?_
  refine lv_iload_n hx hb dX11_lost_1 rfl (lv_at hl 1 rfl) ?_
  refine va_put (D := D) (ci := 11) (ty := .int) (C := RX11) (T := TX11) (N := 35) hx hb hts inX11 tyX11 tyX11_ok nmX11 hown hK hw.2.1 hw.2.2 hS 0 rfl rfl 0 (by decide) (hts _ wd_674) (fun _ h9 => h9) rfl (by decide +kernel) rfl rfl (Nat.le_of_ble_eq_true rfl) dX11_lost_2 (fun H locs hP hD hS => ?_)
  have hw : wdH D z (mw ka h a (up N 0 4 k) C f g ++ R) H := ⟨Nat.le_trans hz0 hS.1, hP, hD⟩
  refine lv_ldc2 (v := (-9223372036854775808 : Int64)) hx hb hown (hts _ wd_956) dX11_lost_5 ?_
  exact hret _ _ _ _ _ _ _ _ dX11_lost_8 hS hw (Nat.zero_le _) (Nat.zero_le _) ⟨rfl, rfl⟩
set_option maxRecDepth 100000 in
set_option maxHeartbeats 4000000 in
theorem c_X11_begins (l : Launch) (D : va_G) (ka : Nat → ClassId) (z : Nat) (h : Nat) (a : Nat → Nat) (N : Nat → Nat → Nat) (C : Nat → Nat → Int32) (f : Nat → Int32) (g : Nat → Nat → Int32) (R : va_W) (k : Nat) : MU l D ka z yX11_begins cX11_begins 2 none 0 0 0 [.ref h, .int (nI k)] (mw ka h a N C f g ++ R) (Qv D z (fun w => w = mw ka h a N (tC C k) f g ++ R)) := by
  refine MU.ofV (by decide) (Nat.le_of_ble_eq_true rfl) ?_
  intro p e s m args below meth c Q X hin hw hS hret ls hl
  obtain ⟨hx, hb, hml, hown, hts, hE⟩ := id X
  have hK := hE.1
  have hz0 := hw.1
  have hl : lv_has ls 2 [(0, .ref h), (1, .int (nI k))] := hl
  refine lv_aload_n hx hb dX11_begins_0 rfl (lv_at hl 0 rfl) ?_
  refine lv_bipush (v := nI 31) hx hb dX11_begins_1 (by decide) ?_
  refine lv_aload_n hx hb dX11_begins_3 rfl (lv_at hl 0 rfl) ?_
  refine va_get (D := D) (ci := 11) (v := .int (C 4 60)) (C := RX11) (T := TX11) (N := 35) hx hb hts inX11 hown hK hw.2.1 0 rfl rfl 1 (by decide) (hts _ wd_675) (fun _ h9 => h9) rfl dX11_begins_4 ?_
  refine lv_imul hx hb dX11_begins_7 ?_
  refine lv_iload_n hx hb dX11_begins_8 rfl (lv_at hl 1 rfl) ?_
  refine lv_iadd hx hb dX11_begins_9 ?_
  refine va_put (D := D) (ci := 11) (ty := .int) (C := RX11) (T := TX11) (N := 35) hx hb hts inX11 tyX11 tyX11_ok nmX11 hown hK hw.2.1 hw.2.2 hS 0 rfl rfl 1 (by decide) (hts _ wd_675) (fun _ h9 => h9) rfl (by decide +kernel) rfl rfl (Nat.le_of_ble_eq_true rfl) dX11_begins_10 (fun H locs hP hD hS => ?_)
  unfold mw at hP hD
  rw [tr_upd C (((nI 31) * (C 4 60)) + (nI k))] at hP hD
  have hw : wdH D z (mw ka h a N (upC C 4 60 (((nI 31) * (C 4 60)) + (nI k))) f g ++ R) H := ⟨Nat.le_trans hz0 hS.1, hP, hD⟩
  exact hret _ _ _ _ _ _ _ dX11_begins_13 hS hw (Nat.zero_le _) (Nat.zero_le _) rfl
set_option maxRecDepth 100000 in
set_option maxHeartbeats 4000000 in
theorem c_X11_hush (l : Launch) (D : va_G) (ka : Nat → ClassId) (z : Nat) (h : Nat) (a : Nat → Nat) (N : Nat → Nat → Nat) (C : Nat → Nat → Int32) (f : Nat → Int32) (g : Nat → Nat → Int32) (R : va_W) (k q : Int32) (K q2 : Int) (hk : k.toInt = K) (hq : q.toInt = q2) (hN : WF N) : MU l D ka z yX11_hush cX11_hush 4 (some .int) 1 0 0 [.ref h, .int k, .int q] (mw ka h a N C f g ++ R) (Qi D z (fun r w => ∃ f' g' N' C', w = mw ka h a N' C' f' g' ++ R ∧ (r, N', C') = sp_hush N C K q2)) := by
  refine MU.ofI (by decide) (Nat.le_of_ble_eq_true rfl) ?_
  intro p e s m args below meth c Q X hw hS hret ls hl
  obtain ⟨hx, hb, hml, hown, hts, hE⟩ := id X
  have hK := hE.1
  have hz0 := hw.1
  have hl : lv_has ls 4 [(0, .ref h), (1, .int k), (2, .int q)] := hl
  have hN1 := hN.1
  refine lv_aload_n hx hb dX11_hush_0 rfl (lv_at hl 0 rfl) ?_
  refine lv_iload_n hx hb dX11_hush_1 rfl (lv_at hl 1 rfl) ?_
  refine vp_callSi (ro_runV (c_X11_isPlace l D ka h a N C f g R k _ hk hN) X wd_848 wd_845 wd_847 ws_12 wd_8 on_X11_isPlace ⟨Nat.le_of_ble_eq_true rfl, Nat.le_of_ble_eq_true rfl⟩ (va_recv hK hw.2.1 (ci := 11) (q0 := 0) rfl rfl) hw.2.1 hl.1 rfl (Nat.le_of_ble_eq_true rfl) ⟨(Nat.zero_le _), (Nat.zero_le _)⟩ dX11_hush_2) (fun r_1 hr_1 => ?_)
  subst hr_1
  refine b_if_ne (tgt := 10) hx hb dX11_hush_5 (by decide) (fun c_2 => ?_) (fun c_2 => ?_)
  · refine lv_iload_n hx hb dX11_hush_10 rfl (lv_at hl 2 rfl) ?_
    refine lv_iconst (v := nI 0) hx hb dX11_hush_11 (by decide) ?_
    refine lv_bipush (v := nI 9) hx hb dX11_hush_12 (by decide) ?_
    refine vp_callSi (ro_runS (c_X11_within l D ka q (nI 0) (nI 9) _ _ _ hq (nT (by decide)) (nT (by decide))) X wd_789 wd_787 wd_788 wd_8 on_X11_within ⟨Nat.le_of_ble_eq_true rfl, Nat.le_of_ble_eq_true rfl⟩ trivial hl.1 rfl (Nat.le_of_ble_eq_true rfl) ⟨(Nat.zero_le _), (Nat.zero_le _)⟩ dX11_hush_14) (fun r_3 hr_3 => ?_)
    subst hr_3
    refine b_if_ne (tgt := 23) hx hb dX11_hush_17 (by decide) (fun c_4 => ?_) (fun c_4 => ?_)
    · obtain ⟨j, hlt_j, rfl, rfl⟩ := nat_ofK (n := N 0 0) hk (by omega) (by omega)
      obtain ⟨i, hlt_i, rfl, rfl⟩ := nat_ofK (n := 10) hq (by omega) (by omega)
      refine lv_aload_n hx hb dX11_hush_23 rfl (lv_at hl 0 rfl) ?_
      refine va_get (D := D) (ci := 11) (v := .ref (a 8)) (C := RX11) (T := TX11) (N := 35) hx hb hts inX11 hown hK hw.2.1 0 rfl rfl 8 (by decide) (hts _ wd_682) (fun _ h9 => h9) rfl dX11_hush_24 ?_
      refine lv_iload_n hx hb dX11_hush_27 rfl (lv_at hl 1 rfl) ?_
      refine n_iald hx hb hK hw.2.1 4 0 rfl rfl (k := j) (by omega) (by decide) dX11_hush_28 ?_
      have hv_5 : N 1 j ≤ 9 := hN.2.1 j
      refine lv_istore_n (lv' := [(3, .int (nI (N 1 j))), (0, .ref h), (1, .int (nI j)), (2, .int (nI i))]) hx hb dX11_hush_29 rfl hl (by decide) rfl (fun ls hl => ?_)
      refine lv_aload_n hx hb dX11_hush_30 rfl (lv_at hl 1 rfl) ?_
      refine va_get (D := D) (ci := 11) (v := .ref (a 8)) (C := RX11) (T := TX11) (N := 35) hx hb hts inX11 hown hK hw.2.1 0 rfl rfl 8 (by decide) (hts _ wd_682) (fun _ h9 => h9) rfl dX11_hush_31 ?_
      refine lv_iload_n hx hb dX11_hush_34 rfl (lv_at hl 2 rfl) ?_
      refine lv_iload_n hx hb dX11_hush_35 rfl (lv_at hl 3 rfl) ?_
      refine n_iast hx hb hK hw.2.1 hw.2.2 hS 4 0 (φ := nI) (u := N 1) (v := i) rfl rfl (k := j) rfl (by omega) (by decide) dX11_hush_36 (fun H locs hP hD hS => ?_)
      have hw : wdH D z (mw ka h a (up N 1 j i) C f g ++ R) H := ⟨Nat.le_trans hz0 hS.1, hP, hD⟩
      refine lv_iload_n hx hb dX11_hush_37 rfl (lv_at hl 0 rfl) ?_
      refine hret _ _ _ _ _ _ _ _ dX11_hush_38 hS hw (Nat.zero_le _) (Nat.zero_le _) ?_
      refine ⟨f, g, (up N 1 j i), C, rfl, ?_⟩
      unfold sp_hush
      try simp only [Int.toNat_natCast]
      (repeat' split) <;> first | rfl | omega
    · refine lv_bipush (v := (-2)) hx hb dX11_hush_20 (by decide) ?_
      refine hret _ _ _ _ _ _ _ _ dX11_hush_22 hS hw (Nat.zero_le _) (Nat.zero_le _) ?_
      refine ⟨f, g, N, C, rfl, ?_⟩
      unfold sp_hush
      try simp only [Int.toNat_natCast]
      (repeat' split) <;> first | rfl | omega
  · refine lv_iconst (v := (-1)) hx hb dX11_hush_8 (by decide) ?_
    refine hret _ _ _ _ _ _ _ _ dX11_hush_9 hS hw (Nat.zero_le _) (Nat.zero_le _) ?_
    refine ⟨f, g, N, C, rfl, ?_⟩
    unfold sp_hush
    try simp only [Int.toNat_natCast]
    (repeat' split) <;> first | rfl | omega
set_option maxRecDepth 100000 in
set_option maxHeartbeats 4000000 in
theorem c_X11_think (l : Launch) (D : va_G) (ka : Nat → ClassId) (z : Nat) (h : Nat) (a : Nat → Nat) (N : Nat → Nat → Nat) (C : Nat → Nat → Int32) (f : Nat → Int32) (g : Nat → Nat → Int32) (R : va_W) (k q : Int32) (K q2 : Int) (hk : k.toInt = K) (hq : q.toInt = q2) (hN : WF N) : MU l D ka z yX11_think cX11_think 4 (some .int) 1 0 0 [.ref h, .int k, .int q] (mw ka h a N C f g ++ R) (Qi D z (fun r w => ∃ f' g' N' C', w = mw ka h a N' C' f' g' ++ R ∧ (r, N', C') = sp_think N C K q2)) := by
  refine MU.ofI (by decide) (Nat.le_of_ble_eq_true rfl) ?_
  intro p e s m args below meth c Q X hw hS hret ls hl
  obtain ⟨hx, hb, hml, hown, hts, hE⟩ := id X
  have hK := hE.1
  have hz0 := hw.1
  have hl : lv_has ls 4 [(0, .ref h), (1, .int k), (2, .int q)] := hl
  have hN1 := hN.1
  refine lv_aload_n hx hb dX11_think_0 rfl (lv_at hl 0 rfl) ?_
  refine lv_iload_n hx hb dX11_think_1 rfl (lv_at hl 1 rfl) ?_
  refine vp_callSi (ro_runV (c_X11_isTaker l D ka h a N C f g R k _ hk hN) X wd_836 wd_833 wd_835 ws_11 wd_8 on_X11_isTaker ⟨Nat.le_of_ble_eq_true rfl, Nat.le_of_ble_eq_true rfl⟩ (va_recv hK hw.2.1 (ci := 11) (q0 := 0) rfl rfl) hw.2.1 hl.1 rfl (Nat.le_of_ble_eq_true rfl) ⟨(Nat.zero_le _), (Nat.zero_le _)⟩ dX11_think_2) (fun r_1 hr_1 => ?_)
  subst hr_1
  refine b_if_ne (tgt := 10) hx hb dX11_think_5 (by decide) (fun c_2 => ?_) (fun c_2 => ?_)
  · refine lv_iload_n hx hb dX11_think_10 rfl (lv_at hl 2 rfl) ?_
    refine lv_iconst (v := nI 0) hx hb dX11_think_11 (by decide) ?_
    refine lv_bipush (v := nI 9) hx hb dX11_think_12 (by decide) ?_
    refine vp_callSi (ro_runS (c_X11_within l D ka q (nI 0) (nI 9) _ _ _ hq (nT (by decide)) (nT (by decide))) X wd_789 wd_787 wd_788 wd_8 on_X11_within ⟨Nat.le_of_ble_eq_true rfl, Nat.le_of_ble_eq_true rfl⟩ trivial hl.1 rfl (Nat.le_of_ble_eq_true rfl) ⟨(Nat.zero_le _), (Nat.zero_le _)⟩ dX11_think_14) (fun r_3 hr_3 => ?_)
    subst hr_3
    refine b_if_ne (tgt := 23) hx hb dX11_think_17 (by decide) (fun c_4 => ?_) (fun c_4 => ?_)
    · obtain ⟨j, hlt_j, rfl, rfl⟩ := nat_ofK (n := N 0 1) hk (by omega) (by omega)
      obtain ⟨i, hlt_i, rfl, rfl⟩ := nat_ofK (n := 10) hq (by omega) (by omega)
      refine lv_aload_n hx hb dX11_think_23 rfl (lv_at hl 0 rfl) ?_
      refine va_get (D := D) (ci := 11) (v := .ref (a 11)) (C := RX11) (T := TX11) (N := 35) hx hb hts inX11 hown hK hw.2.1 0 rfl rfl 11 (by decide) (hts _ wd_685) (fun _ h9 => h9) rfl dX11_think_24 ?_
      refine lv_iload_n hx hb dX11_think_27 rfl (lv_at hl 1 rfl) ?_
      refine n_iald hx hb hK hw.2.1 7 0 rfl rfl (k := j) (by omega) (by decide) dX11_think_28 ?_
      have hv_5 : N 4 j ≤ 9 := hN.2.2.2.2.1 j
      refine lv_istore_n (lv' := [(3, .int (nI (N 4 j))), (0, .ref h), (1, .int (nI j)), (2, .int (nI i))]) hx hb dX11_think_29 rfl hl (by decide) rfl (fun ls hl => ?_)
      refine lv_aload_n hx hb dX11_think_30 rfl (lv_at hl 1 rfl) ?_
      refine va_get (D := D) (ci := 11) (v := .ref (a 11)) (C := RX11) (T := TX11) (N := 35) hx hb hts inX11 hown hK hw.2.1 0 rfl rfl 11 (by decide) (hts _ wd_685) (fun _ h9 => h9) rfl dX11_think_31 ?_
      refine lv_iload_n hx hb dX11_think_34 rfl (lv_at hl 2 rfl) ?_
      refine lv_iload_n hx hb dX11_think_35 rfl (lv_at hl 3 rfl) ?_
      refine n_iast hx hb hK hw.2.1 hw.2.2 hS 7 0 (φ := nI) (u := N 4) (v := i) rfl rfl (k := j) rfl (by omega) (by decide) dX11_think_36 (fun H locs hP hD hS => ?_)
      have hw : wdH D z (mw ka h a (up N 4 j i) C f g ++ R) H := ⟨Nat.le_trans hz0 hS.1, hP, hD⟩
      refine lv_iload_n hx hb dX11_think_37 rfl (lv_at hl 0 rfl) ?_
      refine hret _ _ _ _ _ _ _ _ dX11_think_38 hS hw (Nat.zero_le _) (Nat.zero_le _) ?_
      refine ⟨f, g, (up N 4 j i), C, rfl, ?_⟩
      unfold sp_think
      try simp only [Int.toNat_natCast]
      (repeat' split) <;> first | rfl | omega
    · refine lv_bipush (v := (-2)) hx hb dX11_think_20 (by decide) ?_
      refine hret _ _ _ _ _ _ _ _ dX11_think_22 hS hw (Nat.zero_le _) (Nat.zero_le _) ?_
      refine ⟨f, g, N, C, rfl, ?_⟩
      unfold sp_think
      try simp only [Int.toNat_natCast]
      (repeat' split) <;> first | rfl | omega
  · refine lv_iconst (v := (-1)) hx hb dX11_think_8 (by decide) ?_
    refine hret _ _ _ _ _ _ _ _ dX11_think_9 hS hw (Nat.zero_le _) (Nat.zero_le _) ?_
    refine ⟨f, g, N, C, rfl, ?_⟩
    unfold sp_think
    try simp only [Int.toNat_natCast]
    (repeat' split) <;> first | rfl | omega
set_option maxRecDepth 100000 in
set_option maxHeartbeats 4000000 in
theorem c_X11_brace (l : Launch) (D : va_G) (ka : Nat → ClassId) (z : Nat) (h : Nat) (a : Nat → Nat) (N : Nat → Nat → Nat) (C : Nat → Nat → Int32) (f : Nat → Int32) (g : Nat → Nat → Int32) (R : va_W) (k q : Int32) (K q2 : Int) (hk : k.toInt = K) (hq : q.toInt = q2) (hN : WF N) : MU l D ka z yX11_brace cX11_brace 4 (some .int) 1 0 0 [.ref h, .int k, .int q] (mw ka h a N C f g ++ R) (Qi D z (fun r w => ∃ f' g' N' C', w = mw ka h a N' C' f' g' ++ R ∧ (r, N', C') = sp_brace N C K q2)) := by
  refine MU.ofI (by decide) (Nat.le_of_ble_eq_true rfl) ?_
  intro p e s m args below meth c Q X hw hS hret ls hl
  obtain ⟨hx, hb, hml, hown, hts, hE⟩ := id X
  have hK := hE.1
  have hz0 := hw.1
  have hl : lv_has ls 4 [(0, .ref h), (1, .int k), (2, .int q)] := hl
  have hN1 := hN.1
  refine lv_aload_n hx hb dX11_brace_0 rfl (lv_at hl 0 rfl) ?_
  refine lv_iload_n hx hb dX11_brace_1 rfl (lv_at hl 1 rfl) ?_
  refine vp_callSi (ro_runV (c_X11_isTaker l D ka h a N C f g R k _ hk hN) X wd_836 wd_833 wd_835 ws_11 wd_8 on_X11_isTaker ⟨Nat.le_of_ble_eq_true rfl, Nat.le_of_ble_eq_true rfl⟩ (va_recv hK hw.2.1 (ci := 11) (q0 := 0) rfl rfl) hw.2.1 hl.1 rfl (Nat.le_of_ble_eq_true rfl) ⟨(Nat.zero_le _), (Nat.zero_le _)⟩ dX11_brace_2) (fun r_1 hr_1 => ?_)
  subst hr_1
  refine b_if_ne (tgt := 10) hx hb dX11_brace_5 (by decide) (fun c_2 => ?_) (fun c_2 => ?_)
  · refine lv_iload_n hx hb dX11_brace_10 rfl (lv_at hl 2 rfl) ?_
    refine lv_iconst (v := nI 0) hx hb dX11_brace_11 (by decide) ?_
    refine lv_bipush (v := nI 99) hx hb dX11_brace_12 (by decide) ?_
    refine vp_callSi (ro_runS (c_X11_within l D ka q (nI 0) (nI 99) _ _ _ hq (nT (by decide)) (nT (by decide))) X wd_789 wd_787 wd_788 wd_8 on_X11_within ⟨Nat.le_of_ble_eq_true rfl, Nat.le_of_ble_eq_true rfl⟩ trivial hl.1 rfl (Nat.le_of_ble_eq_true rfl) ⟨(Nat.zero_le _), (Nat.zero_le _)⟩ dX11_brace_14) (fun r_3 hr_3 => ?_)
    subst hr_3
    refine b_if_ne (tgt := 23) hx hb dX11_brace_17 (by decide) (fun c_4 => ?_) (fun c_4 => ?_)
    · obtain ⟨j, hlt_j, rfl, rfl⟩ := nat_ofK (n := N 0 1) hk (by omega) (by omega)
      obtain ⟨i, hlt_i, rfl, rfl⟩ := nat_ofK (n := 100) hq (by omega) (by omega)
      refine lv_aload_n hx hb dX11_brace_23 rfl (lv_at hl 0 rfl) ?_
      refine va_get (D := D) (ci := 11) (v := .ref (a 10)) (C := RX11) (T := TX11) (N := 35) hx hb hts inX11 hown hK hw.2.1 0 rfl rfl 10 (by decide) (hts _ wd_684) (fun _ h9 => h9) rfl dX11_brace_24 ?_
      refine lv_iload_n hx hb dX11_brace_27 rfl (lv_at hl 1 rfl) ?_
      refine n_iald hx hb hK hw.2.1 6 0 rfl rfl (k := j) (by omega) (by decide) dX11_brace_28 ?_
      have hv_5 : N 3 j ≤ 99 := hN.2.2.2.1 j
      refine lv_istore_n (lv' := [(3, .int (nI (N 3 j))), (0, .ref h), (1, .int (nI j)), (2, .int (nI i))]) hx hb dX11_brace_29 rfl hl (by decide) rfl (fun ls hl => ?_)
      refine lv_aload_n hx hb dX11_brace_30 rfl (lv_at hl 1 rfl) ?_
      refine va_get (D := D) (ci := 11) (v := .ref (a 10)) (C := RX11) (T := TX11) (N := 35) hx hb hts inX11 hown hK hw.2.1 0 rfl rfl 10 (by decide) (hts _ wd_684) (fun _ h9 => h9) rfl dX11_brace_31 ?_
      refine lv_iload_n hx hb dX11_brace_34 rfl (lv_at hl 2 rfl) ?_
      refine lv_iload_n hx hb dX11_brace_35 rfl (lv_at hl 3 rfl) ?_
      refine n_iast hx hb hK hw.2.1 hw.2.2 hS 6 0 (φ := nI) (u := N 3) (v := i) rfl rfl (k := j) rfl (by omega) (by decide) dX11_brace_36 (fun H locs hP hD hS => ?_)
      have hw : wdH D z (mw ka h a (up N 3 j i) C f g ++ R) H := ⟨Nat.le_trans hz0 hS.1, hP, hD⟩
      refine lv_iload_n hx hb dX11_brace_37 rfl (lv_at hl 0 rfl) ?_
      refine hret _ _ _ _ _ _ _ _ dX11_brace_38 hS hw (Nat.zero_le _) (Nat.zero_le _) ?_
      refine ⟨f, g, (up N 3 j i), C, rfl, ?_⟩
      unfold sp_brace
      try simp only [Int.toNat_natCast]
      (repeat' split) <;> first | rfl | omega
    · refine lv_bipush (v := (-2)) hx hb dX11_brace_20 (by decide) ?_
      refine hret _ _ _ _ _ _ _ _ dX11_brace_22 hS hw (Nat.zero_le _) (Nat.zero_le _) ?_
      refine ⟨f, g, N, C, rfl, ?_⟩
      unfold sp_brace
      try simp only [Int.toNat_natCast]
      (repeat' split) <;> first | rfl | omega
  · refine lv_iconst (v := (-1)) hx hb dX11_brace_8 (by decide) ?_
    refine hret _ _ _ _ _ _ _ _ dX11_brace_9 hS hw (Nat.zero_le _) (Nat.zero_le _) ?_
    refine ⟨f, g, N, C, rfl, ?_⟩
    unfold sp_brace
    try simp only [Int.toNat_natCast]
    (repeat' split) <;> first | rfl | omega
set_option maxRecDepth 100000 in
set_option maxHeartbeats 4000000 in
theorem c_X11_reading (l : Launch) (D : va_G) (ka : Nat → ClassId) (z : Nat) (h : Nat) (a : Nat → Nat) (N : Nat → Nat → Nat) (C : Nat → Nat → Int32) (f : Nat → Int32) (g : Nat → Nat → Int32) (R : va_W) (k q m1 : Int32) (K q2 m2 : Int) (hk : k.toInt = K) (hq : q.toInt = q2) (hm1 : m1.toInt = m2) (hN : WF N) : MU l D ka z yX11_reading cX11_reading 4 (some .int) 2 0 0 [.ref h, .int k, .int q, .int m1] (mw ka h a N C f g ++ R) (Qi D z (fun r w => ∃ f' g' N' C', w = mw ka h a N' C' f' g' ++ R ∧ (r, N', C') = sp_reading N C K q2 m2)) := by
  refine MU.ofI (by decide) (Nat.le_of_ble_eq_true rfl) ?_
  intro p e s m args below meth c Q X hw hS hret ls hl
  obtain ⟨hx, hb, hml, hown, hts, hE⟩ := id X
  have hK := hE.1
  have hz0 := hw.1
  have hl : lv_has ls 4 [(0, .ref h), (1, .int k), (2, .int q), (3, .int m1)] := hl
  have hN1 := hN.1
  refine lv_aload_n hx hb dX11_reading_0 rfl (lv_at hl 0 rfl) ?_
  refine lv_iload_n hx hb dX11_reading_1 rfl (lv_at hl 1 rfl) ?_
  refine vp_callSi (ro_runV (c_X11_isTaker l D ka h a N C f g R k _ hk hN) X wd_836 wd_833 wd_835 ws_11 wd_8 on_X11_isTaker ⟨Nat.le_of_ble_eq_true rfl, Nat.le_of_ble_eq_true rfl⟩ (va_recv hK hw.2.1 (ci := 11) (q0 := 0) rfl rfl) hw.2.1 hl.1 rfl (Nat.le_of_ble_eq_true rfl) ⟨(Nat.zero_le _), (Nat.zero_le _)⟩ dX11_reading_2) (fun r_1 hr_1 => ?_)
  subst hr_1
  refine b_if_ne (tgt := 10) hx hb dX11_reading_5 (by decide) (fun c_2 => ?_) (fun c_2 => ?_)
  · refine lv_iload_n hx hb dX11_reading_10 rfl (lv_at hl 2 rfl) ?_
    refine vp_callSi (ro_runS (c_X11_isMinute l D ka q _ hq) X wd_875 wd_873 wd_874 wd_8 on_X11_isMinute ⟨Nat.le_of_ble_eq_true rfl, Nat.le_of_ble_eq_true rfl⟩ trivial hl.1 rfl (Nat.le_of_ble_eq_true rfl) ⟨(Nat.zero_le _), (Nat.zero_le _)⟩ dX11_reading_11) (fun r_3 hr_3 => ?_)
    subst hr_3
    refine b_if_eq (tgt := 27) hx hb dX11_reading_14 (by decide) (fun c_4 => ?_) (fun c_4 => ?_)
    · refine lv_bipush (v := (-2)) hx hb dX11_reading_27 (by decide) ?_
      refine hret _ _ _ _ _ _ _ _ dX11_reading_29 hS hw (Nat.zero_le _) (Nat.zero_le _) ?_
      refine ⟨f, g, N, C, rfl, ?_⟩
      unfold sp_reading
      try simp only [Int.toNat_natCast]
      (repeat' split) <;> first | rfl | omega
    · refine lv_iload_n hx hb dX11_reading_17 rfl (lv_at hl 3 rfl) ?_
      refine lv_iconst (v := nI 0) hx hb dX11_reading_18 (by decide) ?_
      refine lv_bipush (v := nI 40) hx hb dX11_reading_19 (by decide) ?_
      refine vp_callSi (ro_runS (c_X11_within l D ka m1 (nI 0) (nI 40) _ _ _ hm1 (nT (by decide)) (nT (by decide))) X wd_789 wd_787 wd_788 wd_8 on_X11_within ⟨Nat.le_of_ble_eq_true rfl, Nat.le_of_ble_eq_true rfl⟩ trivial hl.1 rfl (Nat.le_of_ble_eq_true rfl) ⟨(Nat.zero_le _), (Nat.zero_le _)⟩ dX11_reading_21) (fun r_5 hr_5 => ?_)
      subst hr_5
      refine b_if_ne (tgt := 30) hx hb dX11_reading_24 (by decide) (fun c_6 => ?_) (fun c_6 => ?_)
      · refine lv_aload_n hx hb dX11_reading_30 rfl (lv_at hl 0 rfl) ?_
        refine va_get (D := D) (ci := 11) (v := .int (nI (N 0 3))) (C := RX11) (T := TX11) (N := 35) hx hb hts inX11 hown hK hw.2.1 0 rfl rfl 31 (by decide) (hts _ wd_705) (fun _ h9 => h9) rfl dX11_reading_31 ?_
        refine lv_bipush (v := nI 8) hx hb dX11_reading_34 (by decide) ?_
        refine i_icmp_ne (tgt := 42) hx hb (nT (by omega)) (nT (by decide)) dX11_reading_36 (by decide) (fun c_7 => ?_) (fun c_7 => ?_)
        · obtain ⟨j, hlt_j, rfl, rfl⟩ := nat_ofK (n := N 0 1) hk (by omega) (by omega)
          obtain ⟨i, hlt_i, rfl, rfl⟩ := nat_ofK (n := 60) hq (by omega) (by omega)
          obtain ⟨t, hlt_t, rfl, rfl⟩ := nat_ofK (n := 41) hm1 (by omega) (by omega)
          refine lv_aload_n hx hb dX11_reading_42 rfl (lv_at hl 0 rfl) ?_
          refine va_get (D := D) (ci := 11) (v := .ref (a 32)) (C := RX11) (T := TX11) (N := 35) hx hb hts inX11 hown hK hw.2.1 0 rfl rfl 32 (by decide) (hts _ wd_706) (fun _ h9 => h9) rfl dX11_reading_43 ?_
          refine lv_aload_n hx hb dX11_reading_46 rfl (lv_at hl 0 rfl) ?_
          refine va_get (D := D) (ci := 11) (v := .int (nI (N 0 3))) (C := RX11) (T := TX11) (N := 35) hx hb hts inX11 hown hK hw.2.1 0 rfl rfl 31 (by decide) (hts _ wd_705) (fun _ h9 => h9) rfl dX11_reading_47 ?_
          refine lv_iload_n hx hb dX11_reading_50 rfl (lv_at hl 1 rfl) ?_
          refine n_iast hx hb hK hw.2.1 hw.2.2 hS 20 0 (φ := nI) (u := N 6) (v := j) rfl rfl (k := N 0 3) rfl (by omega) (by decide) dX11_reading_51 (fun H locs hP hD hS => ?_)
          have hw : wdH D z (mw ka h a (up N 6 (N 0 3) j) C f g ++ R) H := ⟨Nat.le_trans hz0 hS.1, hP, hD⟩
          refine lv_aload_n hx hb dX11_reading_52 rfl (lv_at hl 0 rfl) ?_
          refine va_get (D := D) (ci := 11) (v := .ref (a 33)) (C := RX11) (T := TX11) (N := 35) hx hb hts inX11 hown hK hw.2.1 0 rfl rfl 33 (by decide) (hts _ wd_707) (fun _ h9 => h9) rfl dX11_reading_53 ?_
          refine lv_aload_n hx hb dX11_reading_56 rfl (lv_at hl 0 rfl) ?_
          refine va_get (D := D) (ci := 11) (v := .int (nI (N 0 3))) (C := RX11) (T := TX11) (N := 35) hx hb hts inX11 hown hK hw.2.1 0 rfl rfl 31 (by decide) (hts _ wd_705) (fun _ h9 => h9) rfl dX11_reading_57 ?_
          refine lv_iload_n hx hb dX11_reading_60 rfl (lv_at hl 2 rfl) ?_
          refine n_iast hx hb hK hw.2.1 hw.2.2 hS 21 0 (φ := nI) (u := (up N 6 (N 0 3) j) 7) (v := i) rfl rfl (k := N 0 3) rfl (by omega) (by decide) dX11_reading_61 (fun H locs hP hD hS => ?_)
          have hw : wdH D z (mw ka h a (up (up N 6 (N 0 3) j) 7 (N 0 3) i) C f g ++ R) H := ⟨Nat.le_trans hz0 hS.1, hP, hD⟩
          refine lv_aload_n hx hb dX11_reading_62 rfl (lv_at hl 0 rfl) ?_
          refine va_get (D := D) (ci := 11) (v := .ref (a 34)) (C := RX11) (T := TX11) (N := 35) hx hb hts inX11 hown hK hw.2.1 0 rfl rfl 34 (by decide) (hts _ wd_708) (fun _ h9 => h9) rfl dX11_reading_63 ?_
          refine lv_aload_n hx hb dX11_reading_66 rfl (lv_at hl 0 rfl) ?_
          refine va_get (D := D) (ci := 11) (v := .int (nI (N 0 3))) (C := RX11) (T := TX11) (N := 35) hx hb hts inX11 hown hK hw.2.1 0 rfl rfl 31 (by decide) (hts _ wd_705) (fun _ h9 => h9) rfl dX11_reading_67 ?_
          refine lv_iload_n hx hb dX11_reading_70 rfl (lv_at hl 3 rfl) ?_
          refine n_iast hx hb hK hw.2.1 hw.2.2 hS 22 0 (φ := nI) (u := (up (up N 6 (N 0 3) j) 7 (N 0 3) i) 8) (v := t) rfl rfl (k := N 0 3) rfl (by omega) (by decide) dX11_reading_71 (fun H locs hP hD hS => ?_)
          have hw : wdH D z (mw ka h a (up (up (up N 6 (N 0 3) j) 7 (N 0 3) i) 8 (N 0 3) t) C f g ++ R) H := ⟨Nat.le_trans hz0 hS.1, hP, hD⟩
          refine lv_aload_n hx hb dX11_reading_72 rfl (lv_at hl 0 rfl) ?_
          refine lv_dup hx hb dX11_reading_73 rfl ?_
          refine va_get (D := D) (ci := 11) (v := .int (nI (N 0 3))) (C := RX11) (T := TX11) (N := 35) hx hb hts inX11 hown hK hw.2.1 0 rfl rfl 31 (by decide) (hts _ wd_705) (fun _ h9 => h9) rfl dX11_reading_74 ?_
          refine lv_iconst (v := nI 1) hx hb dX11_reading_77 (by decide) ?_
          refine n_iadd hx hb dX11_reading_78 ?_
          refine va_put (D := D) (ci := 11) (ty := .int) (C := RX11) (T := TX11) (N := 35) hx hb hts inX11 tyX11 tyX11_ok nmX11 hown hK hw.2.1 hw.2.2 hS 0 rfl rfl 31 (by decide) (hts _ wd_705) (fun _ h9 => h9) rfl (by decide +kernel) rfl rfl (Nat.le_of_ble_eq_true rfl) dX11_reading_79 (fun H locs hP hD hS => ?_)
          have hw : wdH D z (mw ka h a (up (up (up (up N 6 (N 0 3) j) 7 (N 0 3) i) 8 (N 0 3) t) 0 3 ((N 0 3) + 1)) C f g ++ R) H := ⟨Nat.le_trans hz0 hS.1, hP, hD⟩
          refine lv_aload_n hx hb dX11_reading_82 rfl (lv_at hl 0 rfl) ?_
          refine va_get (D := D) (ci := 11) (v := .int (nI ((N 0 3) + 1))) (C := RX11) (T := TX11) (N := 35) hx hb hts inX11 hown hK hw.2.1 0 rfl rfl 31 (by decide) (hts _ wd_705) (fun _ h9 => h9) rfl dX11_reading_83 ?_
          refine lv_iconst (v := nI 1) hx hb dX11_reading_86 (by decide) ?_
          refine n_isub hx hb (by omega) dX11_reading_87 ?_
          refine hret _ _ _ _ _ _ _ _ dX11_reading_88 hS hw (Nat.zero_le _) (Nat.zero_le _) ?_
          refine ⟨f, g, (up (up (up (up N 6 (N 0 3) j) 7 (N 0 3) i) 8 (N 0 3) t) 0 3 ((N 0 3) + 1)), C, rfl, ?_⟩
          unfold sp_reading
          try simp only [Int.toNat_natCast]
          (repeat' split) <;> first | rfl | omega
        · refine lv_bipush (v := (-4)) hx hb dX11_reading_39 (by decide) ?_
          refine hret _ _ _ _ _ _ _ _ dX11_reading_41 hS hw (Nat.zero_le _) (Nat.zero_le _) ?_
          refine ⟨f, g, N, C, rfl, ?_⟩
          unfold sp_reading
          try simp only [Int.toNat_natCast]
          (repeat' split) <;> first | rfl | omega
      · refine lv_bipush (v := (-2)) hx hb dX11_reading_27 (by decide) ?_
        refine hret _ _ _ _ _ _ _ _ dX11_reading_29 hS hw (Nat.zero_le _) (Nat.zero_le _) ?_
        refine ⟨f, g, N, C, rfl, ?_⟩
        unfold sp_reading
        try simp only [Int.toNat_natCast]
        (repeat' split) <;> first | rfl | omega
  · refine lv_iconst (v := (-1)) hx hb dX11_reading_8 (by decide) ?_
    refine hret _ _ _ _ _ _ _ _ dX11_reading_9 hS hw (Nat.zero_le _) (Nat.zero_le _) ?_
    refine ⟨f, g, N, C, rfl, ?_⟩
    unfold sp_reading
    try simp only [Int.toNat_natCast]
    (repeat' split) <;> first | rfl | omega
set_option maxRecDepth 100000 in
set_option maxHeartbeats 4000000 in
theorem c_X11_back (l : Launch) (D : va_G) (ka : Nat → ClassId) (z : Nat) (h : Nat) (a : Nat → Nat) (N : Nat → Nat → Nat) (C : Nat → Nat → Int32) (f : Nat → Int32) (g : Nat → Nat → Int32) (R : va_W) (k : Int32) (K : Int) (hk : k.toInt = K) (hN : WF N) : MU l D ka z yX11_back cX11_back 2 (some .int) 1 0 0 [.ref h, .int k] (mw ka h a N C f g ++ R) (Qi D z (fun r w => ∃ f' g' N' C', w = mw ka h a N' C' f' g' ++ R ∧ (r, N', C') = sp_back N C K)) := by
  refine MU.ofI (by decide) (Nat.le_of_ble_eq_true rfl) ?_
  intro p e s m args below meth c Q X hw hS hret ls hl
  obtain ⟨hx, hb, hml, hown, hts, hE⟩ := id X
  have hK := hE.1
  have hz0 := hw.1
  have hl : lv_has ls 2 [(0, .ref h), (1, .int k)] := hl
  have hN1 := hN.1
  refine lv_iload_n hx hb dX11_back_0 rfl (lv_at hl 1 rfl) ?_
  refine lv_iconst (v := nI 0) hx hb dX11_back_1 (by decide) ?_
  refine lv_aload_n hx hb dX11_back_2 rfl (lv_at hl 0 rfl) ?_
  refine va_get (D := D) (ci := 11) (v := .int (nI (N 0 3))) (C := RX11) (T := TX11) (N := 35) hx hb hts inX11 hown hK hw.2.1 0 rfl rfl 31 (by decide) (hts _ wd_705) (fun _ h9 => h9) rfl dX11_back_3 ?_
  refine vp_callSi (ro_runS (c_X11_within l D ka k (nI 0) (nI (N 0 3)) _ _ _ hk (nT (by decide)) (nT (by omega))) X wd_789 wd_787 wd_788 wd_8 on_X11_within ⟨Nat.le_of_ble_eq_true rfl, Nat.le_of_ble_eq_true rfl⟩ trivial hl.1 rfl (Nat.le_of_ble_eq_true rfl) ⟨(Nat.zero_le _), (Nat.zero_le _)⟩ dX11_back_6) (fun r_1 hr_1 => ?_)
  subst hr_1
  refine b_if_ne (tgt := 15) hx hb dX11_back_9 (by decide) (fun c_2 => ?_) (fun c_2 => ?_)
  · obtain ⟨j, hlt_j, rfl, rfl⟩ := nat_ofK (n := N 0 3 + 1) hk (by omega) (by omega)
    refine lv_aload_n hx hb dX11_back_15 rfl (lv_at hl 0 rfl) ?_
    refine lv_dup hx hb dX11_back_16 rfl ?_
    refine va_get (D := D) (ci := 11) (v := .int (nI (N 0 3))) (C := RX11) (T := TX11) (N := 35) hx hb hts inX11 hown hK hw.2.1 0 rfl rfl 31 (by decide) (hts _ wd_705) (fun _ h9 => h9) rfl dX11_back_17 ?_
    refine lv_iload_n hx hb dX11_back_20 rfl (lv_at hl 1 rfl) ?_
    refine n_isub hx hb (by omega) dX11_back_21 ?_
    refine va_put (D := D) (ci := 11) (ty := .int) (C := RX11) (T := TX11) (N := 35) hx hb hts inX11 tyX11 tyX11_ok nmX11 hown hK hw.2.1 hw.2.2 hS 0 rfl rfl 31 (by decide) (hts _ wd_705) (fun _ h9 => h9) rfl (by decide +kernel) rfl rfl (Nat.le_of_ble_eq_true rfl) dX11_back_22 (fun H locs hP hD hS => ?_)
    have hw : wdH D z (mw ka h a (up N 0 3 ((N 0 3) - j)) C f g ++ R) H := ⟨Nat.le_trans hz0 hS.1, hP, hD⟩
    refine lv_aload_n hx hb dX11_back_25 rfl (lv_at hl 0 rfl) ?_
    refine va_get (D := D) (ci := 11) (v := .int (nI ((N 0 3) - j))) (C := RX11) (T := TX11) (N := 35) hx hb hts inX11 hown hK hw.2.1 0 rfl rfl 31 (by decide) (hts _ wd_705) (fun _ h9 => h9) rfl dX11_back_26 ?_
    refine hret _ _ _ _ _ _ _ _ dX11_back_29 hS hw (Nat.zero_le _) (Nat.zero_le _) ?_
    refine ⟨f, g, (up N 0 3 ((N 0 3) - j)), C, rfl, ?_⟩
    unfold sp_back
    try simp only [Int.toNat_natCast]
    (repeat' split) <;> first | rfl | omega
  · refine lv_bipush (v := (-2)) hx hb dX11_back_12 (by decide) ?_
    refine hret _ _ _ _ _ _ _ _ dX11_back_14 hS hw (Nat.zero_le _) (Nat.zero_le _) ?_
    refine ⟨f, g, N, C, rfl, ?_⟩
    unfold sp_back
    try simp only [Int.toNat_natCast]
    (repeat' split) <;> first | rfl | omega
set_option maxRecDepth 100000 in
set_option maxHeartbeats 4000000 in
theorem c_X11_minds (l : Launch) (D : va_G) (ka : Nat → ClassId) (z : Nat) (h : Nat) (a : Nat → Nat) (N : Nat → Nat → Nat) (C : Nat → Nat → Int32) (f : Nat → Int32) (g : Nat → Nat → Int32) (R : va_W) (k : Int32) (K : Int) (hk : k.toInt = K) (hN : WF N) : MU l D ka z yX11_minds cX11_minds 5 (some .int) 3 0 0 [.ref h, .int k] (mw ka h a N C f g ++ R) (Qi D z (fun r w => ∃ f' g' N' C', w = mw ka h a N' C' f' g' ++ R ∧ (r, N', C') = sp_minds N C K)) := by
  refine MU.ofI (by decide) (Nat.le_of_ble_eq_true rfl) ?_
  intro p e s m args below meth c Q X hw hS hret ls hl
  obtain ⟨hx, hb, hml, hown, hts, hE⟩ := id X
  have hK := hE.1
  have hz0 := hw.1
  have hl : lv_has ls 5 [(0, .ref h), (1, .int k)] := hl
  have hN1 := hN.1
  refine lv_aload_n hx hb dX11_minds_0 rfl (lv_at hl 0 rfl) ?_
  refine lv_iload_n hx hb dX11_minds_1 rfl (lv_at hl 1 rfl) ?_
  refine vp_callSi (ro_runV (c_X11_isTaker l D ka h a N C f g R k _ hk hN) X wd_836 wd_833 wd_835 ws_11 wd_8 on_X11_isTaker ⟨Nat.le_of_ble_eq_true rfl, Nat.le_of_ble_eq_true rfl⟩ (va_recv hK hw.2.1 (ci := 11) (q0 := 0) rfl rfl) hw.2.1 hl.1 rfl (Nat.le_of_ble_eq_true rfl) ⟨(Nat.zero_le _), (Nat.zero_le _)⟩ dX11_minds_2) (fun r_1 hr_1 => ?_)
  subst hr_1
  refine b_if_ne (tgt := 10) hx hb dX11_minds_5 (by decide) (fun c_2 => ?_) (fun c_2 => ?_)
  · obtain ⟨j, hlt_j, rfl, rfl⟩ := nat_ofK (n := N 0 1) hk (by omega) (by omega)
    refine lv_aload_n hx hb dX11_minds_10 rfl (lv_at hl 0 rfl) ?_
    refine va_get (D := D) (ci := 11) (v := .ref (a 11)) (C := RX11) (T := TX11) (N := 35) hx hb hts inX11 hown hK hw.2.1 0 rfl rfl 11 (by decide) (hts _ wd_685) (fun _ h9 => h9) rfl dX11_minds_11 ?_
    refine lv_iload_n hx hb dX11_minds_14 rfl (lv_at hl 1 rfl) ?_
    refine n_iald hx hb hK hw.2.1 7 0 rfl rfl (k := j) (by omega) (by decide) dX11_minds_15 ?_
    have hv_3 : N 4 j ≤ 9 := hN.2.2.2.2.1 j
    refine lv_istore_n (lv' := [(2, .int (nI (N 4 j))), (0, .ref h), (1, .int (nI j))]) hx hb dX11_minds_16 rfl hl (by decide) rfl (fun ls hl => ?_)
    refine lv_iconst (v := nI 0) hx hb dX11_minds_17 (by decide) ?_
    refine lv_istore_n (lv' := [(3, .int (nI 0)), (2, .int (nI (N 4 j))), (0, .ref h), (1, .int (nI j))]) hx hb dX11_minds_18 rfl hl (by decide) rfl (fun ls hl => ?_)
    refine lv_iconst (v := nI 0) hx hb dX11_minds_19 (by decide) ?_
    refine lv_istore (lv' := [(4, .int (nI 0)), (3, .int (nI 0)), (2, .int (nI (N 4 j))), (0, .ref h), (1, .int (nI j))]) hx hb dX11_minds_20 hl (by decide) rfl (fun ls hl => ?_)
    have hw : wdH D z (mw ka h a (up N 4 j (N 4 j)) C f g ++ R) s.heap := by rw [up_self]; exact hw
    have loop22 : ∀ (fuel22 : Nat) (b : Nat) (se : Nat) (x : Nat), 10 - b < fuel22 → (b ≤ 10) → (x ≤ 9) → (se = bset (fun v => soA (up N 4 j v) (N 0 3)) b) → ∀ (H : Heap) (locs : List Loc), wdH D z (mw ka h a (up N 4 j x) C f g ++ R) H → va_S (fun q => z ≤ q) s.heap H locs → ∀ ls : Array Slot, lv_has ls 5 [(0, .ref h), (1, .int (nI j)), (2, .int (nI (N 4 j))), (3, .int (nI se)), (4, .int (nI b))] → W p l e (rmz 3 0 0) s m args below meth c H locs 0 0 Q (F0 m 22 ls []) := by
      intro fuel22
      induction fuel22 with
      | zero => intro b se x hfu; exact absurd hfu (Nat.not_lt_zero _)
      | succ fuel22 ih22 =>
        intro b se x hfu hi1 hx1 hse H locs hw hS ls hl
        have hNx : WF (up N 4 j x) := WF.up4 hN (by omega)
        refine lv_iload hx hb dX11_minds_22 (lv_at hl 4 rfl) ?_
        refine lv_bipush (v := nI 9) hx hb dX11_minds_24 (by decide) ?_
        refine i_icmp_gt (tgt := 61) hx hb (nT (by omega)) (nT (by decide)) dX11_minds_26 (by decide) (fun c_4 => ?_) (fun c_4 => ?_)
        · refine lv_aload_n hx hb dX11_minds_61 rfl (lv_at hl 0 rfl) ?_
          refine va_get (D := D) (ci := 11) (v := .ref (a 11)) (C := RX11) (T := TX11) (N := 35) hx hb hts inX11 hown hK hw.2.1 0 rfl rfl 11 (by decide) (hts _ wd_685) (fun _ h9 => h9) rfl dX11_minds_62 ?_
          refine lv_iload_n hx hb dX11_minds_65 rfl (lv_at hl 1 rfl) ?_
          refine lv_iload_n hx hb dX11_minds_66 rfl (lv_at hl 2 rfl) ?_
          refine n_iast hx hb hK hw.2.1 hw.2.2 hS 7 0 (φ := nI) (u := (up N 4 j x) 4) (v := N 4 j) rfl rfl (k := j) rfl (by omega) (by decide) dX11_minds_67 (fun H locs hP hD hS => ?_)
          have hw : wdH D z (mw ka h a (up (up N 4 j x) 4 j (N 4 j)) C f g ++ R) H := ⟨Nat.le_trans hz0 hS.1, hP, hD⟩
          refine lv_iload_n hx hb dX11_minds_68 rfl (lv_at hl 3 rfl) ?_
          rw [up_back] at hw
          refine hret _ _ _ _ _ _ _ _ dX11_minds_69 hS hw (Nat.zero_le _) (Nat.zero_le _) ?_
          refine ⟨f, g, N, C, rfl, ?_⟩
          rw [hse, show b = 10 by omega]
          unfold sp_minds
          rw [if_pos (by omega)]; rfl
        · refine lv_aload_n hx hb dX11_minds_29 rfl (lv_at hl 0 rfl) ?_
          refine va_get (D := D) (ci := 11) (v := .ref (a 11)) (C := RX11) (T := TX11) (N := 35) hx hb hts inX11 hown hK hw.2.1 0 rfl rfl 11 (by decide) (hts _ wd_685) (fun _ h9 => h9) rfl dX11_minds_30 ?_
          refine lv_iload_n hx hb dX11_minds_33 rfl (lv_at hl 1 rfl) ?_
          refine lv_iload hx hb dX11_minds_34 (lv_at hl 4 rfl) ?_
          refine n_iast hx hb hK hw.2.1 hw.2.2 hS 7 0 (φ := nI) (u := (up N 4 j x) 4) (v := b) rfl rfl (k := j) rfl (by omega) (by decide) dX11_minds_36 (fun H locs hP hD hS => ?_)
          have hw : wdH D z (mw ka h a (up (up N 4 j x) 4 j b) C f g ++ R) H := ⟨Nat.le_trans hz0 hS.1, hP, hD⟩
          rw [up_up] at hw
          refine lv_iload_n hx hb dX11_minds_37 rfl (lv_at hl 3 rfl) ?_
          refine lv_aload_n hx hb dX11_minds_38 rfl (lv_at hl 0 rfl) ?_
          refine vp_callSi (ro_runV (c_X11_areSo l D ka h a (up N 4 j b) C f g R (WF.up4 hN (show b ≤ 9 by omega))) X wd_943 wd_940 wd_942 ws_21 wd_8 on_X11_areSo ⟨Nat.le_of_ble_eq_true rfl, Nat.le_of_ble_eq_true rfl⟩ (va_recv hK hw.2.1 (ci := 11) (q0 := 0) rfl rfl) hw.2.1 hl.1 rfl (Nat.le_of_ble_eq_true rfl) ⟨(Nat.zero_le _), (Nat.zero_le _)⟩ dX11_minds_39) (fun r_5 hr_5 => ?_)
          subst hr_5
          refine W.eq (g2 := F0 m 42 ls [.int (bI (soA (up N 4 j b) (N 0 3) = true)), .int (nI se)]) rfl ?_
          refine b_if_eq (tgt := 52) hx hb dX11_minds_42 (by decide) (fun c_6 => ?_) (fun c_6 => ?_)
          · refine lv_iconst (v := nI 0) hx hb dX11_minds_52 (by decide) ?_
            refine lv_ior hx hb dX11_minds_53 ?_
            rw [n_or se 0]
            refine lv_istore_n (lv' := [(3, .int (nI (se ||| 0))), (0, .ref h), (1, .int (nI j)), (2, .int (nI (N 4 j))), (4, .int (nI b))]) hx hb dX11_minds_54 rfl hl (by decide) rfl (fun ls hl => ?_)
            refine n_iinc (lv' := [(4, .int (nI (b + 1))), (3, .int (nI (se ||| 0))), (0, .ref h), (1, .int (nI j)), (2, .int (nI (N 4 j)))]) (k := 4) (d := 1) hx hb dX11_minds_55 hl rfl rfl (by decide) rfl (fun ls hl => ?_)
            refine lv_goto (tgt := 22) hx hb dX11_minds_58 (by decide) ?_
            exact ih22 (b + 1) (se ||| 0) b (by omega) (by omega) (by omega) (by rw [hse]; first | exact bset_t (by assumption) | (rw [Nat.or_zero]; exact bset_f (by assumption))) _ _ hw hS ls (lv_sub hl [2, 3, 4, 1, 0] rfl)
          · refine lv_iconst (v := nI 1) hx hb dX11_minds_45 (by decide) ?_
            refine lv_iload hx hb dX11_minds_46 (lv_at hl 4 rfl) ?_
            refine lv_ishl hx hb dX11_minds_48 ?_
            rw [n_shl (a := 1) (k := b) (by omega) (Nat.lt_of_le_of_lt (by rw [Nat.one_mul]; exact Nat.pow_le_pow_right (by decide) (show b ≤ 31 by omega)) (by decide))]
            refine lv_goto (tgt := 53) hx hb dX11_minds_49 (by decide) ?_
            refine lv_ior hx hb dX11_minds_53 ?_
            rw [n_or se (1 * 2 ^ b)]
            refine lv_istore_n (lv' := [(3, .int (nI (se ||| (1 * 2 ^ b)))), (0, .ref h), (1, .int (nI j)), (2, .int (nI (N 4 j))), (4, .int (nI b))]) hx hb dX11_minds_54 rfl hl (by decide) rfl (fun ls hl => ?_)
            refine n_iinc (lv' := [(4, .int (nI (b + 1))), (3, .int (nI (se ||| (1 * 2 ^ b)))), (0, .ref h), (1, .int (nI j)), (2, .int (nI (N 4 j)))]) (k := 4) (d := 1) hx hb dX11_minds_55 hl rfl rfl (by decide) rfl (fun ls hl => ?_)
            refine lv_goto (tgt := 22) hx hb dX11_minds_58 (by decide) ?_
            exact ih22 (b + 1) (se ||| (1 * 2 ^ b)) b (by omega) (by omega) (by omega) (by rw [hse]; first | exact bset_t (by assumption) | (rw [Nat.or_zero]; exact bset_f (by assumption))) _ _ hw hS ls (lv_sub hl [2, 3, 4, 1, 0] rfl)
    exact loop22 _ 0 0 (N 4 j) (Nat.lt_succ_self _) (by omega) (by omega) rfl _ _ hw hS ls (lv_sub hl [3, 4, 2, 1, 0] rfl)
  · refine lv_iconst (v := (-1)) hx hb dX11_minds_8 (by decide) ?_
    refine hret _ _ _ _ _ _ _ _ dX11_minds_9 hS hw (Nat.zero_le _) (Nat.zero_le _) ?_
    refine ⟨f, g, N, C, rfl, ?_⟩
    unfold sp_minds
    try simp only [Int.toNat_natCast]
    (repeat' split) <;> first | rfl | omega
set_option maxRecDepth 100000 in
set_option maxHeartbeats 4000000 in
theorem c_X11_kinds (l : Launch) (D : va_G) (ka : Nat → ClassId) (z : Nat) (h : Nat) (a : Nat → Nat) (N : Nat → Nat → Nat) (C : Nat → Nat → Int32) (f : Nat → Int32) (g : Nat → Nat → Int32) (R : va_W) (k : Int32) (K : Int) (hk : k.toInt = K) (hN : WF N) : MU l D ka z yX11_kinds cX11_kinds 5 (some .int) 3 0 0 [.ref h, .int k] (mw ka h a N C f g ++ R) (Qi D z (fun r w => ∃ f' g' N' C', w = mw ka h a N' C' f' g' ++ R ∧ (r, N', C') = sp_kinds N C K)) := by
  refine MU.ofI (by decide) (Nat.le_of_ble_eq_true rfl) ?_
  intro p e s m args below meth c Q X hw hS hret ls hl
  obtain ⟨hx, hb, hml, hown, hts, hE⟩ := id X
  have hK := hE.1
  have hz0 := hw.1
  have hl : lv_has ls 5 [(0, .ref h), (1, .int k)] := hl
  have hN1 := hN.1
  refine lv_aload_n hx hb dX11_kinds_0 rfl (lv_at hl 0 rfl) ?_
  refine lv_iload_n hx hb dX11_kinds_1 rfl (lv_at hl 1 rfl) ?_
  refine vp_callSi (ro_runV (c_X11_isTaker l D ka h a N C f g R k _ hk hN) X wd_836 wd_833 wd_835 ws_11 wd_8 on_X11_isTaker ⟨Nat.le_of_ble_eq_true rfl, Nat.le_of_ble_eq_true rfl⟩ (va_recv hK hw.2.1 (ci := 11) (q0 := 0) rfl rfl) hw.2.1 hl.1 rfl (Nat.le_of_ble_eq_true rfl) ⟨(Nat.zero_le _), (Nat.zero_le _)⟩ dX11_kinds_2) (fun r_1 hr_1 => ?_)
  subst hr_1
  refine b_if_ne (tgt := 10) hx hb dX11_kinds_5 (by decide) (fun c_2 => ?_) (fun c_2 => ?_)
  · obtain ⟨j, hlt_j, rfl, rfl⟩ := nat_ofK (n := N 0 1) hk (by omega) (by omega)
    refine lv_aload_n hx hb dX11_kinds_10 rfl (lv_at hl 0 rfl) ?_
    refine va_get (D := D) (ci := 11) (v := .ref (a 9)) (C := RX11) (T := TX11) (N := 35) hx hb hts inX11 hown hK hw.2.1 0 rfl rfl 9 (by decide) (hts _ wd_683) (fun _ h9 => h9) rfl dX11_kinds_11 ?_
    refine lv_iload_n hx hb dX11_kinds_14 rfl (lv_at hl 1 rfl) ?_
    refine n_iald hx hb hK hw.2.1 5 0 rfl rfl (k := j) (by omega) (by decide) dX11_kinds_15 ?_
    have hv_3 : N 2 j ≤ 2 := hN.2.2.1 j
    refine lv_istore_n (lv' := [(2, .int (nI (N 2 j))), (0, .ref h), (1, .int (nI j))]) hx hb dX11_kinds_16 rfl hl (by decide) rfl (fun ls hl => ?_)
    refine lv_iconst (v := nI 0) hx hb dX11_kinds_17 (by decide) ?_
    refine lv_istore_n (lv' := [(3, .int (nI 0)), (2, .int (nI (N 2 j))), (0, .ref h), (1, .int (nI j))]) hx hb dX11_kinds_18 rfl hl (by decide) rfl (fun ls hl => ?_)
    refine lv_iconst (v := nI 0) hx hb dX11_kinds_19 (by decide) ?_
    refine lv_istore (lv' := [(4, .int (nI 0)), (3, .int (nI 0)), (2, .int (nI (N 2 j))), (0, .ref h), (1, .int (nI j))]) hx hb dX11_kinds_20 hl (by decide) rfl (fun ls hl => ?_)
    have hw : wdH D z (mw ka h a (up N 2 j (N 2 j)) C f g ++ R) s.heap := by rw [up_self]; exact hw
    have loop22 : ∀ (fuel22 : Nat) (b : Nat) (se : Nat) (x : Nat), 3 - b < fuel22 → (b ≤ 3) → (x ≤ 2) → (se = bset (fun v => soA (up N 2 j v) (N 0 3)) b) → ∀ (H : Heap) (locs : List Loc), wdH D z (mw ka h a (up N 2 j x) C f g ++ R) H → va_S (fun q => z ≤ q) s.heap H locs → ∀ ls : Array Slot, lv_has ls 5 [(0, .ref h), (1, .int (nI j)), (2, .int (nI (N 2 j))), (3, .int (nI se)), (4, .int (nI b))] → W p l e (rmz 3 0 0) s m args below meth c H locs 0 0 Q (F0 m 22 ls []) := by
      intro fuel22
      induction fuel22 with
      | zero => intro b se x hfu; exact absurd hfu (Nat.not_lt_zero _)
      | succ fuel22 ih22 =>
        intro b se x hfu hi1 hx1 hse H locs hw hS ls hl
        have hNx : WF (up N 2 j x) := WF.up2 hN (by omega)
        refine lv_iload hx hb dX11_kinds_22 (lv_at hl 4 rfl) ?_
        refine lv_iconst (v := nI 3) hx hb dX11_kinds_24 (by decide) ?_
        refine i_icmp_ge (tgt := 60) hx hb (nT (by omega)) (nT (by decide)) dX11_kinds_25 (by decide) (fun c_4 => ?_) (fun c_4 => ?_)
        · refine lv_aload_n hx hb dX11_kinds_60 rfl (lv_at hl 0 rfl) ?_
          refine va_get (D := D) (ci := 11) (v := .ref (a 9)) (C := RX11) (T := TX11) (N := 35) hx hb hts inX11 hown hK hw.2.1 0 rfl rfl 9 (by decide) (hts _ wd_683) (fun _ h9 => h9) rfl dX11_kinds_61 ?_
          refine lv_iload_n hx hb dX11_kinds_64 rfl (lv_at hl 1 rfl) ?_
          refine lv_iload_n hx hb dX11_kinds_65 rfl (lv_at hl 2 rfl) ?_
          refine n_iast hx hb hK hw.2.1 hw.2.2 hS 5 0 (φ := nI) (u := (up N 2 j x) 2) (v := N 2 j) rfl rfl (k := j) rfl (by omega) (by decide) dX11_kinds_66 (fun H locs hP hD hS => ?_)
          have hw : wdH D z (mw ka h a (up (up N 2 j x) 2 j (N 2 j)) C f g ++ R) H := ⟨Nat.le_trans hz0 hS.1, hP, hD⟩
          refine lv_iload_n hx hb dX11_kinds_67 rfl (lv_at hl 3 rfl) ?_
          rw [up_back] at hw
          refine hret _ _ _ _ _ _ _ _ dX11_kinds_68 hS hw (Nat.zero_le _) (Nat.zero_le _) ?_
          refine ⟨f, g, N, C, rfl, ?_⟩
          rw [hse, show b = 3 by omega]
          unfold sp_kinds
          rw [if_pos (by omega)]; rfl
        · refine lv_aload_n hx hb dX11_kinds_28 rfl (lv_at hl 0 rfl) ?_
          refine va_get (D := D) (ci := 11) (v := .ref (a 9)) (C := RX11) (T := TX11) (N := 35) hx hb hts inX11 hown hK hw.2.1 0 rfl rfl 9 (by decide) (hts _ wd_683) (fun _ h9 => h9) rfl dX11_kinds_29 ?_
          refine lv_iload_n hx hb dX11_kinds_32 rfl (lv_at hl 1 rfl) ?_
          refine lv_iload hx hb dX11_kinds_33 (lv_at hl 4 rfl) ?_
          refine n_iast hx hb hK hw.2.1 hw.2.2 hS 5 0 (φ := nI) (u := (up N 2 j x) 2) (v := b) rfl rfl (k := j) rfl (by omega) (by decide) dX11_kinds_35 (fun H locs hP hD hS => ?_)
          have hw : wdH D z (mw ka h a (up (up N 2 j x) 2 j b) C f g ++ R) H := ⟨Nat.le_trans hz0 hS.1, hP, hD⟩
          rw [up_up] at hw
          refine lv_iload_n hx hb dX11_kinds_36 rfl (lv_at hl 3 rfl) ?_
          refine lv_aload_n hx hb dX11_kinds_37 rfl (lv_at hl 0 rfl) ?_
          refine vp_callSi (ro_runV (c_X11_areSo l D ka h a (up N 2 j b) C f g R (WF.up2 hN (show b ≤ 2 by omega))) X wd_943 wd_940 wd_942 ws_21 wd_8 on_X11_areSo ⟨Nat.le_of_ble_eq_true rfl, Nat.le_of_ble_eq_true rfl⟩ (va_recv hK hw.2.1 (ci := 11) (q0 := 0) rfl rfl) hw.2.1 hl.1 rfl (Nat.le_of_ble_eq_true rfl) ⟨(Nat.zero_le _), (Nat.zero_le _)⟩ dX11_kinds_38) (fun r_5 hr_5 => ?_)
          subst hr_5
          refine W.eq (g2 := F0 m 41 ls [.int (bI (soA (up N 2 j b) (N 0 3) = true)), .int (nI se)]) rfl ?_
          refine b_if_eq (tgt := 51) hx hb dX11_kinds_41 (by decide) (fun c_6 => ?_) (fun c_6 => ?_)
          · refine lv_iconst (v := nI 0) hx hb dX11_kinds_51 (by decide) ?_
            refine lv_ior hx hb dX11_kinds_52 ?_
            rw [n_or se 0]
            refine lv_istore_n (lv' := [(3, .int (nI (se ||| 0))), (0, .ref h), (1, .int (nI j)), (2, .int (nI (N 2 j))), (4, .int (nI b))]) hx hb dX11_kinds_53 rfl hl (by decide) rfl (fun ls hl => ?_)
            refine n_iinc (lv' := [(4, .int (nI (b + 1))), (3, .int (nI (se ||| 0))), (0, .ref h), (1, .int (nI j)), (2, .int (nI (N 2 j)))]) (k := 4) (d := 1) hx hb dX11_kinds_54 hl rfl rfl (by decide) rfl (fun ls hl => ?_)
            refine lv_goto (tgt := 22) hx hb dX11_kinds_57 (by decide) ?_
            exact ih22 (b + 1) (se ||| 0) b (by omega) (by omega) (by omega) (by rw [hse]; first | exact bset_t (by assumption) | (rw [Nat.or_zero]; exact bset_f (by assumption))) _ _ hw hS ls (lv_sub hl [2, 3, 4, 1, 0] rfl)
          · refine lv_iconst (v := nI 1) hx hb dX11_kinds_44 (by decide) ?_
            refine lv_iload hx hb dX11_kinds_45 (lv_at hl 4 rfl) ?_
            refine lv_ishl hx hb dX11_kinds_47 ?_
            rw [n_shl (a := 1) (k := b) (by omega) (Nat.lt_of_le_of_lt (by rw [Nat.one_mul]; exact Nat.pow_le_pow_right (by decide) (show b ≤ 31 by omega)) (by decide))]
            refine lv_goto (tgt := 52) hx hb dX11_kinds_48 (by decide) ?_
            refine lv_ior hx hb dX11_kinds_52 ?_
            rw [n_or se (1 * 2 ^ b)]
            refine lv_istore_n (lv' := [(3, .int (nI (se ||| (1 * 2 ^ b)))), (0, .ref h), (1, .int (nI j)), (2, .int (nI (N 2 j))), (4, .int (nI b))]) hx hb dX11_kinds_53 rfl hl (by decide) rfl (fun ls hl => ?_)
            refine n_iinc (lv' := [(4, .int (nI (b + 1))), (3, .int (nI (se ||| (1 * 2 ^ b)))), (0, .ref h), (1, .int (nI j)), (2, .int (nI (N 2 j)))]) (k := 4) (d := 1) hx hb dX11_kinds_54 hl rfl rfl (by decide) rfl (fun ls hl => ?_)
            refine lv_goto (tgt := 22) hx hb dX11_kinds_57 (by decide) ?_
            exact ih22 (b + 1) (se ||| (1 * 2 ^ b)) b (by omega) (by omega) (by omega) (by rw [hse]; first | exact bset_t (by assumption) | (rw [Nat.or_zero]; exact bset_f (by assumption))) _ _ hw hS ls (lv_sub hl [2, 3, 4, 1, 0] rfl)
    exact loop22 _ 0 0 (N 2 j) (Nat.lt_succ_self _) (by omega) (by omega) rfl _ _ hw hS ls (lv_sub hl [3, 4, 2, 1, 0] rfl)
  · refine lv_iconst (v := (-1)) hx hb dX11_kinds_8 (by decide) ?_
    refine hret _ _ _ _ _ _ _ _ dX11_kinds_9 hS hw (Nat.zero_le _) (Nat.zero_le _) ?_
    refine ⟨f, g, N, C, rfl, ?_⟩
    unfold sp_kinds
    try simp only [Int.toNat_natCast]
    (repeat' split) <;> first | rfl | omega
set_option maxRecDepth 100000 in
set_option maxHeartbeats 4000000 in
theorem c_X11_glooms (l : Launch) (D : va_G) (ka : Nat → ClassId) (z : Nat) (h : Nat) (a : Nat → Nat) (N : Nat → Nat → Nat) (C : Nat → Nat → Int32) (f : Nat → Int32) (g : Nat → Nat → Int32) (R : va_W) (k : Int32) (K : Int) (hk : k.toInt = K) (hN : WF N) : MU l D ka z yX11_glooms cX11_glooms 5 (some .int) 3 0 0 [.ref h, .int k] (mw ka h a N C f g ++ R) (Qi D z (fun r w => ∃ f' g' N' C', w = mw ka h a N' C' f' g' ++ R ∧ (r, N', C') = sp_glooms N C K)) := by
  refine MU.ofI (by decide) (Nat.le_of_ble_eq_true rfl) ?_
  intro p e s m args below meth c Q X hw hS hret ls hl
  obtain ⟨hx, hb, hml, hown, hts, hE⟩ := id X
  have hK := hE.1
  have hz0 := hw.1
  have hl : lv_has ls 5 [(0, .ref h), (1, .int k)] := hl
  have hN1 := hN.1
  refine lv_aload_n hx hb dX11_glooms_0 rfl (lv_at hl 0 rfl) ?_
  refine lv_iload_n hx hb dX11_glooms_1 rfl (lv_at hl 1 rfl) ?_
  refine vp_callSi (ro_runV (c_X11_isPlace l D ka h a N C f g R k _ hk hN) X wd_848 wd_845 wd_847 ws_12 wd_8 on_X11_isPlace ⟨Nat.le_of_ble_eq_true rfl, Nat.le_of_ble_eq_true rfl⟩ (va_recv hK hw.2.1 (ci := 11) (q0 := 0) rfl rfl) hw.2.1 hl.1 rfl (Nat.le_of_ble_eq_true rfl) ⟨(Nat.zero_le _), (Nat.zero_le _)⟩ dX11_glooms_2) (fun r_1 hr_1 => ?_)
  subst hr_1
  refine b_if_ne (tgt := 10) hx hb dX11_glooms_5 (by decide) (fun c_2 => ?_) (fun c_2 => ?_)
  · obtain ⟨j, hlt_j, rfl, rfl⟩ := nat_ofK (n := N 0 0) hk (by omega) (by omega)
    refine lv_aload_n hx hb dX11_glooms_10 rfl (lv_at hl 0 rfl) ?_
    refine va_get (D := D) (ci := 11) (v := .ref (a 8)) (C := RX11) (T := TX11) (N := 35) hx hb hts inX11 hown hK hw.2.1 0 rfl rfl 8 (by decide) (hts _ wd_682) (fun _ h9 => h9) rfl dX11_glooms_11 ?_
    refine lv_iload_n hx hb dX11_glooms_14 rfl (lv_at hl 1 rfl) ?_
    refine n_iald hx hb hK hw.2.1 4 0 rfl rfl (k := j) (by omega) (by decide) dX11_glooms_15 ?_
    have hv_3 : N 1 j ≤ 9 := hN.2.1 j
    refine lv_istore_n (lv' := [(2, .int (nI (N 1 j))), (0, .ref h), (1, .int (nI j))]) hx hb dX11_glooms_16 rfl hl (by decide) rfl (fun ls hl => ?_)
    refine lv_iconst (v := nI 0) hx hb dX11_glooms_17 (by decide) ?_
    refine lv_istore_n (lv' := [(3, .int (nI 0)), (2, .int (nI (N 1 j))), (0, .ref h), (1, .int (nI j))]) hx hb dX11_glooms_18 rfl hl (by decide) rfl (fun ls hl => ?_)
    refine lv_iconst (v := nI 0) hx hb dX11_glooms_19 (by decide) ?_
    refine lv_istore (lv' := [(4, .int (nI 0)), (3, .int (nI 0)), (2, .int (nI (N 1 j))), (0, .ref h), (1, .int (nI j))]) hx hb dX11_glooms_20 hl (by decide) rfl (fun ls hl => ?_)
    have hw : wdH D z (mw ka h a (up N 1 j (N 1 j)) C f g ++ R) s.heap := by rw [up_self]; exact hw
    have loop22 : ∀ (fuel22 : Nat) (b : Nat) (se : Nat) (x : Nat), 10 - b < fuel22 → (b ≤ 10) → (x ≤ 9) → (se = bset (fun v => soA (up N 1 j v) (N 0 3)) b) → ∀ (H : Heap) (locs : List Loc), wdH D z (mw ka h a (up N 1 j x) C f g ++ R) H → va_S (fun q => z ≤ q) s.heap H locs → ∀ ls : Array Slot, lv_has ls 5 [(0, .ref h), (1, .int (nI j)), (2, .int (nI (N 1 j))), (3, .int (nI se)), (4, .int (nI b))] → W p l e (rmz 3 0 0) s m args below meth c H locs 0 0 Q (F0 m 22 ls []) := by
      intro fuel22
      induction fuel22 with
      | zero => intro b se x hfu; exact absurd hfu (Nat.not_lt_zero _)
      | succ fuel22 ih22 =>
        intro b se x hfu hi1 hx1 hse H locs hw hS ls hl
        have hNx : WF (up N 1 j x) := WF.up1 hN (by omega)
        refine lv_iload hx hb dX11_glooms_22 (lv_at hl 4 rfl) ?_
        refine lv_bipush (v := nI 9) hx hb dX11_glooms_24 (by decide) ?_
        refine i_icmp_gt (tgt := 61) hx hb (nT (by omega)) (nT (by decide)) dX11_glooms_26 (by decide) (fun c_4 => ?_) (fun c_4 => ?_)
        · refine lv_aload_n hx hb dX11_glooms_61 rfl (lv_at hl 0 rfl) ?_
          refine va_get (D := D) (ci := 11) (v := .ref (a 8)) (C := RX11) (T := TX11) (N := 35) hx hb hts inX11 hown hK hw.2.1 0 rfl rfl 8 (by decide) (hts _ wd_682) (fun _ h9 => h9) rfl dX11_glooms_62 ?_
          refine lv_iload_n hx hb dX11_glooms_65 rfl (lv_at hl 1 rfl) ?_
          refine lv_iload_n hx hb dX11_glooms_66 rfl (lv_at hl 2 rfl) ?_
          refine n_iast hx hb hK hw.2.1 hw.2.2 hS 4 0 (φ := nI) (u := (up N 1 j x) 1) (v := N 1 j) rfl rfl (k := j) rfl (by omega) (by decide) dX11_glooms_67 (fun H locs hP hD hS => ?_)
          have hw : wdH D z (mw ka h a (up (up N 1 j x) 1 j (N 1 j)) C f g ++ R) H := ⟨Nat.le_trans hz0 hS.1, hP, hD⟩
          refine lv_iload_n hx hb dX11_glooms_68 rfl (lv_at hl 3 rfl) ?_
          rw [up_back] at hw
          refine hret _ _ _ _ _ _ _ _ dX11_glooms_69 hS hw (Nat.zero_le _) (Nat.zero_le _) ?_
          refine ⟨f, g, N, C, rfl, ?_⟩
          rw [hse, show b = 10 by omega]
          unfold sp_glooms
          rw [if_pos (by omega)]; rfl
        · refine lv_aload_n hx hb dX11_glooms_29 rfl (lv_at hl 0 rfl) ?_
          refine va_get (D := D) (ci := 11) (v := .ref (a 8)) (C := RX11) (T := TX11) (N := 35) hx hb hts inX11 hown hK hw.2.1 0 rfl rfl 8 (by decide) (hts _ wd_682) (fun _ h9 => h9) rfl dX11_glooms_30 ?_
          refine lv_iload_n hx hb dX11_glooms_33 rfl (lv_at hl 1 rfl) ?_
          refine lv_iload hx hb dX11_glooms_34 (lv_at hl 4 rfl) ?_
          refine n_iast hx hb hK hw.2.1 hw.2.2 hS 4 0 (φ := nI) (u := (up N 1 j x) 1) (v := b) rfl rfl (k := j) rfl (by omega) (by decide) dX11_glooms_36 (fun H locs hP hD hS => ?_)
          have hw : wdH D z (mw ka h a (up (up N 1 j x) 1 j b) C f g ++ R) H := ⟨Nat.le_trans hz0 hS.1, hP, hD⟩
          rw [up_up] at hw
          refine lv_iload_n hx hb dX11_glooms_37 rfl (lv_at hl 3 rfl) ?_
          refine lv_aload_n hx hb dX11_glooms_38 rfl (lv_at hl 0 rfl) ?_
          refine vp_callSi (ro_runV (c_X11_areSo l D ka h a (up N 1 j b) C f g R (WF.up1 hN (show b ≤ 9 by omega))) X wd_943 wd_940 wd_942 ws_21 wd_8 on_X11_areSo ⟨Nat.le_of_ble_eq_true rfl, Nat.le_of_ble_eq_true rfl⟩ (va_recv hK hw.2.1 (ci := 11) (q0 := 0) rfl rfl) hw.2.1 hl.1 rfl (Nat.le_of_ble_eq_true rfl) ⟨(Nat.zero_le _), (Nat.zero_le _)⟩ dX11_glooms_39) (fun r_5 hr_5 => ?_)
          subst hr_5
          refine W.eq (g2 := F0 m 42 ls [.int (bI (soA (up N 1 j b) (N 0 3) = true)), .int (nI se)]) rfl ?_
          refine b_if_eq (tgt := 52) hx hb dX11_glooms_42 (by decide) (fun c_6 => ?_) (fun c_6 => ?_)
          · refine lv_iconst (v := nI 0) hx hb dX11_glooms_52 (by decide) ?_
            refine lv_ior hx hb dX11_glooms_53 ?_
            rw [n_or se 0]
            refine lv_istore_n (lv' := [(3, .int (nI (se ||| 0))), (0, .ref h), (1, .int (nI j)), (2, .int (nI (N 1 j))), (4, .int (nI b))]) hx hb dX11_glooms_54 rfl hl (by decide) rfl (fun ls hl => ?_)
            refine n_iinc (lv' := [(4, .int (nI (b + 1))), (3, .int (nI (se ||| 0))), (0, .ref h), (1, .int (nI j)), (2, .int (nI (N 1 j)))]) (k := 4) (d := 1) hx hb dX11_glooms_55 hl rfl rfl (by decide) rfl (fun ls hl => ?_)
            refine lv_goto (tgt := 22) hx hb dX11_glooms_58 (by decide) ?_
            exact ih22 (b + 1) (se ||| 0) b (by omega) (by omega) (by omega) (by rw [hse]; first | exact bset_t (by assumption) | (rw [Nat.or_zero]; exact bset_f (by assumption))) _ _ hw hS ls (lv_sub hl [2, 3, 4, 1, 0] rfl)
          · refine lv_iconst (v := nI 1) hx hb dX11_glooms_45 (by decide) ?_
            refine lv_iload hx hb dX11_glooms_46 (lv_at hl 4 rfl) ?_
            refine lv_ishl hx hb dX11_glooms_48 ?_
            rw [n_shl (a := 1) (k := b) (by omega) (Nat.lt_of_le_of_lt (by rw [Nat.one_mul]; exact Nat.pow_le_pow_right (by decide) (show b ≤ 31 by omega)) (by decide))]
            refine lv_goto (tgt := 53) hx hb dX11_glooms_49 (by decide) ?_
            refine lv_ior hx hb dX11_glooms_53 ?_
            rw [n_or se (1 * 2 ^ b)]
            refine lv_istore_n (lv' := [(3, .int (nI (se ||| (1 * 2 ^ b)))), (0, .ref h), (1, .int (nI j)), (2, .int (nI (N 1 j))), (4, .int (nI b))]) hx hb dX11_glooms_54 rfl hl (by decide) rfl (fun ls hl => ?_)
            refine n_iinc (lv' := [(4, .int (nI (b + 1))), (3, .int (nI (se ||| (1 * 2 ^ b)))), (0, .ref h), (1, .int (nI j)), (2, .int (nI (N 1 j)))]) (k := 4) (d := 1) hx hb dX11_glooms_55 hl rfl rfl (by decide) rfl (fun ls hl => ?_)
            refine lv_goto (tgt := 22) hx hb dX11_glooms_58 (by decide) ?_
            exact ih22 (b + 1) (se ||| (1 * 2 ^ b)) b (by omega) (by omega) (by omega) (by rw [hse]; first | exact bset_t (by assumption) | (rw [Nat.or_zero]; exact bset_f (by assumption))) _ _ hw hS ls (lv_sub hl [2, 3, 4, 1, 0] rfl)
    exact loop22 _ 0 0 (N 1 j) (Nat.lt_succ_self _) (by omega) (by omega) rfl _ _ hw hS ls (lv_sub hl [3, 4, 2, 1, 0] rfl)
  · refine lv_iconst (v := (-1)) hx hb dX11_glooms_8 (by decide) ?_
    refine hret _ _ _ _ _ _ _ _ dX11_glooms_9 hS hw (Nat.zero_le _) (Nat.zero_le _) ?_
    refine ⟨f, g, N, C, rfl, ?_⟩
    unfold sp_glooms
    try simp only [Int.toNat_natCast]
    (repeat' split) <;> first | rfl | omega
