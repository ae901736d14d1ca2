set_option maxRecDepth 100000 in
set_option maxHeartbeats 4000000 in
theorem c_X11_holds (l : Launch) (D : va_G) (ka : Nat → ClassId) (h : Nat) (a : Nat → Nat) (N : Nat → Nat → Nat) (C : Nat → Nat → Int32) (f : Nat → Int32) (g : Nat → Nat → Int32) (R : va_W) (k q : Int32) (K q2 : Int) (hk : k.toInt = K) (hq : q.toInt = q2) (hN : WF N) : RO l D ka yX11_holds cX11_holds 3 (some .int) 2 [.ref h, .int k, .int q] (fun H => va_P D vwCl (mw ka h a N C f g ++ R) H) (vp_Si (fun r => r = (if 0 ≤ K ∧ K < (N 0 1 : Int) then (if 0 ≤ q2 ∧ q2 ≤ 59 then nI (hld N K.toNat q2.toNat 1) else -2) else -1))) := by
  refine RO.ofI (by decide) (Nat.le_of_ble_eq_true rfl) ?_
  intro p e s m args below meth c Q X hP hret ls hl
  obtain ⟨hx, hb, hml, hown, hts, hE⟩ := id X
  have hK := hE.1
  have hl : lv_has ls 3 [(0, .ref h), (1, .int k), (2, .int q)] := hl
  have hN1 := hN.1
  refine lv_aload_n hx hb dX11_holds_0 rfl (lv_at hl 0 rfl) ?_
  refine lv_iload_n hx hb dX11_holds_1 rfl (lv_at hl 1 rfl) ?_
  refine vp_callSi (ro_runV (c_X11_isTaker l D ka h a N C f g R k _ hk hN) X wd_836 wd_833 wd_835 ws_11 wd_8 on_X11_isTaker ⟨Nat.le_of_ble_eq_true rfl, Nat.le_of_ble_eq_true rfl⟩ (va_recv hK hP (ci := 11) (q0 := 0) rfl rfl) hP hl.1 rfl (Nat.le_of_ble_eq_true rfl) ⟨(Nat.zero_le _), (Nat.zero_le _)⟩ dX11_holds_2) (fun r_1 hr_1 => ?_)
  subst hr_1
  refine b_if_ne (tgt := 10) hx hb dX11_holds_5 (by decide) (fun c_2 => ?_) (fun c_2 => ?_)
  · obtain ⟨j, hlt_j, rfl, rfl⟩ := nat_ofK (n := N 0 1) hk (by omega) (by omega)
    refine lv_iload_n hx hb dX11_holds_10 rfl (lv_at hl 2 rfl) ?_
    refine vp_callSi (ro_runS (c_X11_isMinute l D ka q _ hq) X wd_875 wd_873 wd_874 wd_8 on_X11_isMinute ⟨Nat.le_of_ble_eq_true rfl, Nat.le_of_ble_eq_true rfl⟩ trivial hl.1 rfl (Nat.le_of_ble_eq_true rfl) ⟨(Nat.zero_le _), (Nat.zero_le _)⟩ dX11_holds_11) (fun r_3 hr_3 => ?_)
    subst hr_3
    refine b_if_eq (tgt := 27) hx hb dX11_holds_14 (by decide) (fun c_4 => ?_) (fun c_4 => ?_)
    · refine lv_bipush (v := (-2)) hx hb dX11_holds_27 (by decide) ?_
      refine hret _ _ _ dX11_holds_29 ?_
      (repeat' split) <;> first | rfl | omega
    · obtain ⟨i, hlt_i, rfl, rfl⟩ := nat_ofK (n := 60) hq (by omega) (by omega)
      refine lv_aload_n hx hb dX11_holds_17 rfl (lv_at hl 0 rfl) ?_
      refine lv_iload_n hx hb dX11_holds_18 rfl (lv_at hl 1 rfl) ?_
      refine lv_iload_n hx hb dX11_holds_19 rfl (lv_at hl 2 rfl) ?_
      refine lv_iconst (v := nI 1) hx hb dX11_holds_20 (by decide) ?_
      refine vp_callSi (ro_runV (c_X11_holdsBy l D ka h a N C f g R j i 1 (by omega) (by omega) (by omega) (show 0 < N 0 0 by omega) hN) X wd_879 wd_876 wd_878 ws_14 wd_8 on_X11_holdsBy ⟨Nat.le_of_ble_eq_true rfl, Nat.le_of_ble_eq_true rfl⟩ (va_recv hK hP (ci := 11) (q0 := 0) rfl rfl) hP hl.1 rfl (Nat.le_of_ble_eq_true rfl) ⟨(Nat.zero_le _), (Nat.zero_le _)⟩ dX11_holds_21) (fun r_6 hr_6 => ?_)
      subst hr_6
      have hd_5 := hld_le N j i 1
      refine lv_goto (tgt := 29) hx hb dX11_holds_24 (by decide) ?_
      refine hret _ _ _ dX11_holds_29 ?_
      (repeat' split) <;> first | rfl | omega
  · refine lv_iconst (v := (-1)) hx hb dX11_holds_8 (by decide) ?_
    refine hret _ _ _ dX11_holds_9 ?_
    (repeat' split) <;> first | rfl | omega
set_option maxRecDepth 100000 in
set_option maxHeartbeats 4000000 in
theorem c_X11_bothHold (l : Launch) (D : va_G) (ka : Nat → ClassId) (h : Nat) (a : Nat → Nat) (N : Nat → Nat → Nat) (C : Nat → Nat → Int32) (f : Nat → Int32) (g : Nat → Nat → Int32) (R : va_W) (j i m0 : Nat) (hj : j < 5) (hi : i < 5) (hm : m0 < 60) (hp : 0 < N 0 0) (hN : WF N) : RO l D ka yX11_bothHold cX11_bothHold 6 (some .int) 2 [.ref h, .int (nI j), .int (nI i), .int (nI m0)] (fun H => va_P D vwCl (mw ka h a N C f g ++ R) H) (vp_Si (fun r => r = nI (bth N j i m0))) := by
  refine RO.ofI (by decide) (Nat.le_of_ble_eq_true rfl) ?_
  intro p e s m args below meth c Q X hP hret ls hl
  obtain ⟨hx, hb, hml, hown, hts, hE⟩ := id X
  have hK := hE.1
  have hl : lv_has ls 6 [(0, .ref h), (1, .int (nI j)), (2, .int (nI i)), (3, .int (nI m0))] := hl
  have hN1 := hN.1
  refine lv_aload_n hx hb dX11_bothHold_0 rfl (lv_at hl 0 rfl) ?_
  refine lv_iload_n hx hb dX11_bothHold_1 rfl (lv_at hl 1 rfl) ?_
  refine lv_iload_n hx hb dX11_bothHold_2 rfl (lv_at hl 3 rfl) ?_
  refine lv_iconst (v := nI 2) hx hb dX11_bothHold_3 (by decide) ?_
  refine vp_callSi (ro_runV (c_X11_holdsBy l D ka h a N C f g R j m0 2 (by omega) (by omega) (by omega) (show 0 < N 0 0 by omega) hN) X wd_879 wd_876 wd_878 ws_14 wd_8 on_X11_holdsBy ⟨Nat.le_of_ble_eq_true rfl, Nat.le_of_ble_eq_true rfl⟩ (va_recv hK hP (ci := 11) (q0 := 0) rfl rfl) hP hl.1 rfl (Nat.le_of_ble_eq_true rfl) ⟨(Nat.zero_le _), (Nat.zero_le _)⟩ dX11_bothHold_4) (fun r_2 hr_2 => ?_)
  subst hr_2
  have hd_1 := hld_le N j m0 2
  refine lv_istore (lv' := [(4, .int (nI (hld N j m0 2))), (0, .ref h), (1, .int (nI j)), (2, .int (nI i)), (3, .int (nI m0))]) hx hb dX11_bothHold_7 hl (by decide) rfl (fun ls hl => ?_)
  refine lv_aload_n hx hb dX11_bothHold_9 rfl (lv_at hl 1 rfl) ?_
  refine lv_iload_n hx hb dX11_bothHold_10 rfl (lv_at hl 3 rfl) ?_
  refine lv_iload_n hx hb dX11_bothHold_11 rfl (lv_at hl 4 rfl) ?_
  refine lv_iconst (v := nI 2) hx hb dX11_bothHold_12 (by decide) ?_
  refine vp_callSi (ro_runV (c_X11_holdsBy l D ka h a N C f g R i m0 2 (by omega) (by omega) (by omega) (show 0 < N 0 0 by omega) hN) X wd_879 wd_876 wd_878 ws_14 wd_8 on_X11_holdsBy ⟨Nat.le_of_ble_eq_true rfl, Nat.le_of_ble_eq_true rfl⟩ (va_recv hK hP (ci := 11) (q0 := 0) rfl rfl) hP hl.1 rfl (Nat.le_of_ble_eq_true rfl) ⟨(Nat.zero_le _), (Nat.zero_le _)⟩ dX11_bothHold_13) (fun r_4 hr_4 => ?_)
  subst hr_4
  have hd_3 := hld_le N i m0 2
  refine lv_istore (lv' := [(5, .int (nI (hld N i m0 2))), (4, .int (nI (hld N j m0 2))), (0, .ref h), (1, .int (nI j)), (2, .int (nI i)), (3, .int (nI m0))]) hx hb dX11_bothHold_16 hl (by decide) rfl (fun ls hl => ?_)
  refine lv_iload hx hb dX11_bothHold_18 (lv_at hl 1 rfl) ?_
  refine lv_iload hx hb dX11_bothHold_20 (lv_at hl 0 rfl) ?_
  refine i_icmp_ge (tgt := 30) hx hb (nT (by omega)) (nT (by omega)) dX11_bothHold_22 (by decide) (fun c_5 => ?_) (fun c_5 => ?_)
  · refine lv_iload hx hb dX11_bothHold_30 (lv_at hl 0 rfl) ?_
    refine hret _ _ _ dX11_bothHold_32 ?_
    unfold bth
    congr 1; omega
  · refine lv_iload hx hb dX11_bothHold_25 (lv_at hl 1 rfl) ?_
    refine lv_goto (tgt := 32) hx hb dX11_bothHold_27 (by decide) ?_
    refine hret _ _ _ dX11_bothHold_32 ?_
    unfold bth
    congr 1; omega
set_option maxRecDepth 100000 in
set_option maxHeartbeats 4000000 in
theorem c_X11_best (l : Launch) (D : va_G) (ka : Nat → ClassId) (h : Nat) (a : Nat → Nat) (N : Nat → Nat → Nat) (C : Nat → Nat → Int32) (f : Nat → Int32) (g : Nat → Nat → Int32) (R : va_W) (k q : Int32) (K q2 : Int) (hk : k.toInt = K) (hq : q.toInt = q2) (hN : WF N) : RO l D ka yX11_best cX11_best 5 (some .int) 2 [.ref h, .int k, .int q] (fun H => va_P D vwCl (mw ka h a N C f g ++ R) H) (vp_Si (fun r => r = (if 0 ≤ K ∧ K < (N 0 1 : Int) then (if q2 = 0 then nI (bst N K.toNat) else if q2 = 1 then nI (hld N K.toNat (bst N K.toNat) 1) else -2) else -1))) := by
  refine RO.ofI (by decide) (Nat.le_of_ble_eq_true rfl) ?_
  intro p e s m args below meth c Q X hP hret ls hl
  obtain ⟨hx, hb, hml, hown, hts, hE⟩ := id X
  have hK := hE.1
  have hl : lv_has ls 5 [(0, .ref h), (1, .int k), (2, .int q)] := hl
  have hN1 := hN.1
  refine lv_aload_n hx hb dX11_best_0 rfl (lv_at hl 0 rfl) ?_
  refine lv_iload_n hx hb dX11_best_1 rfl (lv_at hl 1 rfl) ?_
  refine vp_callSi (ro_runV (c_X11_isTaker l D ka h a N C f g R k _ hk hN) X wd_836 wd_833 wd_835 ws_11 wd_8 on_X11_isTaker ⟨Nat.le_of_ble_eq_true rfl, Nat.le_of_ble_eq_true rfl⟩ (va_recv hK hP (ci := 11) (q0 := 0) rfl rfl) hP hl.1 rfl (Nat.le_of_ble_eq_true rfl) ⟨(Nat.zero_le _), (Nat.zero_le _)⟩ dX11_best_2) (fun r_1 hr_1 => ?_)
  subst hr_1
  refine b_if_ne (tgt := 10) hx hb dX11_best_5 (by decide) (fun c_2 => ?_) (fun c_2 => ?_)
  · refine lv_iload_n hx hb dX11_best_10 rfl (lv_at hl 2 rfl) ?_
    refine lv_iconst (v := nI 0) hx hb dX11_best_11 (by decide) ?_
    refine lv_iconst (v := nI 1) hx hb dX11_best_12 (by decide) ?_
    refine vp_callSi (ro_runS (c_X11_within l D ka q (nI 0) (nI 1) _ _ _ hq (nT (by decide)) (nT (by decide))) X wd_789 wd_787 wd_788 wd_8 on_X11_within ⟨Nat.le_of_ble_eq_true rfl, Nat.le_of_ble_eq_true rfl⟩ trivial hl.1 rfl (Nat.le_of_ble_eq_true rfl) ⟨(Nat.zero_le _), (Nat.zero_le _)⟩ dX11_best_13) (fun r_3 hr_3 => ?_)
    subst hr_3
    refine b_if_ne (tgt := 22) hx hb dX11_best_16 (by decide) (fun c_4 => ?_) (fun c_4 => ?_)
    · obtain ⟨j, hlt_j, rfl, rfl⟩ := nat_ofK (n := N 0 1) hk (by omega) (by omega)
      refine lv_iconst (v := nI 0) hx hb dX11_best_22 (by decide) ?_
      refine lv_istore_n (lv' := [(3, .int (nI 0)), (0, .ref h), (1, .int (nI j)), (2, .int q)]) hx hb dX11_best_23 rfl hl (by decide) rfl (fun ls hl => ?_)
      refine lv_iconst (v := nI 1) hx hb dX11_best_24 (by decide) ?_
      refine lv_istore (lv' := [(4, .int (nI 1)), (3, .int (nI 0)), (0, .ref h), (1, .int (nI j)), (2, .int q)]) hx hb dX11_best_25 hl (by decide) rfl (fun ls hl => ?_)
      have loop27 : ∀ (fuel27 : Nat) (i : Nat) (bs : Nat), N 0 0 - i < fuel27 → (i + 1 ≤ N 0 0) → (bs = bstA (fun k => hld N j k 1) i) → ∀ ls : Array Slot, lv_has ls 5 [(0, .ref h), (1, .int (nI j)), (2, .int q), (3, .int (nI bs)), (4, .int (nI (i + 1)))] → W p l e (rmz 2 0 0) s m args below meth c s.heap [] 0 0 Q (F0 m 27 ls []) := by
        intro fuel27
        induction fuel27 with
        | zero => intro i bs hfu; exact absurd hfu (Nat.not_lt_zero _)
        | succ fuel27 ih27 =>
          intro i bs hfu hi1 hi2 ls hl
          have hbs : bs ≤ i := by rw [hi2]; exact bstA_le _ _
          refine lv_iload hx hb dX11_best_27 (lv_at hl 4 rfl) ?_
          refine lv_aload_n hx hb dX11_best_29 rfl (lv_at hl 0 rfl) ?_
          refine va_get (D := D) (ci := 11) (v := .int (nI (N 0 0))) (C := RX11) (T := TX11) (N := 35) hx hb hts inX11 hown hK hP 0 rfl rfl 5 (by decide) (hts _ wd_679) (fun _ h9 => h9) rfl dX11_best_30 ?_
          refine i_icmp_ge (tgt := 67) hx hb (nT (by omega)) (nT (by omega)) dX11_best_33 (by decide) (fun c_5 => ?_) (fun c_5 => ?_)
          · refine lv_iload_n hx hb dX11_best_67 rfl (lv_at hl 2 rfl) ?_
            refine i_if_ne (tgt := 75) hx hb hq dX11_best_68 (by decide) (fun c_6 => ?_) (fun c_6 => ?_)
            · refine lv_aload_n hx hb dX11_best_75 rfl (lv_at hl 0 rfl) ?_
              refine lv_iload_n hx hb dX11_best_76 rfl (lv_at hl 1 rfl) ?_
              refine lv_iload_n hx hb dX11_best_77 rfl (lv_at hl 3 rfl) ?_
              refine lv_iconst (v := nI 1) hx hb dX11_best_78 (by decide) ?_
              refine vp_callSi (ro_runV (c_X11_holdsBy l D ka h a N C f g R j bs 1 (by omega) (by omega) (by omega) (show 0 < N 0 0 by omega) hN) X wd_879 wd_876 wd_878 ws_14 wd_8 on_X11_holdsBy ⟨Nat.le_of_ble_eq_true rfl, Nat.le_of_ble_eq_true rfl⟩ (va_recv hK hP (ci := 11) (q0 := 0) rfl rfl) hP hl.1 rfl (Nat.le_of_ble_eq_true rfl) ⟨(Nat.zero_le _), (Nat.zero_le _)⟩ dX11_best_79) (fun r_8 hr_8 => ?_)
              subst hr_8
              have hd_7 := hld_le N j bs 1
              refine hret _ _ _ dX11_best_82 ?_
              (try rw [show bst N (↑j : Int).toNat = bs by rw [hi2]; show bstA _ (N 0 0 - 1) = _; congr 1; omega])
              (repeat' split) <;> first | rfl | omega
            · refine lv_iload_n hx hb dX11_best_71 rfl (lv_at hl 3 rfl) ?_
              refine lv_goto (tgt := 82) hx hb dX11_best_72 (by decide) ?_
              refine hret _ _ _ dX11_best_82 ?_
              (try rw [show bst N (↑j : Int).toNat = bs by rw [hi2]; show bstA _ (N 0 0 - 1) = _; congr 1; omega])
              (repeat' split) <;> first | rfl | omega
          · refine lv_aload_n hx hb dX11_best_36 rfl (lv_at hl 0 rfl) ?_
            refine lv_iload_n hx hb dX11_best_37 rfl (lv_at hl 1 rfl) ?_
            refine lv_iload hx hb dX11_best_38 (lv_at hl 4 rfl) ?_
            refine lv_iconst (v := nI 1) hx hb dX11_best_40 (by decide) ?_
            refine vp_callSi (ro_runV (c_X11_holdsBy l D ka h a N C f g R j (i + 1) 1 (by omega) (by omega) (by omega) (show 0 < N 0 0 by omega) hN) X wd_879 wd_876 wd_878 ws_14 wd_8 on_X11_holdsBy ⟨Nat.le_of_ble_eq_true rfl, Nat.le_of_ble_eq_true rfl⟩ (va_recv hK hP (ci := 11) (q0 := 0) rfl rfl) hP hl.1 rfl (Nat.le_of_ble_eq_true rfl) ⟨(Nat.zero_le _), (Nat.zero_le _)⟩ dX11_best_41) (fun r_10 hr_10 => ?_)
            subst hr_10
            have hd_9 := hld_le N j (i + 1) 1
            refine lv_aload_n hx hb dX11_best_44 rfl (lv_at hl 0 rfl) ?_
            refine lv_iload_n hx hb dX11_best_45 rfl (lv_at hl 1 rfl) ?_
            refine lv_iload_n hx hb dX11_best_46 rfl (lv_at hl 3 rfl) ?_
            refine lv_iconst (v := nI 1) hx hb dX11_best_47 (by decide) ?_
            refine vp_callSi (ro_runV (c_X11_holdsBy l D ka h a N C f g R j bs 1 (by omega) (by omega) (by omega) (show 0 < N 0 0 by omega) hN) X wd_879 wd_876 wd_878 ws_14 wd_8 on_X11_holdsBy ⟨Nat.le_of_ble_eq_true rfl, Nat.le_of_ble_eq_true rfl⟩ (va_recv hK hP (ci := 11) (q0 := 0) rfl rfl) hP hl.1 rfl (Nat.le_of_ble_eq_true rfl) ⟨(Nat.zero_le _), (Nat.zero_le _)⟩ dX11_best_48) (fun r_12 hr_12 => ?_)
            subst hr_12
            have hd_11 := hld_le N j bs 1
            refine i_icmp_le (tgt := 59) hx hb (nT (by omega)) (nT (by omega)) dX11_best_51 (by decide) (fun c_13 => ?_) (fun c_13 => ?_)
            · refine lv_iload_n hx hb dX11_best_59 rfl (lv_at hl 3 rfl) ?_
              refine lv_istore_n (lv' := [(3, .int (nI bs)), (0, .ref h), (1, .int (nI j)), (2, .int q), (4, .int (nI (i + 1)))]) hx hb dX11_best_60 rfl hl (by decide) rfl (fun ls hl => ?_)
              refine n_iinc (lv' := [(4, .int (nI (i + 1 + 1))), (3, .int (nI bs)), (0, .ref h), (1, .int (nI j)), (2, .int q)]) (k := 4) (d := 1) hx hb dX11_best_61 hl rfl rfl (by decide) rfl (fun ls hl => ?_)
              refine lv_goto (tgt := 27) hx hb dX11_best_64 (by decide) ?_
              exact ih27 (i + 1) bs (by omega) (by omega) (by rw [bstA, ← hi2]; first | rw [if_pos (by omega)] | rw [if_neg (by omega)]) ls (lv_sub hl [2, 3, 4, 1, 0] rfl)
            · refine lv_iload hx hb dX11_best_54 (lv_at hl 4 rfl) ?_
              refine lv_goto (tgt := 60) hx hb dX11_best_56 (by decide) ?_
              refine lv_istore_n (lv' := [(3, .int (nI (i + 1))), (0, .ref h), (1, .int (nI j)), (2, .int q), (4, .int (nI (i + 1)))]) hx hb dX11_best_60 rfl hl (by decide) rfl (fun ls hl => ?_)
              refine n_iinc (lv' := [(4, .int (nI (i + 1 + 1))), (3, .int (nI (i + 1))), (0, .ref h), (1, .int (nI j)), (2, .int q)]) (k := 4) (d := 1) hx hb dX11_best_61 hl rfl rfl (by decide) rfl (fun ls hl => ?_)
              refine lv_goto (tgt := 27) hx hb dX11_best_64 (by decide) ?_
              exact ih27 (i + 1) (i + 1) (by omega) (by omega) (by rw [bstA, ← hi2]; first | rw [if_pos (by omega)] | rw [if_neg (by omega)]) ls (lv_sub hl [2, 3, 4, 1, 0] rfl)
      exact loop27 _ 0 0 (Nat.lt_succ_self _) (by omega) rfl ls (lv_sub hl [2, 3, 4, 1, 0] rfl)
    · refine lv_bipush (v := (-2)) hx hb dX11_best_19 (by decide) ?_
      refine hret _ _ _ dX11_best_21 ?_
      (try rw [show bst N (↑j : Int).toNat = bs by rw [hi2]; show bstA _ (N 0 0 - 1) = _; congr 1; omega])
      (repeat' split) <;> first | rfl | omega
  · refine lv_iconst (v := (-1)) hx hb dX11_best_8 (by decide) ?_
    refine hret _ _ _ dX11_best_9 ?_
    (try rw [show bst N (↑j : Int).toNat = bs by rw [hi2]; show bstA _ (N 0 0 - 1) = _; congr 1; omega])
    (repeat' split) <;> first | rfl | omega
set_option maxRecDepth 100000 in
set_option maxHeartbeats 4000000 in
theorem c_X11_together (l : Launch) (D : va_G) (ka : Nat → ClassId) (h : Nat) (a : Nat → Nat) (N : Nat → Nat → Nat) (C : Nat → Nat → Int32) (f : Nat → Int32) (g : Nat → Nat → Int32) (R : va_W) (k q m1 : Int32) (K q2 m2 : Int) (hk : k.toInt = K) (hq : q.toInt = q2) (hm1 : m1.toInt = m2) (hN : WF N) : RO l D ka yX11_together cX11_together 4 (some .int) 3 [.ref h, .int k, .int q, .int m1] (fun H => va_P D vwCl (mw ka h a N C f g ++ R) H) (vp_Si (fun r => r = (if (0 ≤ K ∧ K < (N 0 1 : Int)) ∧ (0 ≤ q2 ∧ q2 < (N 0 1 : Int)) ∧ K ≠ q2 then (if 0 ≤ m2 ∧ m2 ≤ 59 then nI (bth N K.toNat q2.toNat m2.toNat) else -2) else -1))) := by
  refine RO.ofI (by decide) (Nat.le_of_ble_eq_true rfl) ?_
  intro p e s m args below meth c Q X hP hret ls hl
  obtain ⟨hx, hb, hml, hown, hts, hE⟩ := id X
  have hK := hE.1
  have hl : lv_has ls 4 [(0, .ref h), (1, .int k), (2, .int q), (3, .int m1)] := hl
  have hN1 := hN.1
  refine lv_aload_n hx hb dX11_together_0 rfl (lv_at hl 0 rfl) ?_
  refine lv_iload_n hx hb dX11_together_1 rfl (lv_at hl 1 rfl) ?_
  refine vp_callSi (ro_runV (c_X11_isTaker l D ka h a N C f g R k _ hk hN) X wd_836 wd_833 wd_835 ws_11 wd_8 on_X11_isTaker ⟨Nat.le_of_ble_eq_true rfl, Nat.le_of_ble_eq_true rfl⟩ (va_recv hK hP (ci := 11) (q0 := 0) rfl rfl) hP hl.1 rfl (Nat.le_of_ble_eq_true rfl) ⟨(Nat.zero_le _), (Nat.zero_le _)⟩ dX11_together_2) (fun r_1 hr_1 => ?_)
  subst hr_1
  refine b_if_eq (tgt := 21) hx hb dX11_together_5 (by decide) (fun c_2 => ?_) (fun c_2 => ?_)
  · refine lv_iconst (v := (-1)) hx hb dX11_together_21 (by decide) ?_
    refine hret _ _ _ dX11_together_22 ?_
    (repeat' split) <;> first | rfl | omega
  · refine lv_aload_n hx hb dX11_together_8 rfl (lv_at hl 0 rfl) ?_
    refine lv_iload_n hx hb dX11_together_9 rfl (lv_at hl 2 rfl) ?_
    refine vp_callSi (ro_runV (c_X11_isTaker l D ka h a N C f g R q _ hq hN) X wd_836 wd_833 wd_835 ws_11 wd_8 on_X11_isTaker ⟨Nat.le_of_ble_eq_true rfl, Nat.le_of_ble_eq_true rfl⟩ (va_recv hK hP (ci := 11) (q0 := 0) rfl rfl) hP hl.1 rfl (Nat.le_of_ble_eq_true rfl) ⟨(Nat.zero_le _), (Nat.zero_le _)⟩ dX11_together_10) (fun r_3 hr_3 => ?_)
    subst hr_3
    refine b_if_eq (tgt := 21) hx hb dX11_together_13 (by decide) (fun c_4 => ?_) (fun c_4 => ?_)
    · refine lv_iconst (v := (-1)) hx hb dX11_together_21 (by decide) ?_
      refine hret _ _ _ dX11_together_22 ?_
      (repeat' split) <;> first | rfl | omega
    · refine lv_iload_n hx hb dX11_together_16 rfl (lv_at hl 1 rfl) ?_
      refine lv_iload_n hx hb dX11_together_17 rfl (lv_at hl 2 rfl) ?_
      refine i_icmp_ne (tgt := 23) hx hb hk hq dX11_together_18 (by decide) (fun c_5 => ?_) (fun c_5 => ?_)
      · refine lv_iload_n hx hb dX11_together_23 rfl (lv_at hl 3 rfl) ?_
        refine vp_callSi (ro_runS (c_X11_isMinute l D ka m1 _ hm1) X wd_875 wd_873 wd_874 wd_8 on_X11_isMinute ⟨Nat.le_of_ble_eq_true rfl, Nat.le_of_ble_eq_true rfl⟩ trivial hl.1 rfl (Nat.le_of_ble_eq_true rfl) ⟨(Nat.zero_le _), (Nat.zero_le _)⟩ dX11_together_24) (fun r_6 hr_6 => ?_)
        subst hr_6
        refine b_if_eq (tgt := 40) hx hb dX11_together_27 (by decide) (fun c_7 => ?_) (fun c_7 => ?_)
        · refine lv_bipush (v := (-2)) hx hb dX11_together_40 (by decide) ?_
          refine hret _ _ _ dX11_together_42 ?_
          (repeat' split) <;> first | rfl | omega
        · obtain ⟨j, hlt_j, rfl, rfl⟩ := nat_ofK (n := N 0 1) hk (by omega) (by omega)
          obtain ⟨i, hlt_i, rfl, rfl⟩ := nat_ofK (n := N 0 1) hq (by omega) (by omega)
          obtain ⟨t, hlt_t, rfl, rfl⟩ := nat_ofK (n := 60) hm1 (by omega) (by omega)
          refine lv_aload_n hx hb dX11_together_30 rfl (lv_at hl 0 rfl) ?_
          refine lv_iload_n hx hb dX11_together_31 rfl (lv_at hl 1 rfl) ?_
          refine lv_iload_n hx hb dX11_together_32 rfl (lv_at hl 2 rfl) ?_
          refine lv_iload_n hx hb dX11_together_33 rfl (lv_at hl 3 rfl) ?_
          refine vp_callSi (ro_runV (c_X11_bothHold l D ka h a N C f g R j i t (by omega) (by omega) (by omega) (by omega) hN) X wd_891 wd_888 wd_890 ws_15 wd_8 on_X11_bothHold ⟨Nat.le_of_ble_eq_true rfl, Nat.le_of_ble_eq_true rfl⟩ (va_recv hK hP (ci := 11) (q0 := 0) rfl rfl) hP hl.1 rfl (Nat.le_of_ble_eq_true rfl) ⟨(Nat.zero_le _), (Nat.zero_le _)⟩ dX11_together_34) (fun r_9 hr_9 => ?_)
          subst hr_9
          have hd_8 := bth_le N j i t
          refine lv_goto (tgt := 42) hx hb dX11_together_37 (by decide) ?_
          refine hret _ _ _ dX11_together_42 ?_
          (repeat' split) <;> first | rfl | omega
      · refine lv_iconst (v := (-1)) hx hb dX11_together_21 (by decide) ?_
        refine hret _ _ _ dX11_together_22 ?_
        (repeat' split) <;> first | rfl | omega
set_option maxRecDepth 100000 in
set_option maxHeartbeats 4000000 in
theorem c_X11_friend (l : Launch) (D : va_G) (ka : Nat → ClassId) (h : Nat) (a : Nat → Nat) (N : Nat → Nat → Nat) (C : Nat → Nat → Int32) (f : Nat → Int32) (g : Nat → Nat → Int32) (R : va_W) (k q : Int32) (K q2 : Int) (hk : k.toInt = K) (hq : q.toInt = q2) (hN : WF N) : RO l D ka yX11_friend cX11_friend 5 (some .int) 3 [.ref h, .int k, .int q] (fun H => va_P D vwCl (mw ka h a N C f g ++ R) H) (vp_Si (fun r => r = (if 0 ≤ K ∧ K < (N 0 1 : Int) then (if 0 ≤ q2 ∧ q2 ≤ 59 then fno (frd (fun b => bth N K.toNat b q2.toNat) K.toNat (N 0 1)) else -2) else -1))) := by
  refine RO.ofI (by decide) (Nat.le_of_ble_eq_true rfl) ?_
  intro p e s m args below meth c Q X hP hret ls hl
  obtain ⟨hx, hb, hml, hown, hts, hE⟩ := id X
  have hK := hE.1
  have hl : lv_has ls 5 [(0, .ref h), (1, .int k), (2, .int q)] := hl
  have hN1 := hN.1
  refine lv_aload_n hx hb dX11_friend_0 rfl (lv_at hl 0 rfl) ?_
  refine lv_iload_n hx hb dX11_friend_1 rfl (lv_at hl 1 rfl) ?_
  refine vp_callSi (ro_runV (c_X11_isTaker l D ka h a N C f g R k _ hk hN) X wd_836 wd_833 wd_835 ws_11 wd_8 on_X11_isTaker ⟨Nat.le_of_ble_eq_true rfl, Nat.le_of_ble_eq_true rfl⟩ (va_recv hK hP (ci := 11) (q0 := 0) rfl rfl) hP hl.1 rfl (Nat.le_of_ble_eq_true rfl) ⟨(Nat.zero_le _), (Nat.zero_le _)⟩ dX11_friend_2) (fun r_1 hr_1 => ?_)
  subst hr_1
  refine b_if_ne (tgt := 10) hx hb dX11_friend_5 (by decide) (fun c_2 => ?_) (fun c_2 => ?_)
  · refine lv_iload_n hx hb dX11_friend_10 rfl (lv_at hl 2 rfl) ?_
    refine vp_callSi (ro_runS (c_X11_isMinute l D ka q _ hq) X wd_875 wd_873 wd_874 wd_8 on_X11_isMinute ⟨Nat.le_of_ble_eq_true rfl, Nat.le_of_ble_eq_true rfl⟩ trivial hl.1 rfl (Nat.le_of_ble_eq_true rfl) ⟨(Nat.zero_le _), (Nat.zero_le _)⟩ dX11_friend_11) (fun r_3 hr_3 => ?_)
    subst hr_3
    refine b_if_ne (tgt := 20) hx hb dX11_friend_14 (by decide) (fun c_4 => ?_) (fun c_4 => ?_)
    · obtain ⟨j, hlt_j, rfl, rfl⟩ := nat_ofK (n := N 0 1) hk (by omega) (by omega)
      obtain ⟨i, hlt_i, rfl, rfl⟩ := nat_ofK (n := 60) hq (by omega) (by omega)
      refine lv_bipush (v := (-9)) hx hb dX11_friend_20 (by decide) ?_
      refine lv_istore_n (lv' := [(3, .int (-9)), (0, .ref h), (1, .int (nI j)), (2, .int (nI i))]) hx hb dX11_friend_22 rfl hl (by decide) rfl (fun ls hl => ?_)
      refine lv_iconst (v := nI 0) hx hb dX11_friend_23 (by decide) ?_
      refine lv_istore (lv' := [(4, .int (nI 0)), (3, .int (-9)), (0, .ref h), (1, .int (nI j)), (2, .int (nI i))]) hx hb dX11_friend_24 hl (by decide) rfl (fun ls hl => ?_)
      have loop26 : ∀ (fuel26 : Nat) (b : Nat) (o : Int32), N 0 1 - b < fuel26 → (b ≤ N 0 1) → (o = fno (frd (fun b => bth N j b i) j b)) → ∀ ls : Array Slot, lv_has ls 5 [(0, .ref h), (1, .int (nI j)), (2, .int (nI i)), (3, .int o), (4, .int (nI b))] → W p l e (rmz 3 0 0) s m args below meth c s.heap [] 0 0 Q (F0 m 26 ls []) := by
        intro fuel26
        induction fuel26 with
        | zero => intro b o hfu; exact absurd hfu (Nat.not_lt_zero _)
        | succ fuel26 ih26 =>
          intro b o hfu hi1 ho ls hl
          refine lv_iload hx hb dX11_friend_26 (lv_at hl 4 rfl) ?_
          refine lv_aload_n hx hb dX11_friend_28 rfl (lv_at hl 0 rfl) ?_
          refine va_get (D := D) (ci := 11) (v := .int (nI (N 0 1))) (C := RX11) (T := TX11) (N := 35) hx hb hts inX11 hown hK hP 0 rfl rfl 6 (by decide) (hts _ wd_680) (fun _ h9 => h9) rfl dX11_friend_29 ?_
          refine i_icmp_ge (tgt := 74) hx hb (nT (by omega)) (nT (by omega)) dX11_friend_32 (by decide) (fun c_5 => ?_) (fun c_5 => ?_)
          · refine lv_iload_n hx hb dX11_friend_74 rfl (lv_at hl 3 rfl) ?_
            refine hret _ _ _ dX11_friend_75 ?_
            rw [if_pos (by omega), if_pos (by omega), ho, show N 0 1 = b by omega]; rfl
          · refine lv_iload hx hb dX11_friend_35 (lv_at hl 4 rfl) ?_
            refine lv_iload_n hx hb dX11_friend_37 rfl (lv_at hl 1 rfl) ?_
            refine i_icmp_eq (tgt := 68) hx hb (nT (by omega)) (nT (by omega)) dX11_friend_38 (by decide) (fun c_6 => ?_) (fun c_6 => ?_)
            · refine n_iinc (lv' := [(4, .int (nI (b + 1))), (0, .ref h), (1, .int (nI j)), (2, .int (nI i)), (3, .int o)]) (k := 4) (d := 1) hx hb dX11_friend_68 hl rfl rfl (by decide) rfl (fun ls hl => ?_)
              refine lv_goto (tgt := 26) hx hb dX11_friend_71 (by decide) ?_
              exact ih26 (b + 1) o (by omega) (by omega) (by first | (exfalso; omega) | (rw [frd]; first | (rw [if_pos (by omega)]; assumption) | (rw [if_neg (by omega), hf]; first | rfl | (simp only []; first | (rw [if_pos (by omega)]; rfl) | (rw [if_neg (by omega)]; rfl))))) ls (lv_sub hl [1, 2, 3, 4, 0] rfl)
            · cases hf : frd (fun b => bth N j b i) j b with
              | none =>
                rw [hf] at ho; subst ho
                have hl : lv_has ls 5 [(0, .ref h), (1, .int (nI j)), (2, .int (nI i)), (3, .int (-9)), (4, .int (nI b))] := hl
                refine lv_iload_n hx hb dX11_friend_41 rfl (lv_at hl 3 rfl) ?_
                refine lv_bipush (v := (-9)) hx hb dX11_friend_42 (by decide) ?_
                refine i_icmp_eq (tgt := 65) hx hb ng9 ng9 dX11_friend_44 (by decide) (fun c_7 => ?_) (fun c_7 => absurd rfl c_7)
                refine lv_iload hx hb dX11_friend_65 (lv_at hl 4 rfl) ?_
                refine lv_istore_n (lv' := [(3, .int (nI b)), (0, .ref h), (1, .int (nI j)), (2, .int (nI i)), (4, .int (nI b))]) hx hb dX11_friend_67 rfl hl (by decide) rfl (fun ls hl => ?_)
                refine n_iinc (lv' := [(4, .int (nI (b + 1))), (3, .int (nI b)), (0, .ref h), (1, .int (nI j)), (2, .int (nI i))]) (k := 4) (d := 1) hx hb dX11_friend_68 hl rfl rfl (by decide) rfl (fun ls hl => ?_)
                refine lv_goto (tgt := 26) hx hb dX11_friend_71 (by decide) ?_
                exact ih26 (b + 1) (nI b) (by omega) (by omega) (by first | (exfalso; omega) | (rw [frd]; first | (rw [if_pos (by omega)]; assumption) | (rw [if_neg (by omega), hf]; first | rfl | (simp only []; first | (rw [if_pos (by omega)]; rfl) | (rw [if_neg (by omega)]; rfl))))) ls (lv_sub hl [2, 3, 4, 1, 0] rfl)
              | some q =>
                rw [hf] at ho; subst ho
                have hl : lv_has ls 5 [(0, .ref h), (1, .int (nI j)), (2, .int (nI i)), (3, .int (nI q)), (4, .int (nI b))] := hl
                have hqb := frd_lt hf
                refine lv_iload_n hx hb dX11_friend_41 rfl (lv_at hl 3 rfl) ?_
                refine lv_bipush (v := (-9)) hx hb dX11_friend_42 (by decide) ?_
                refine i_icmp_eq (tgt := 65) hx hb (nT (by omega)) ng9 dX11_friend_44 (by decide) (fun c_8 => by omega) (fun c_8 => ?_)
                refine lv_aload_n hx hb dX11_friend_47 rfl (lv_at hl 0 rfl) ?_
                refine lv_iload_n hx hb dX11_friend_48 rfl (lv_at hl 1 rfl) ?_
                refine lv_iload hx hb dX11_friend_49 (lv_at hl 4 rfl) ?_
                refine lv_iload_n hx hb dX11_friend_51 rfl (lv_at hl 2 rfl) ?_
                refine vp_callSi (ro_runV (c_X11_bothHold l D ka h a N C f g R j b i (by omega) (by omega) (by omega) (by omega) hN) X wd_891 wd_888 wd_890 ws_15 wd_8 on_X11_bothHold ⟨Nat.le_of_ble_eq_true rfl, Nat.le_of_ble_eq_true rfl⟩ (va_recv hK hP (ci := 11) (q0 := 0) rfl rfl) hP hl.1 rfl (Nat.le_of_ble_eq_true rfl) ⟨(Nat.zero_le _), (Nat.zero_le _)⟩ dX11_friend_52) (fun r_10 hr_10 => ?_)
                subst hr_10
                have hd_9 := bth_le N j b i
                refine lv_aload_n hx hb dX11_friend_55 rfl (lv_at hl 0 rfl) ?_
                refine lv_iload_n hx hb dX11_friend_56 rfl (lv_at hl 1 rfl) ?_
                refine lv_iload_n hx hb dX11_friend_57 rfl (lv_at hl 3 rfl) ?_
                refine lv_iload_n hx hb dX11_friend_58 rfl (lv_at hl 2 rfl) ?_
                refine vp_callSi (ro_runV (c_X11_bothHold l D ka h a N C f g R j q i (by omega) (by omega) (by omega) (by omega) hN) X wd_891 wd_888 wd_890 ws_15 wd_8 on_X11_bothHold ⟨Nat.le_of_ble_eq_true rfl, Nat.le_of_ble_eq_true rfl⟩ (va_recv hK hP (ci := 11) (q0 := 0) rfl rfl) hP hl.1 rfl (Nat.le_of_ble_eq_true rfl) ⟨(Nat.zero_le _), (Nat.zero_le _)⟩ dX11_friend_59) (fun r_12 hr_12 => ?_)
                subst hr_12
                have hd_11 := bth_le N j q i
                refine i_icmp_le (tgt := 68) hx hb (nT (by omega)) (nT (by omega)) dX11_friend_62 (by decide) (fun c_13 => ?_) (fun c_13 => ?_)
                · refine n_iinc (lv' := [(4, .int (nI (b + 1))), (0, .ref h), (1, .int (nI j)), (2, .int (nI i)), (3, .int (nI q))]) (k := 4) (d := 1) hx hb dX11_friend_68 hl rfl rfl (by decide) rfl (fun ls hl => ?_)
                  refine lv_goto (tgt := 26) hx hb dX11_friend_71 (by decide) ?_
                  exact ih26 (b + 1) (nI q) (by omega) (by omega) (by first | (exfalso; omega) | (rw [frd]; first | (rw [if_pos (by omega)]; assumption) | (rw [if_neg (by omega), hf]; first | rfl | (simp only []; first | (rw [if_pos (by omega)]; rfl) | (rw [if_neg (by omega)]; rfl))))) ls (lv_sub hl [1, 2, 3, 4, 0] rfl)
                · refine lv_iload hx hb dX11_friend_65 (lv_at hl 4 rfl) ?_
                  refine lv_istore_n (lv' := [(3, .int (nI b)), (0, .ref h), (1, .int (nI j)), (2, .int (nI i)), (4, .int (nI b))]) hx hb dX11_friend_67 rfl hl (by decide) rfl (fun ls hl => ?_)
                  refine n_iinc (lv' := [(4, .int (nI (b + 1))), (3, .int (nI b)), (0, .ref h), (1, .int (nI j)), (2, .int (nI i))]) (k := 4) (d := 1) hx hb dX11_friend_68 hl rfl rfl (by decide) rfl (fun ls hl => ?_)
                  refine lv_goto (tgt := 26) hx hb dX11_friend_71 (by decide) ?_
                  exact ih26 (b + 1) (nI b) (by omega) (by omega) (by first | (exfalso; omega) | (rw [frd]; first | (rw [if_pos (by omega)]; assumption) | (rw [if_neg (by omega), hf]; first | rfl | (simp only []; first | (rw [if_pos (by omega)]; rfl) | (rw [if_neg (by omega)]; rfl))))) ls (lv_sub hl [2, 3, 4, 1, 0] rfl)
      exact loop26 _ 0 (-9) (Nat.lt_succ_self _) (by omega) rfl ls (lv_sub hl [2, 3, 4, 1, 0] rfl)
    · refine lv_bipush (v := (-2)) hx hb dX11_friend_17 (by decide) ?_
      refine hret _ _ _ dX11_friend_19 ?_
      (repeat' split) <;> first | rfl | omega
  · refine lv_iconst (v := (-1)) hx hb dX11_friend_8 (by decide) ?_
    refine hret _ _ _ dX11_friend_9 ?_
    (repeat' split) <;> first | rfl | omega
set_option maxRecDepth 100000 in
set_option maxHeartbeats 4000000 in
theorem c_X11_getsOf (l : Launch) (D : va_G) (ka : Nat → ClassId) (h : Nat) (a : Nat → Nat) (N : Nat → Nat → Nat) (C : Nat → Nat → Int32) (f : Nat → Int32) (g : Nat → Nat → Int32) (R : va_W) (j m0 : Nat) (hj : j < 5) (hm : m0 < 60) (hp : 0 < N 0 0) (hN : WF N) : RO l D ka yX11_getsOf cX11_getsOf 6 (some .int) 2 [.ref h, .int (nI j), .int (nI m0)] (fun H => va_P D vwCl (mw ka h a N C f g ++ R) H) (vp_Si (fun r => r = nI (gts N j m0))) := by
  refine RO.ofI (by decide) (Nat.le_of_ble_eq_true rfl) ?_
  intro p e s m args below meth c Q X hP hret ls hl
  obtain ⟨hx, hb, hml, hown, hts, hE⟩ := id X
  have hK := hE.1
  have hl : lv_has ls 6 [(0, .ref h), (1, .int (nI j)), (2, .int (nI m0))] := hl
  have hN1 := hN.1
  refine lv_aload_n hx hb dX11_getsOf_0 rfl (lv_at hl 0 rfl) ?_
  refine lv_iload_n hx hb dX11_getsOf_1 rfl (lv_at hl 1 rfl) ?_
  refine lv_iload_n hx hb dX11_getsOf_2 rfl (lv_at hl 2 rfl) ?_
  refine lv_iconst (v := nI 1) hx hb dX11_getsOf_3 (by decide) ?_
  refine vp_callSi (ro_runV (c_X11_holdsBy l D ka h a N C f g R j m0 1 (by omega) (by omega) (by omega) (show 0 < N 0 0 by omega) hN) X wd_879 wd_876 wd_878 ws_14 wd_8 on_X11_holdsBy ⟨Nat.le_of_ble_eq_true rfl, Nat.le_of_ble_eq_true rfl⟩ (va_recv hK hP (ci := 11) (q0 := 0) rfl rfl) hP hl.1 rfl (Nat.le_of_ble_eq_true rfl) ⟨(Nat.zero_le _), (Nat.zero_le _)⟩ dX11_getsOf_4) (fun r_2 hr_2 => ?_)
  subst hr_2
  have hd_1 := hld_le N j m0 1
  refine lv_istore_n (lv' := [(3, .int (nI (hld N j m0 1))), (0, .ref h), (1, .int (nI j)), (2, .int (nI m0))]) hx hb dX11_getsOf_7 rfl hl (by decide) rfl (fun ls hl => ?_)
  refine lv_iconst (v := nI 0) hx hb dX11_getsOf_8 (by decide) ?_
  refine lv_istore (lv' := [(4, .int (nI 0)), (3, .int (nI (hld N j m0 1))), (0, .ref h), (1, .int (nI j)), (2, .int (nI m0))]) hx hb dX11_getsOf_9 hl (by decide) rfl (fun ls hl => ?_)
  refine lv_iconst (v := nI 0) hx hb dX11_getsOf_11 (by decide) ?_
  refine lv_istore (lv' := [(5, .int (nI 0)), (4, .int (nI 0)), (3, .int (nI (hld N j m0 1))), (0, .ref h), (1, .int (nI j)), (2, .int (nI m0))]) hx hb dX11_getsOf_12 hl (by decide) rfl (fun ls hl => ?_)
  have loop14 : ∀ (fuel14 : Nat) (b : Nat) (se : Nat), N 0 2 - b < fuel14 → (b ≤ N 0 2) → (se = bset (fun g => decide (2 * N 5 g ≤ hld N j m0 1)) b) → ∀ ls : Array Slot, lv_has ls 6 [(0, .ref h), (1, .int (nI j)), (2, .int (nI m0)), (3, .int (nI (hld N j m0 1))), (4, .int (nI se)), (5, .int (nI b))] → W p l e (rmz 2 0 0) s m args below meth c s.heap [] 0 0 Q (F0 m 14 ls []) := by
    intro fuel14
    induction fuel14 with
    | zero => intro b se hfu; exact absurd hfu (Nat.not_lt_zero _)
    | succ fuel14 ih14 =>
      intro b se hfu hi1 hse ls hl
      refine lv_iload hx hb dX11_getsOf_14 (lv_at hl 5 rfl) ?_
      refine lv_aload_n hx hb dX11_getsOf_16 rfl (lv_at hl 0 rfl) ?_
      refine va_get (D := D) (ci := 11) (v := .int (nI (N 0 2))) (C := RX11) (T := TX11) (N := 35) hx hb hts inX11 hown hK hP 0 rfl rfl 7 (by decide) (hts _ wd_681) (fun _ h9 => h9) rfl dX11_getsOf_17 ?_
      refine i_icmp_ge (tgt := 55) hx hb (nT (by omega)) (nT (by omega)) dX11_getsOf_20 (by decide) (fun c_3 => ?_) (fun c_3 => ?_)
      · refine lv_iload hx hb dX11_getsOf_55 (lv_at hl 4 rfl) ?_
        refine hret _ _ _ dX11_getsOf_57 ?_
        rw [hse, show b = N 0 2 by omega]; rfl
      · refine lv_iload hx hb dX11_getsOf_23 (lv_at hl 4 rfl) ?_
        refine lv_iload_n hx hb dX11_getsOf_25 rfl (lv_at hl 3 rfl) ?_
        refine lv_iconst (v := nI 2) hx hb dX11_getsOf_26 (by decide) ?_
        refine lv_aload_n hx hb dX11_getsOf_27 rfl (lv_at hl 0 rfl) ?_
        refine va_get (D := D) (ci := 11) (v := .ref (a 12)) (C := RX11) (T := TX11) (N := 35) hx hb hts inX11 hown hK hP 0 rfl rfl 12 (by decide) (hts _ wd_686) (fun _ h9 => h9) rfl dX11_getsOf_28 ?_
        refine lv_iload hx hb dX11_getsOf_31 (lv_at hl 5 rfl) ?_
        refine n_iald hx hb hK hP 8 0 rfl rfl (k := b) (by omega) (by decide) dX11_getsOf_33 ?_
        have hv_4 : N 5 b ≤ 9 := hN.2.2.2.2.2.1 b
        refine n_imul hx hb dX11_getsOf_34 ?_
        refine i_icmp_lt (tgt := 45) hx hb (nT (by omega)) (nT (by omega)) dX11_getsOf_35 (by decide) (fun c_5 => ?_) (fun c_5 => ?_)
        · refine lv_iconst (v := nI 0) hx hb dX11_getsOf_45 (by decide) ?_
          refine lv_ior hx hb dX11_getsOf_46 ?_
          rw [n_or se 0]
          refine lv_istore (lv' := [(4, .int (nI (se ||| 0))), (0, .ref h), (1, .int (nI j)), (2, .int (nI m0)), (3, .int (nI (hld N j m0 1))), (5, .int (nI b))]) hx hb dX11_getsOf_47 hl (by decide) rfl (fun ls hl => ?_)
          refine n_iinc (lv' := [(5, .int (nI (b + 1))), (4, .int (nI (se ||| 0))), (0, .ref h), (1, .int (nI j)), (2, .int (nI m0)), (3, .int (nI (hld N j m0 1)))]) (k := 5) (d := 1) hx hb dX11_getsOf_49 hl rfl rfl (by decide) rfl (fun ls hl => ?_)
          refine lv_goto (tgt := 14) hx hb dX11_getsOf_52 (by decide) ?_
          exact ih14 (b + 1) (se ||| 0) (by omega) (by omega) (by rw [hse]; first | exact bset_t (by simp; omega) | (rw [Nat.or_zero]; exact bset_f (by simp; omega))) ls (lv_sub hl [2, 3, 4, 5, 1, 0] rfl)
        · refine lv_iconst (v := nI 1) hx hb dX11_getsOf_38 (by decide) ?_
          refine lv_iload hx hb dX11_getsOf_39 (lv_at hl 5 rfl) ?_
          refine lv_ishl hx hb dX11_getsOf_41 ?_
          rw [n_shl (a := 1) (k := b) (by omega) (Nat.lt_of_le_of_lt (by rw [Nat.one_mul]; exact Nat.pow_le_pow_right (by decide) (show b ≤ 31 by omega)) (by decide))]
          refine lv_goto (tgt := 46) hx hb dX11_getsOf_42 (by decide) ?_
          refine lv_ior hx hb dX11_getsOf_46 ?_
          rw [n_or se (1 * 2 ^ b)]
          refine lv_istore (lv' := [(4, .int (nI (se ||| (1 * 2 ^ b)))), (0, .ref h), (1, .int (nI j)), (2, .int (nI m0)), (3, .int (nI (hld N j m0 1))), (5, .int (nI b))]) hx hb dX11_getsOf_47 hl (by decide) rfl (fun ls hl => ?_)
          refine n_iinc (lv' := [(5, .int (nI (b + 1))), (4, .int (nI (se ||| (1 * 2 ^ b)))), (0, .ref h), (1, .int (nI j)), (2, .int (nI m0)), (3, .int (nI (hld N j m0 1)))]) (k := 5) (d := 1) hx hb dX11_getsOf_49 hl rfl rfl (by decide) rfl (fun ls hl => ?_)
          refine lv_goto (tgt := 14) hx hb dX11_getsOf_52 (by decide) ?_
          exact ih14 (b + 1) (se ||| (1 * 2 ^ b)) (by omega) (by omega) (by rw [hse]; first | exact bset_t (by simp; omega) | (rw [Nat.or_zero]; exact bset_f (by simp; omega))) ls (lv_sub hl [2, 3, 4, 5, 1, 0] rfl)
  exact loop14 _ 0 0 (Nat.lt_succ_self _) (by omega) rfl ls (lv_sub hl [3, 4, 5, 2, 1, 0] rfl)
set_option maxRecDepth 100000 in
set_option maxHeartbeats 4000000 in
theorem c_X11_gets (l : Launch) (D : va_G) (ka : Nat → ClassId) (h : Nat) (a : Nat → Nat) (N : Nat → Nat → Nat) (C : Nat → Nat → Int32) (f : Nat → Int32) (g : Nat → Nat → Int32) (R : va_W) (k q : Int32) (K q2 : Int) (hk : k.toInt = K) (hq : q.toInt = q2) (hN : WF N) : RO l D ka yX11_gets cX11_gets 3 (some .int) 3 [.ref h, .int k, .int q] (fun H => va_P D vwCl (mw ka h a N C f g ++ R) H) (vp_Si (fun r => r = (if 0 ≤ K ∧ K < (N 0 1 : Int) then (if 0 ≤ q2 ∧ q2 ≤ 59 then nI (gts N K.toNat q2.toNat) else -2) else -1))) := by
  refine RO.ofI (by decide) (Nat.le_of_ble_eq_true rfl) ?_
  intro p e s m args below meth c Q X hP hret ls hl
  obtain ⟨hx, hb, hml, hown, hts, hE⟩ := id X
  have hK := hE.1
  have hl : lv_has ls 3 [(0, .ref h), (1, .int k), (2, .int q)] := hl
  have hN1 := hN.1
  refine lv_aload_n hx hb dX11_gets_0 rfl (lv_at hl 0 rfl) ?_
  refine lv_iload_n hx hb dX11_gets_1 rfl (lv_at hl 1 rfl) ?_
  refine vp_callSi (ro_runV (c_X11_isTaker l D ka h a N C f g R k _ hk hN) X wd_836 wd_833 wd_835 ws_11 wd_8 on_X11_isTaker ⟨Nat.le_of_ble_eq_true rfl, Nat.le_of_ble_eq_true rfl⟩ (va_recv hK hP (ci := 11) (q0 := 0) rfl rfl) hP hl.1 rfl (Nat.le_of_ble_eq_true rfl) ⟨(Nat.zero_le _), (Nat.zero_le _)⟩ dX11_gets_2) (fun r_1 hr_1 => ?_)
  subst hr_1
  refine b_if_ne (tgt := 10) hx hb dX11_gets_5 (by decide) (fun c_2 => ?_) (fun c_2 => ?_)
  · obtain ⟨j, hlt_j, rfl, rfl⟩ := nat_ofK (n := N 0 1) hk (by omega) (by omega)
    refine lv_iload_n hx hb dX11_gets_10 rfl (lv_at hl 2 rfl) ?_
    refine vp_callSi (ro_runS (c_X11_isMinute l D ka q _ hq) X wd_875 wd_873 wd_874 wd_8 on_X11_isMinute ⟨Nat.le_of_ble_eq_true rfl, Nat.le_of_ble_eq_true rfl⟩ trivial hl.1 rfl (Nat.le_of_ble_eq_true rfl) ⟨(Nat.zero_le _), (Nat.zero_le _)⟩ dX11_gets_11) (fun r_3 hr_3 => ?_)
    subst hr_3
    refine b_if_eq (tgt := 26) hx hb dX11_gets_14 (by decide) (fun c_4 => ?_) (fun c_4 => ?_)
    · refine lv_bipush (v := (-2)) hx hb dX11_gets_26 (by decide) ?_
      refine hret _ _ _ dX11_gets_28 ?_
      (repeat' split) <;> first | rfl | omega
    · obtain ⟨i, hlt_i, rfl, rfl⟩ := nat_ofK (n := 60) hq (by omega) (by omega)
      refine lv_aload_n hx hb dX11_gets_17 rfl (lv_at hl 0 rfl) ?_
      refine lv_iload_n hx hb dX11_gets_18 rfl (lv_at hl 1 rfl) ?_
      refine lv_iload_n hx hb dX11_gets_19 rfl (lv_at hl 2 rfl) ?_
      refine vp_callSi (ro_runV (c_X11_getsOf l D ka h a N C f g R j i (by omega) (by omega) (by omega) hN) X wd_915 wd_912 wd_914 ws_18 wd_8 on_X11_getsOf ⟨Nat.le_of_ble_eq_true rfl, Nat.le_of_ble_eq_true rfl⟩ (va_recv hK hP (ci := 11) (q0 := 0) rfl rfl) hP hl.1 rfl (Nat.le_of_ble_eq_true rfl) ⟨(Nat.zero_le _), (Nat.zero_le _)⟩ dX11_gets_20) (fun r_5 hr_5 => ?_)
      subst hr_5
      refine lv_goto (tgt := 28) hx hb dX11_gets_23 (by decide) ?_
      refine hret _ _ _ dX11_gets_28 ?_
      (repeat' split) <;> first | rfl | omega
  · refine lv_iconst (v := (-1)) hx hb dX11_gets_8 (by decide) ?_
    refine hret _ _ _ dX11_gets_9 ?_
    (repeat' split) <;> first | rfl | omega
