set_option maxRecDepth 100000 in
set_option maxHeartbeats 4000000 in
theorem c_X11_readVault (l : Launch) (D : va_G) (ka : Nat → ClassId) (z : Nat) (h : Nat) (a : Nat → Nat) (N : Nat → Nat → Nat) (C : Nat → Nat → Int32) (f : Nat → Int32) (g : Nat → Nat → Int32) (R : va_W) (t e1 : Nat) (hte : t ≤ e1) (he : e1 ≤ 240) : MU l D ka z yX11_readVault cX11_readVault 2 (some .boolean) 3 0 0 [.ref h, .int (nI e1)] (mw ka h a N C (upd f 13 (nI t)) g ++ R) (Qi D z (fun r w => ∃ t2 P2, prun C (e1 - t) t P0 = (t2, P2) ∧ ((r = 1 ∧ t2 = e1 ∧ P2 0 6 = 8 ∧ (1 ≤ P2 0 0 ∧ P2 0 0 ≤ 6) ∧ (1 ≤ P2 0 1 ∧ P2 0 1 ≤ 5) ∧ P2 0 2 ≤ 5 ∧ ∃ g2, PG g2 P2 ∧ PT g2 P2 ∧ PD g2 P2 ∧ w = mw ka h a N C (upd (upd (upd (upd f 13 (nI t2)) 14 (nI (P2 0 0))) 15 (nI (P2 0 1))) 16 (nI (P2 0 2))) g2 ++ R) ∨ (r = 0 ∧ ¬ (t2 = e1 ∧ P2 0 6 = 8) ∧ (t ≤ t2 ∧ t2 ≤ e1) ∧ ∃ f2 g2, w = mw ka h a N C (upd f2 13 (nI t2)) g2 ++ R)))) := by
  refine MU.ofZ (by decide) (Nat.le_of_ble_eq_true rfl) ?_
  intro p e s m args below meth c Q X hw hS hret ls hl
  obtain ⟨hx, hb, hml, hown, hts, hE⟩ := id X
  have hK := hE.1
  have hz0 := hw.1
  have hl : lv_has ls 2 [(0, .ref h), (1, .int (nI e1))] := hl
  refine lv_aload_n hx hb dX11_readVault_0 rfl (lv_at hl 0 rfl) ?_
  refine lv_iload_n hx hb dX11_readVault_1 rfl (lv_at hl 1 rfl) ?_
  refine lv_bipush (v := nI 118) hx hb dX11_readVault_2 (by decide) ?_
  refine mu_i (mu_runV (c_X11_isSign l D ka z h a N C f g R t e1 118 (by omega) (by omega) (by omega)) X wd_808 wd_805 wd_807 ws_5 wd_8 on_X11_isSign ⟨Nat.le_of_ble_eq_true rfl, Nat.le_of_ble_eq_true rfl⟩ (va_recv hK hw.2.1 (ci := 11) (q0 := 0) rfl rfl) (show wdH D z (mw ka h a N C (upd f 13 (nI t)) g ++ R) _ from hw) hl.1 rfl (Nat.le_of_ble_eq_true rfl) ⟨Nat.le_of_ble_eq_true rfl, Nat.le_of_ble_eq_true rfl⟩ dX11_readVault_4) hS (fun r_2 u_1 H locs hp_u_1 hw hS => ?_)
  obtain ⟨t_3, rfl, hrt_4⟩ := hp_u_1
  by_cases cd_5 : t < e1 ∧ cz C t = ((118 : Nat) : Int)
  · rw [if_pos cd_5] at hrt_4
    obtain ⟨q1, q2⟩ := Prod.mk.inj hrt_4
    subst q1
    subst t_3
    refine W.eq (g2 := F0 m 7 ls [.int (nI 1)]) rfl ?_
    have hw : wdH D z (mw ka h a N C (upd f 13 (nI (t + 1))) g ++ R) H := hw
    refine i_if_eq (tgt := 18) hx hb (nT (by decide)) dX11_readVault_7 (by decide) (fun c_6 => by omega) (fun c_6 => ?_)
    have hq0 : prun C (e1 - t) t P0 = prun C (e1 - (t + 1)) (t + 1) (up P0 0 6 1) := prun_go (by omega) (by rw [show cz C t = 118 by omega]; exact pst0 rfl)
    refine lv_aload_n hx hb dX11_readVault_10 rfl (lv_at hl 0 rfl) ?_
    refine lv_iload_n hx hb dX11_readVault_11 rfl (lv_at hl 1 rfl) ?_
    refine mu_i (mu_runV (c_X11_readTheGloom l D ka z h a N C f g R (t + 1) e1 (up P0 0 6 1) (by omega) (by omega) rfl rfl) X wd_812 wd_809 wd_811 ws_6 wd_8 on_X11_readTheGloom ⟨Nat.le_of_ble_eq_true rfl, Nat.le_of_ble_eq_true rfl⟩ (va_recv hK hw.2.1 (ci := 11) (q0 := 0) rfl rfl) (show wdH D z (mw ka h a N C (upd f 13 (nI (t + 1))) g ++ R) _ from hw) hl.1 rfl (Nat.le_of_ble_eq_true rfl) ⟨Nat.le_of_ble_eq_true rfl, Nat.le_of_ble_eq_true rfl⟩ dX11_readVault_12) hS (fun r_8 u_7 H locs hp_u_7 hw hS => ?_)
    obtain ⟨t2_9, g2_9, P2_9, rfl, ht_9, hr_9, hcase_9⟩ := hp_u_7
    have hq_9 := (hq0).trans hr_9
    rcases hcase_9 with ⟨rfl, h6_9, h00_9, hPG_9, h01_9, h02_9, hno_9⟩ | ⟨rfl, hstk⟩
    · refine W.eq (g2 := F0 m 15 ls [.int (nI 1)]) rfl ?_
      have hw : wdH D z (mw ka h a N C (upd (upd f 13 (nI t2_9)) 14 (nI (P2_9 0 0))) g2_9 ++ R) H := hw
      refine i_if_ne (tgt := 20) hx hb (nT (by decide)) dX11_readVault_15 (by decide) (fun c_10 => ?_) (fun c_10 => by omega)
      refine lv_aload_n hx hb dX11_readVault_20 rfl (lv_at hl 0 rfl) ?_
      refine lv_iconst (v := nI 0) hx hb dX11_readVault_21 (by decide) ?_
      refine va_put (D := D) (ci := 11) (ty := .int) (C := RX11) (T := TX11) (N := 35) hx hb hts inX11 tyX11 tyX11_ok nmX11 hown hK hw.2.1 hw.2.2 hS 0 rfl rfl 15 (by decide) (hts _ wd_689) (fun _ h9 => h9) rfl (by decide +kernel) rfl rfl (Nat.le_of_ble_eq_true rfl) dX11_readVault_22 (fun H locs hP hD hS => ?_)
      have hw : wdH D z (mw ka h a N C (upd (upd (upd f 13 (nI t2_9)) 14 (nI (P2_9 0 0))) 15 (nI 0)) g2_9 ++ R) H := ⟨Nat.le_trans hz0 hS.1, hP, hD⟩
      refine lv_aload_n hx hb dX11_readVault_25 rfl (lv_at hl 0 rfl) ?_
      refine lv_iload_n hx hb dX11_readVault_26 rfl (lv_at hl 1 rfl) ?_
      refine lv_bipush (v := nI 59) hx hb dX11_readVault_27 (by decide) ?_
      refine mu_i (mu_runV (c_X11_isSign l D ka z h a N C (upd (upd f 14 (nI (P2_9 0 0))) 15 (nI 0)) g2_9 R t2_9 e1 59 (by omega) (by omega) (by omega)) X wd_808 wd_805 wd_807 ws_5 wd_8 on_X11_isSign ⟨Nat.le_of_ble_eq_true rfl, Nat.le_of_ble_eq_true rfl⟩ (va_recv hK hw.2.1 (ci := 11) (q0 := 0) rfl rfl) (show wdH D z (mw ka h a N C (upd (upd (upd f 14 (nI (P2_9 0 0))) 15 (nI 0)) 13 (nI t2_9)) g2_9 ++ R) _ from hw) hl.1 rfl (Nat.le_of_ble_eq_true rfl) ⟨Nat.le_of_ble_eq_true rfl, Nat.le_of_ble_eq_true rfl⟩ dX11_readVault_29) hS (fun r_12 u_11 H locs hp_u_11 hw hS => ?_)
      obtain ⟨t_13, rfl, hrt_14⟩ := hp_u_11
      by_cases cd_15 : t2_9 < e1 ∧ cz C t2_9 = ((59 : Nat) : Int)
      · rw [if_pos cd_15] at hrt_14
        obtain ⟨q1, q2⟩ := Prod.mk.inj hrt_14
        subst q1
        subst t_13
        refine W.eq (g2 := F0 m 32 ls [.int (nI 1)]) rfl ?_
        have hw : wdH D z (mw ka h a N C (upd (upd (upd f 13 (nI (t2_9 + 1))) 14 (nI (P2_9 0 0))) 15 (nI 0)) g2_9 ++ R) H := hw
        refine i_if_eq (tgt := 43) hx hb (nT (by decide)) dX11_readVault_32 (by decide) (fun c_16 => by omega) (fun c_16 => ?_)
        have hs_17 : prun C (e1 - t) t P0 = prun C (e1 - (t2_9 + 1)) (t2_9 + 1) (up P2_9 0 6 3) := hq_9.trans (prun_go (by omega) (by rw [show cz C t2_9 = 59 by omega]; exact pst2s h6_9))
        have h01z : P2_9 0 1 = 0 := h01_9
        have h02z : P2_9 0 2 = 0 := h02_9
        have hw : wdH D z (mw ka h a N C (upd (upd (upd f 13 (nI (t2_9 + 1))) 14 (nI (P2_9 0 0))) 15 (nI ((up P2_9 0 6 3) 0 1))) g2_9 ++ R) H := by rw [show (up P2_9 0 6 3) 0 1 = 0 from h01z]; exact hw
        refine lv_aload_n hx hb dX11_readVault_35 rfl (lv_at hl 0 rfl) ?_
        refine lv_iload_n hx hb dX11_readVault_36 rfl (lv_at hl 1 rfl) ?_
        refine mu_i (mu_runV (c_X11_readTaker l D ka z h a N C (upd f 14 (nI (P2_9 0 0))) g2_9 R (t2_9 + 1) e1 (up P2_9 0 6 3) (by omega) (by omega) (by rw [show (up P2_9 0 6 3) 0 1 = 0 from h01z]; decide) rfl (fun j hj => by rw [show (up P2_9 0 6 3) 0 1 = 0 from h01z] at hj; omega)) X wd_820 wd_817 wd_819 ws_8 wd_8 on_X11_readTaker ⟨Nat.le_of_ble_eq_true rfl, Nat.le_of_ble_eq_true rfl⟩ (va_recv hK hw.2.1 (ci := 11) (q0 := 0) rfl rfl) (show wdH D z (mw ka h a N C (upd (upd (upd f 14 (nI (P2_9 0 0))) 13 (nI (t2_9 + 1))) 15 (nI ((up P2_9 0 6 3) 0 1))) g2_9 ++ R) _ from hw) hl.1 rfl (Nat.le_of_ble_eq_true rfl) ⟨Nat.le_of_ble_eq_true rfl, Nat.le_of_ble_eq_true rfl⟩ dX11_readVault_37) hS (fun r_19 u_18 H locs hp_u_18 hw hS => ?_)
        obtain ⟨t2_20, x_20, g2_20, P2_20, rfl, ht_20, hr_20, hcase_20⟩ := hp_u_18
        have hq_20 := (hs_17).trans hr_20
        rcases hcase_20 with ⟨rfl, hx_20, h01_20, h6_20, hPT_20, h17_20, h00_20, h1_20, h02_20⟩ | ⟨rfl, hstk⟩
        · subst hx_20
          refine W.eq (g2 := F0 m 40 ls [.int (nI 1)]) rfl ?_
          have hw : wdH D z (mw ka h a N C (upd (upd (upd f 13 (nI t2_20)) 14 (nI (P2_9 0 0))) 15 (nI (P2_20 0 1))) g2_20 ++ R) H := hw
          refine i_if_ne (tgt := 45) hx hb (nT (by decide)) dX11_readVault_40 (by decide) (fun c_21 => ?_) (fun c_21 => by omega)
          have hw : wdH D z (mw ka h a N C (upd (upd (upd f 13 (nI t2_20)) 14 (nI (P2_20 0 0))) 15 (nI (P2_20 0 1))) g2_20 ++ R) H := by rw [h00_20]; exact hw
          have loop45 : ∀ (fuel45 : Nat) (u : Nat) (g1 : Nat → Nat → Int32) (P1 : NN), 5 - P1 0 1 < fuel45 → (t ≤ u ∧ u ≤ e1) → (1 ≤ P1 0 1 ∧ P1 0 1 ≤ 5) → (P1 0 6 = 7) → (PT g1 P1) → (PG g1 P1) → (P1 0 2 = 0) → (1 ≤ P1 0 0 ∧ P1 0 0 ≤ 6) → (prun C (e1 - t) t P0 = prun C (e1 - u) u P1) → ∀ (H : Heap) (locs : List Loc), wdH D z (mw ka h a N C (upd (upd (upd f 13 (nI u)) 14 (nI (P1 0 0))) 15 (nI (P1 0 1))) g1 ++ R) H → va_S (fun q => z ≤ q) s.heap H locs → ∀ ls : Array Slot, lv_has ls 2 [(0, .ref h), (1, .int (nI e1))] → W p l e (rmz 3 0 0) s m args below meth c H locs 0 0 Q (F0 m 45 ls []) := by
            intro fuel45
            induction fuel45 with
            | zero => intro u g1 P1 hfu; exact absurd hfu (Nat.not_lt_zero _)
            | succ fuel45 ih45 =>
              intro u g1 P1 hfu hu hp01 hp06 hPT hPG hp02 hp00 hq H locs hw hS ls hl
              refine lv_aload_n hx hb dX11_readVault_45 rfl (lv_at hl 0 rfl) ?_
              refine va_get (D := D) (ci := 11) (v := .int (nI (P1 0 1))) (C := RX11) (T := TX11) (N := 35) hx hb hts inX11 hown hK hw.2.1 0 rfl rfl 15 (by decide) (hts _ wd_689) (fun _ h9 => h9) rfl dX11_readVault_46 ?_
              refine lv_iconst (v := nI 5) hx hb dX11_readVault_49 (by decide) ?_
              refine i_icmp_ge (tgt := 73) hx hb (nT (by omega)) (nT (by decide)) dX11_readVault_50 (by decide) (fun c_22 => ?_) (fun c_22 => ?_)
              · refine lv_aload_n hx hb dX11_readVault_73 rfl (lv_at hl 0 rfl) ?_
                refine lv_iload_n hx hb dX11_readVault_74 rfl (lv_at hl 1 rfl) ?_
                refine lv_bipush (v := nI 47) hx hb dX11_readVault_75 (by decide) ?_
                refine mu_i (mu_runV (c_X11_isSign l D ka z h a N C (upd (upd f 14 (nI (P1 0 0))) 15 (nI (P1 0 1))) g1 R u e1 47 (by omega) (by omega) (by omega)) X wd_808 wd_805 wd_807 ws_5 wd_8 on_X11_isSign ⟨Nat.le_of_ble_eq_true rfl, Nat.le_of_ble_eq_true rfl⟩ (va_recv hK hw.2.1 (ci := 11) (q0 := 0) rfl rfl) (show wdH D z (mw ka h a N C (upd (upd (upd f 14 (nI (P1 0 0))) 15 (nI (P1 0 1))) 13 (nI u)) g1 ++ R) _ from hw) hl.1 rfl (Nat.le_of_ble_eq_true rfl) ⟨Nat.le_of_ble_eq_true rfl, Nat.le_of_ble_eq_true rfl⟩ dX11_readVault_77) hS (fun r_24 u_23 H locs hp_u_23 hw hS => ?_)
                obtain ⟨t_25, rfl, hrt_26⟩ := hp_u_23
                by_cases cd_27 : u < e1 ∧ cz C u = ((47 : Nat) : Int)
                · rw [if_pos cd_27] at hrt_26
                  obtain ⟨q1, q2⟩ := Prod.mk.inj hrt_26
                  subst q1
                  subst t_25
                  refine W.eq (g2 := F0 m 80 ls [.int (nI 1)]) rfl ?_
                  have hw : wdH D z (mw ka h a N C (upd (upd (upd f 13 (nI (u + 1))) 14 (nI (P1 0 0))) 15 (nI (P1 0 1))) g1 ++ R) H := hw
                  refine i_if_eq (tgt := 95) hx hb (nT (by decide)) dX11_readVault_80 (by decide) (fun c_28 => by omega) (fun c_28 => ?_)
                  have hg8 : prun C (e1 - t) t P0 = prun C (e1 - (u + 1)) (u + 1) (up P1 0 6 8) := hq.trans (prun_go (by omega) (by rw [show cz C u = 47 by omega]; exact pst7g hp06))
                  refine lv_aload_n hx hb dX11_readVault_83 rfl (lv_at hl 0 rfl) ?_
                  refine lv_iload_n hx hb dX11_readVault_84 rfl (lv_at hl 1 rfl) ?_
                  refine mu_i (mu_runV (c_X11_readTheGoods l D ka z h a N C (upd (upd f 14 (nI (P1 0 0))) 15 (nI (P1 0 1))) g1 R (u + 1) e1 (up P1 0 6 8) (by omega) (by omega) hp02 rfl) X wd_824 wd_821 wd_823 ws_9 wd_8 on_X11_readTheGoods ⟨Nat.le_of_ble_eq_true rfl, Nat.le_of_ble_eq_true rfl⟩ (va_recv hK hw.2.1 (ci := 11) (q0 := 0) rfl rfl) (show wdH D z (mw ka h a N C (upd (upd (upd f 14 (nI (P1 0 0))) 15 (nI (P1 0 1))) 13 (nI (u + 1))) g1 ++ R) _ from hw) hl.1 rfl (Nat.le_of_ble_eq_true rfl) ⟨Nat.le_of_ble_eq_true rfl, Nat.le_of_ble_eq_true rfl⟩ dX11_readVault_85) hS (fun r_30 u_29 H locs hp_u_29 hw hS => ?_)
                  obtain ⟨t2_31, g2_31, P2_31, rfl, ht_31, hr_31, hcase_31⟩ := hp_u_29
                  have hq_31 := (hg8).trans hr_31
                  rcases hcase_31 with ⟨rfl, hte_31, h6_31, h02_31, hPD_31, hgs_31, h00_31, h01_31, h1_31, h2_31, h3_31, h4_31⟩ | ⟨rfl, hstk⟩
                  · refine W.eq (g2 := F0 m 88 ls [.int (nI 1)]) rfl ?_
                    have hw : wdH D z (mw ka h a N C (upd (upd (upd (upd f 13 (nI t2_31)) 14 (nI (P1 0 0))) 15 (nI (P1 0 1))) 16 (nI (P2_31 0 2))) g2_31 ++ R) H := hw
                    refine i_if_eq (tgt := 95) hx hb (nT (by decide)) dX11_readVault_88 (by decide) (fun c_32 => by omega) (fun c_32 => ?_)
                    refine lv_iconst (v := nI 1) hx hb dX11_readVault_91 (by decide) ?_
                    refine lv_goto (tgt := 96) hx hb dX11_readVault_92 (by decide) ?_
                    refine hret _ _ _ _ _ _ _ _ dX11_readVault_96 hS hw (Nat.zero_le _) (Nat.zero_le _) (by decide) ?_
                    subst hte_31
                    refine ⟨_, P2_31, (hq_31).trans (prun_end (Nat.le_refl _) (fun q => absurd q (Nat.lt_irrefl _))), Or.inl ⟨rfl, rfl, h6_31, by rw [h00_31]; exact hp00, by rw [h01_31]; exact hp01, h02_31, g2_31, ?_, ?_, hPD_31, ?_⟩⟩
                    · intro j hj
                      have := hPG j (by rw [h00_31] at hj; exact hj)
                      rw [hgs_31.1, h1_31]; exact this
                    · intro j hj
                      have := hPT j (by rw [h01_31] at hj; exact hj)
                      rw [hgs_31.2.1, hgs_31.2.2.1, hgs_31.2.2.2, h2_31, h3_31, h4_31]; exact this
                    · rw [h00_31, h01_31]; rfl
                  · refine W.eq (g2 := F0 m 88 ls [.int (nI 0)]) rfl ?_
                    have hw : wdH D z (mw ka h a N C (upd (upd (upd (upd f 13 (nI t2_31)) 14 (nI (P1 0 0))) 15 (nI (P1 0 1))) 16 (nI (P2_31 0 2))) g2_31 ++ R) H := hw
                    refine i_if_eq (tgt := 95) hx hb (nT (by decide)) dX11_readVault_88 (by decide) (fun c_33 => ?_) (fun c_33 => by omega)
                    refine lv_iconst (v := nI 0) hx hb dX11_readVault_95 (by decide) ?_
                    refine hret _ _ _ _ _ _ _ _ dX11_readVault_96 hS hw (Nat.zero_le _) (Nat.zero_le _) (by decide) ?_
                    have hstk1 := hstk
                    exact ⟨t2_31, P2_31, (hq_31).trans (prun_end (by omega) hstk1.1), Or.inr ⟨rfl, fun q => hstk1.2 q.1 q.2, by omega, (upd (upd (upd (upd f 13 (nI t2_31)) 14 (nI (P1 0 0))) 15 (nI (P1 0 1))) 16 (nI (P2_31 0 2))), g2_31, rfl⟩⟩
                · rw [if_neg cd_27] at hrt_26
                  obtain ⟨q1, q2⟩ := Prod.mk.inj hrt_26
                  subst q1
                  subst t_25
                  refine W.eq (g2 := F0 m 80 ls [.int (nI 0)]) rfl ?_
                  have hw : wdH D z (mw ka h a N C (upd (upd (upd f 13 (nI u)) 14 (nI (P1 0 0))) 15 (nI (P1 0 1))) g1 ++ R) H := hw
                  refine i_if_eq (tgt := 95) hx hb (nT (by decide)) dX11_readVault_80 (by decide) (fun c_34 => ?_) (fun c_34 => by omega)
                  refine lv_iconst (v := nI 0) hx hb dX11_readVault_95 (by decide) ?_
                  refine hret _ _ _ _ _ _ _ _ dX11_readVault_96 hS hw (Nat.zero_le _) (Nat.zero_le _) (by decide) ?_
                  have hstk1 := (⟨fun h1 => pst7n hp06 (by omega) (by omega), fun _ => by rw [hp06]; decide⟩ : stuck C e1 u P1)
                  exact ⟨u, P1, (hq).trans (prun_end (by omega) hstk1.1), Or.inr ⟨rfl, fun q => hstk1.2 q.1 q.2, by omega, (upd (upd (upd f 13 (nI u)) 14 (nI (P1 0 0))) 15 (nI (P1 0 1))), g1, rfl⟩⟩
              · refine lv_aload_n hx hb dX11_readVault_53 rfl (lv_at hl 0 rfl) ?_
                refine lv_iload_n hx hb dX11_readVault_54 rfl (lv_at hl 1 rfl) ?_
                refine lv_bipush (v := nI 59) hx hb dX11_readVault_55 (by decide) ?_
                refine mu_i (mu_runV (c_X11_isSign l D ka z h a N C (upd (upd f 14 (nI (P1 0 0))) 15 (nI (P1 0 1))) g1 R u e1 59 (by omega) (by omega) (by omega)) X wd_808 wd_805 wd_807 ws_5 wd_8 on_X11_isSign ⟨Nat.le_of_ble_eq_true rfl, Nat.le_of_ble_eq_true rfl⟩ (va_recv hK hw.2.1 (ci := 11) (q0 := 0) rfl rfl) (show wdH D z (mw ka h a N C (upd (upd (upd f 14 (nI (P1 0 0))) 15 (nI (P1 0 1))) 13 (nI u)) g1 ++ R) _ from hw) hl.1 rfl (Nat.le_of_ble_eq_true rfl) ⟨Nat.le_of_ble_eq_true rfl, Nat.le_of_ble_eq_true rfl⟩ dX11_readVault_57) hS (fun r_36 u_35 H locs hp_u_35 hw hS => ?_)
                obtain ⟨t_37, rfl, hrt_38⟩ := hp_u_35
                by_cases cd_39 : u < e1 ∧ cz C u = ((59 : Nat) : Int)
                · rw [if_pos cd_39] at hrt_38
                  obtain ⟨q1, q2⟩ := Prod.mk.inj hrt_38
                  subst q1
                  subst t_37
                  refine W.eq (g2 := F0 m 60 ls [.int (nI 1)]) rfl ?_
                  have hw : wdH D z (mw ka h a N C (upd (upd (upd f 13 (nI (u + 1))) 14 (nI (P1 0 0))) 15 (nI (P1 0 1))) g1 ++ R) H := hw
                  refine i_if_eq (tgt := 73) hx hb (nT (by decide)) dX11_readVault_60 (by decide) (fun c_40 => by omega) (fun c_40 => ?_)
                  have hs_41 : prun C (e1 - t) t P0 = prun C (e1 - (u + 1)) (u + 1) (up P1 0 6 3) := hq.trans (prun_go (by omega) (by rw [show cz C u = 59 by omega]; exact pst7s hp06 (by omega)))
                  have hw : wdH D z (mw ka h a N C (upd (upd (upd f 13 (nI (u + 1))) 14 (nI (P1 0 0))) 15 (nI ((up P1 0 6 3) 0 1))) g1 ++ R) H := hw
                  refine lv_aload_n hx hb dX11_readVault_63 rfl (lv_at hl 0 rfl) ?_
                  refine lv_iload_n hx hb dX11_readVault_64 rfl (lv_at hl 1 rfl) ?_
                  refine mu_i (mu_runV (c_X11_readTaker l D ka z h a N C (upd f 14 (nI (P1 0 0))) g1 R (u + 1) e1 (up P1 0 6 3) (by omega) (by omega) (by show P1 0 1 < 5; omega) rfl hPT) X wd_820 wd_817 wd_819 ws_8 wd_8 on_X11_readTaker ⟨Nat.le_of_ble_eq_true rfl, Nat.le_of_ble_eq_true rfl⟩ (va_recv hK hw.2.1 (ci := 11) (q0 := 0) rfl rfl) (show wdH D z (mw ka h a N C (upd (upd (upd f 14 (nI (P1 0 0))) 13 (nI (u + 1))) 15 (nI ((up P1 0 6 3) 0 1))) g1 ++ R) _ from hw) hl.1 rfl (Nat.le_of_ble_eq_true rfl) ⟨Nat.le_of_ble_eq_true rfl, Nat.le_of_ble_eq_true rfl⟩ dX11_readVault_65) hS (fun r_43 u_42 H locs hp_u_42 hw hS => ?_)
                  obtain ⟨t2_44, x_44, g2_44, P2_44, rfl, ht_44, hr_44, hcase_44⟩ := hp_u_42
                  have hq_44 := (hs_41).trans hr_44
                  rcases hcase_44 with ⟨rfl, hx_44, h01_44, h6_44, hPT_44, h17_44, h00_44, h1_44, h02_44⟩ | ⟨rfl, hstk⟩
                  · subst hx_44
                    refine W.eq (g2 := F0 m 68 ls [.int (nI 1)]) rfl ?_
                    have hw : wdH D z (mw ka h a N C (upd (upd (upd f 13 (nI t2_44)) 14 (nI (P1 0 0))) 15 (nI (P2_44 0 1))) g2_44 ++ R) H := hw
                    refine i_if_ne (tgt := 45) hx hb (nT (by decide)) dX11_readVault_68 (by decide) (fun c_45 => ?_) (fun c_45 => by omega)
                    have hw : wdH D z (mw ka h a N C (upd (upd (upd f 13 (nI t2_44)) 14 (nI (P2_44 0 0))) 15 (nI (P2_44 0 1))) g2_44 ++ R) H := by rw [h00_44]; exact hw
                    exact ih45 t2_44 g2_44 P2_44 (by rw [h01_44]; show 5 - (P1 0 1 + 1) < fuel45; omega) (by omega) (by rw [h01_44]; show 1 ≤ P1 0 1 + 1 ∧ P1 0 1 + 1 ≤ 5; omega) h6_44 hPT_44 (fun j hj => by have := hPG j (by rw [h00_44] at hj; exact hj); rw [h17_44, h1_44]; exact this) (by rw [h02_44]; exact hp02) (by rw [h00_44]; exact hp00) hq_44 _ _ hw hS ls (lv_sub hl [0, 1] rfl)
                  · refine W.eq (g2 := F0 m 68 ls [.int (nI 0)]) rfl ?_
                    have hw : wdH D z (mw ka h a N C (upd (upd (upd f 13 (nI t2_44)) 14 (nI (P1 0 0))) 15 (nI x_44)) g2_44 ++ R) H := hw
                    refine i_if_ne (tgt := 45) hx hb (nT (by decide)) dX11_readVault_68 (by decide) (fun c_46 => by omega) (fun c_46 => ?_)
                    refine lv_iconst (v := nI 0) hx hb dX11_readVault_71 (by decide) ?_
                    refine hret _ _ _ _ _ _ _ _ dX11_readVault_72 hS hw (Nat.zero_le _) (Nat.zero_le _) (by decide) ?_
                    have hstk1 := hstk
                    exact ⟨t2_44, P2_44, (hq_44).trans (prun_end (by omega) hstk1.1), Or.inr ⟨rfl, fun q => hstk1.2 q.1 q.2, by omega, (upd (upd (upd f 13 (nI t2_44)) 14 (nI (P1 0 0))) 15 (nI x_44)), g2_44, rfl⟩⟩
                · rw [if_neg cd_39] at hrt_38
                  obtain ⟨q1, q2⟩ := Prod.mk.inj hrt_38
                  subst q1
                  subst t_37
                  refine W.eq (g2 := F0 m 60 ls [.int (nI 0)]) rfl ?_
                  have hw : wdH D z (mw ka h a N C (upd (upd (upd f 13 (nI u)) 14 (nI (P1 0 0))) 15 (nI (P1 0 1))) g1 ++ R) H := hw
                  refine i_if_eq (tgt := 73) hx hb (nT (by decide)) dX11_readVault_60 (by decide) (fun c_47 => ?_) (fun c_47 => by omega)
                  refine lv_aload_n hx hb dX11_readVault_73 rfl (lv_at hl 0 rfl) ?_
                  refine lv_iload_n hx hb dX11_readVault_74 rfl (lv_at hl 1 rfl) ?_
                  refine lv_bipush (v := nI 47) hx hb dX11_readVault_75 (by decide) ?_
                  refine mu_i (mu_runV (c_X11_isSign l D ka z h a N C (upd (upd f 14 (nI (P1 0 0))) 15 (nI (P1 0 1))) g1 R u e1 47 (by omega) (by omega) (by omega)) X wd_808 wd_805 wd_807 ws_5 wd_8 on_X11_isSign ⟨Nat.le_of_ble_eq_true rfl, Nat.le_of_ble_eq_true rfl⟩ (va_recv hK hw.2.1 (ci := 11) (q0 := 0) rfl rfl) (show wdH D z (mw ka h a N C (upd (upd (upd f 14 (nI (P1 0 0))) 15 (nI (P1 0 1))) 13 (nI u)) g1 ++ R) _ from hw) hl.1 rfl (Nat.le_of_ble_eq_true rfl) ⟨Nat.le_of_ble_eq_true rfl, Nat.le_of_ble_eq_true rfl⟩ dX11_readVault_77) hS (fun r_49 u_48 H locs hp_u_48 hw hS => ?_)
                  obtain ⟨t_50, rfl, hrt_51⟩ := hp_u_48
                  by_cases cd_52 : u < e1 ∧ cz C u = ((47 : Nat) : Int)
                  · rw [if_pos cd_52] at hrt_51
                    obtain ⟨q1, q2⟩ := Prod.mk.inj hrt_51
                    subst q1
                    subst t_50
                    refine W.eq (g2 := F0 m 80 ls [.int (nI 1)]) rfl ?_
                    have hw : wdH D z (mw ka h a N C (upd (upd (upd f 13 (nI (u + 1))) 14 (nI (P1 0 0))) 15 (nI (P1 0 1))) g1 ++ R) H := hw
                    refine i_if_eq (tgt := 95) hx hb (nT (by decide)) dX11_readVault_80 (by decide) (fun c_53 => by omega) (fun c_53 => ?_)
                    have hg8 : prun C (e1 - t) t P0 = prun C (e1 - (u + 1)) (u + 1) (up P1 0 6 8) := hq.trans (prun_go (by omega) (by rw [show cz C u = 47 by omega]; exact pst7g hp06))
                    refine lv_aload_n hx hb dX11_readVault_83 rfl (lv_at hl 0 rfl) ?_
                    refine lv_iload_n hx hb dX11_readVault_84 rfl (lv_at hl 1 rfl) ?_
                    refine mu_i (mu_runV (c_X11_readTheGoods l D ka z h a N C (upd (upd f 14 (nI (P1 0 0))) 15 (nI (P1 0 1))) g1 R (u + 1) e1 (up P1 0 6 8) (by omega) (by omega) hp02 rfl) X wd_824 wd_821 wd_823 ws_9 wd_8 on_X11_readTheGoods ⟨Nat.le_of_ble_eq_true rfl, Nat.le_of_ble_eq_true rfl⟩ (va_recv hK hw.2.1 (ci := 11) (q0 := 0) rfl rfl) (show wdH D z (mw ka h a N C (upd (upd (upd f 14 (nI (P1 0 0))) 15 (nI (P1 0 1))) 13 (nI (u + 1))) g1 ++ R) _ from hw) hl.1 rfl (Nat.le_of_ble_eq_true rfl) ⟨Nat.le_of_ble_eq_true rfl, Nat.le_of_ble_eq_true rfl⟩ dX11_readVault_85) hS (fun r_55 u_54 H locs hp_u_54 hw hS => ?_)
                    obtain ⟨t2_56, g2_56, P2_56, rfl, ht_56, hr_56, hcase_56⟩ := hp_u_54
                    have hq_56 := (hg8).trans hr_56
                    rcases hcase_56 with ⟨rfl, hte_56, h6_56, h02_56, hPD_56, hgs_56, h00_56, h01_56, h1_56, h2_56, h3_56, h4_56⟩ | ⟨rfl, hstk⟩
                    · refine W.eq (g2 := F0 m 88 ls [.int (nI 1)]) rfl ?_
                      have hw : wdH D z (mw ka h a N C (upd (upd (upd (upd f 13 (nI t2_56)) 14 (nI (P1 0 0))) 15 (nI (P1 0 1))) 16 (nI (P2_56 0 2))) g2_56 ++ R) H := hw
                      refine i_if_eq (tgt := 95) hx hb (nT (by decide)) dX11_readVault_88 (by decide) (fun c_57 => by omega) (fun c_57 => ?_)
                      refine lv_iconst (v := nI 1) hx hb dX11_readVault_91 (by decide) ?_
                      refine lv_goto (tgt := 96) hx hb dX11_readVault_92 (by decide) ?_
                      refine hret _ _ _ _ _ _ _ _ dX11_readVault_96 hS hw (Nat.zero_le _) (Nat.zero_le _) (by decide) ?_
                      subst hte_56
                      refine ⟨_, P2_56, (hq_56).trans (prun_end (Nat.le_refl _) (fun q => absurd q (Nat.lt_irrefl _))), Or.inl ⟨rfl, rfl, h6_56, by rw [h00_56]; exact hp00, by rw [h01_56]; exact hp01, h02_56, g2_56, ?_, ?_, hPD_56, ?_⟩⟩
                      · intro j hj
                        have := hPG j (by rw [h00_56] at hj; exact hj)
                        rw [hgs_56.1, h1_56]; exact this
                      · intro j hj
                        have := hPT j (by rw [h01_56] at hj; exact hj)
                        rw [hgs_56.2.1, hgs_56.2.2.1, hgs_56.2.2.2, h2_56, h3_56, h4_56]; exact this
                      · rw [h00_56, h01_56]; rfl
                    · refine W.eq (g2 := F0 m 88 ls [.int (nI 0)]) rfl ?_
                      have hw : wdH D z (mw ka h a N C (upd (upd (upd (upd f 13 (nI t2_56)) 14 (nI (P1 0 0))) 15 (nI (P1 0 1))) 16 (nI (P2_56 0 2))) g2_56 ++ R) H := hw
                      refine i_if_eq (tgt := 95) hx hb (nT (by decide)) dX11_readVault_88 (by decide) (fun c_58 => ?_) (fun c_58 => by omega)
                      refine lv_iconst (v := nI 0) hx hb dX11_readVault_95 (by decide) ?_
                      refine hret _ _ _ _ _ _ _ _ dX11_readVault_96 hS hw (Nat.zero_le _) (Nat.zero_le _) (by decide) ?_
                      have hstk1 := hstk
                      exact ⟨t2_56, P2_56, (hq_56).trans (prun_end (by omega) hstk1.1), Or.inr ⟨rfl, fun q => hstk1.2 q.1 q.2, by omega, (upd (upd (upd (upd f 13 (nI t2_56)) 14 (nI (P1 0 0))) 15 (nI (P1 0 1))) 16 (nI (P2_56 0 2))), g2_56, rfl⟩⟩
                  · rw [if_neg cd_52] at hrt_51
                    obtain ⟨q1, q2⟩ := Prod.mk.inj hrt_51
                    subst q1
                    subst t_50
                    refine W.eq (g2 := F0 m 80 ls [.int (nI 0)]) rfl ?_
                    have hw : wdH D z (mw ka h a N C (upd (upd (upd f 13 (nI u)) 14 (nI (P1 0 0))) 15 (nI (P1 0 1))) g1 ++ R) H := hw
                    refine i_if_eq (tgt := 95) hx hb (nT (by decide)) dX11_readVault_80 (by decide) (fun c_59 => ?_) (fun c_59 => by omega)
                    refine lv_iconst (v := nI 0) hx hb dX11_readVault_95 (by decide) ?_
                    refine hret _ _ _ _ _ _ _ _ dX11_readVault_96 hS hw (Nat.zero_le _) (Nat.zero_le _) (by decide) ?_
                    have hstk1 := (⟨fun h1 => pst7n hp06 (by omega) (by omega), fun _ => by rw [hp06]; decide⟩ : stuck C e1 u P1)
                    exact ⟨u, P1, (hq).trans (prun_end (by omega) hstk1.1), Or.inr ⟨rfl, fun q => hstk1.2 q.1 q.2, by omega, (upd (upd (upd f 13 (nI u)) 14 (nI (P1 0 0))) 15 (nI (P1 0 1))), g1, rfl⟩⟩
          exact loop45 _ t2_20 g2_20 P2_20 (Nat.lt_succ_self _) (by omega) (by rw [h01_20, show (up P2_9 0 6 3) 0 1 = 0 from h01z]; decide) h6_20 hPT_20 (fun j hj => by have := hPG_9 j (by rw [h00_20] at hj; exact hj); rw [h17_20, h1_20]; exact this) (by rw [h02_20]; exact h02z) (by rw [h00_20]; exact h00_9) hq_20 _ _ hw hS ls (lv_sub hl [0, 1] rfl)
        · refine W.eq (g2 := F0 m 40 ls [.int (nI 0)]) rfl ?_
          have hw : wdH D z (mw ka h a N C (upd (upd (upd f 13 (nI t2_20)) 14 (nI (P2_9 0 0))) 15 (nI x_20)) g2_20 ++ R) H := hw
          refine i_if_ne (tgt := 45) hx hb (nT (by decide)) dX11_readVault_40 (by decide) (fun c_60 => by omega) (fun c_60 => ?_)
          refine lv_iconst (v := nI 0) hx hb dX11_readVault_43 (by decide) ?_
          refine hret _ _ _ _ _ _ _ _ dX11_readVault_44 hS hw (Nat.zero_le _) (Nat.zero_le _) (by decide) ?_
          have hstk1 := hstk
          exact ⟨t2_20, P2_20, (hq_20).trans (prun_end (by omega) hstk1.1), Or.inr ⟨rfl, fun q => hstk1.2 q.1 q.2, by omega, (upd (upd (upd f 13 (nI t2_20)) 14 (nI (P2_9 0 0))) 15 (nI x_20)), g2_20, rfl⟩⟩
      · rw [if_neg cd_15] at hrt_14
        obtain ⟨q1, q2⟩ := Prod.mk.inj hrt_14
        subst q1
        subst t_13
        refine W.eq (g2 := F0 m 32 ls [.int (nI 0)]) rfl ?_
        have hw : wdH D z (mw ka h a N C (upd (upd (upd f 13 (nI t2_9)) 14 (nI (P2_9 0 0))) 15 (nI 0)) g2_9 ++ R) H := hw
        refine i_if_eq (tgt := 43) hx hb (nT (by decide)) dX11_readVault_32 (by decide) (fun c_61 => ?_) (fun c_61 => by omega)
        refine lv_iconst (v := nI 0) hx hb dX11_readVault_43 (by decide) ?_
        refine hret _ _ _ _ _ _ _ _ dX11_readVault_44 hS hw (Nat.zero_le _) (Nat.zero_le _) (by decide) ?_
        have hstk1 := (⟨fun h1 => hno_9 h1 (by omega), fun _ => by rw [h6_9]; decide⟩ : stuck C e1 t2_9 P2_9)
        exact ⟨t2_9, P2_9, (hq_9).trans (prun_end (by omega) hstk1.1), Or.inr ⟨rfl, fun q => hstk1.2 q.1 q.2, by omega, (upd (upd (upd f 13 (nI t2_9)) 14 (nI (P2_9 0 0))) 15 (nI 0)), g2_9, rfl⟩⟩
    · refine W.eq (g2 := F0 m 15 ls [.int (nI 0)]) rfl ?_
      have hw : wdH D z (mw ka h a N C (upd (upd f 13 (nI t2_9)) 14 (nI (P2_9 0 0))) g2_9 ++ R) H := hw
      refine i_if_ne (tgt := 20) hx hb (nT (by decide)) dX11_readVault_15 (by decide) (fun c_62 => by omega) (fun c_62 => ?_)
      refine lv_iconst (v := nI 0) hx hb dX11_readVault_18 (by decide) ?_
      refine hret _ _ _ _ _ _ _ _ dX11_readVault_19 hS hw (Nat.zero_le _) (Nat.zero_le _) (by decide) ?_
      have hstk1 := hstk
      exact ⟨t2_9, P2_9, (hq_9).trans (prun_end (by omega) hstk1.1), Or.inr ⟨rfl, fun q => hstk1.2 q.1 q.2, by omega, (upd (upd f 13 (nI t2_9)) 14 (nI (P2_9 0 0))), g2_9, rfl⟩⟩
  · rw [if_neg cd_5] at hrt_4
    obtain ⟨q1, q2⟩ := Prod.mk.inj hrt_4
    subst q1
    subst t_3
    refine W.eq (g2 := F0 m 7 ls [.int (nI 0)]) rfl ?_
    have hw : wdH D z (mw ka h a N C (upd f 13 (nI t)) g ++ R) H := hw
    refine i_if_eq (tgt := 18) hx hb (nT (by decide)) dX11_readVault_7 (by decide) (fun c_63 => ?_) (fun c_63 => by omega)
    refine lv_iconst (v := nI 0) hx hb dX11_readVault_18 (by decide) ?_
    refine hret _ _ _ _ _ _ _ _ dX11_readVault_19 hS hw (Nat.zero_le _) (Nat.zero_le _) (by decide) ?_
    have hstk1 := (⟨fun h1 => pst0n rfl (by omega), fun _ => (show (0 : Nat) ≠ 8 by decide)⟩ : stuck C e1 t P0)
    exact ⟨t, P0, (rfl).trans (prun_end (by omega) hstk1.1), Or.inr ⟨rfl, fun q => hstk1.2 q.1 q.2, by omega, (upd f 13 (nI t)), g, rfl⟩⟩
set_option maxRecDepth 100000 in
set_option maxHeartbeats 4000000 in
theorem c_X11_vault (l : Launch) (D : va_G) (ka : Nat → ClassId) (z : Nat) (h : Nat) (a : Nat → Nat) (N : Nat → Nat → Nat) (C : Nat → Nat → Int32) (f : Nat → Int32) (g : Nat → Nat → Int32) (R : va_W) (k q i n : Int32) (K9 Q9 I9 M9 : Int) (hk : k.toInt = K9) (hq : q.toInt = Q9) (hi : i.toInt = I9) (hn : n.toInt = M9) (hN : WF N) : MU l D ka z yX11_vault cX11_vault 7 (some .int) 4 0 0 [.ref h, .int k, .int q, .int i, .int n] (mw ka h a N C f g ++ R) (Qi D z (fun r w => ∃ f' g' N' C', w = mw ka h a N' C' f' g' ++ R ∧ (r, N', C') = sp_vault N C K9 Q9 I9 M9)) := by
  refine MU.ofI (by decide) (Nat.le_of_ble_eq_true rfl) ?_
  intro p e s m args below meth c Q X hw hS hret ls hl
  obtain ⟨hx, hb, hml, hown, hts, hE⟩ := id X
  have hK := hE.1
  have hz0 := hw.1
  have hl : lv_has ls 7 [(0, .ref h), (1, .int k), (2, .int q), (3, .int i), (4, .int n)] := hl
  have hN1 := hN.1
  refine lv_aload_n hx hb dX11_vault_0 rfl (lv_at hl 0 rfl) ?_
  refine lv_iconst (v := nI 0) hx hb dX11_vault_1 (by decide) ?_
  refine va_put (D := D) (ci := 11) (ty := .int) (C := RX11) (T := TX11) (N := 35) hx hb hts inX11 tyX11 tyX11_ok nmX11 hown hK hw.2.1 hw.2.2 hS 0 rfl rfl 0 (by decide) (hts _ wd_674) (fun _ h9 => h9) rfl (by decide +kernel) rfl rfl (Nat.le_of_ble_eq_true rfl) dX11_vault_2 (fun H locs hP hD hS => ?_)
  have hw : wdH D z (mw ka h a (up N 0 4 0) C f g ++ R) H := ⟨Nat.le_trans hz0 hS.1, hP, hD⟩
  refine lv_iload_n hx hb dX11_vault_5 rfl (lv_at hl 1 rfl) ?_
  refine vp_callSi (ro_runS (c_X11_isSheet l D ka k _ hk) X wd_786 wd_784 wd_785 wd_8 on_X11_isSheet ⟨Nat.le_of_ble_eq_true rfl, Nat.le_of_ble_eq_true rfl⟩ trivial hl.1 rfl (Nat.le_of_ble_eq_true rfl) ⟨(Nat.zero_le _), (Nat.zero_le _)⟩ dX11_vault_6) (fun r_1 hr_1 => ?_)
  subst hr_1
  refine b_if_ne (tgt := 14) hx hb dX11_vault_9 (by decide) (fun c_2 => ?_) (fun c_2 => ?_)
  · refine lv_iload_n hx hb dX11_vault_14 rfl (lv_at hl 2 rfl) ?_
    refine vp_callSi (ro_runS (c_X11_isSort l D ka q _ hq) X wd_792 wd_790 wd_791 wd_8 on_X11_isSort ⟨Nat.le_of_ble_eq_true rfl, Nat.le_of_ble_eq_true rfl⟩ trivial hl.1 rfl (Nat.le_of_ble_eq_true rfl) ⟨(Nat.zero_le _), (Nat.zero_le _)⟩ dX11_vault_15) (fun r_3 hr_3 => ?_)
    subst hr_3
    refine b_if_ne (tgt := 24) hx hb dX11_vault_18 (by decide) (fun c_4 => ?_) (fun c_4 => ?_)
    · obtain ⟨k1, hlt_k1, rfl, rfl⟩ := nat_ofK (n := 4) hk (by omega) (by omega)
      obtain ⟨q1, hlt_q1, rfl, rfl⟩ := nat_ofK (n := 3) hq (by omega) (by omega)
      refine lv_aload_n hx hb dX11_vault_24 rfl (lv_at hl 0 rfl) ?_
      refine lv_iload_n hx hb dX11_vault_25 rfl (lv_at hl 1 rfl) ?_
      refine lv_iload_n hx hb dX11_vault_26 rfl (lv_at hl 2 rfl) ?_
      refine lv_iload_n hx hb dX11_vault_27 rfl (lv_at hl 3 rfl) ?_
      refine lv_iload hx hb dX11_vault_28 (lv_at hl 4 rfl) ?_
      refine vp_callSi (ro_runV (c_X11_against l D ka h a (up N 0 4 0) C f g R k1 q1 i n _ _ hi hn (by omega) (by omega) (WF.up04 (v := 0) hN (by omega))) X wd_796 wd_793 wd_795 ws_2 wd_8 on_X11_against ⟨Nat.le_of_ble_eq_true rfl, Nat.le_of_ble_eq_true rfl⟩ (va_recv hK hw.2.1 (ci := 11) (q0 := 0) rfl rfl) hw.2.1 hl.1 rfl (Nat.le_of_ble_eq_true rfl) ⟨(Nat.zero_le _), (Nat.zero_le _)⟩ dX11_vault_30) (fun r_5 hr_5 => ?_)
      subst hr_5
      refine lv_istore (lv' := [(5, .int (nI (agst (up N 0 4 0) k1 q1 I9 M9))), (0, .ref h), (1, .int (nI k1)), (2, .int (nI q1)), (3, .int i), (4, .int n)]) hx hb dX11_vault_33 hl (by decide) rfl (fun ls hl => ?_)
      have hl : lv_has ls 7 [(5, .int (nI (agst N k1 q1 I9 M9))), (0, .ref h), (1, .int (nI k1)), (2, .int (nI q1)), (3, .int i), (4, .int n)] := hl
      have hag : agst N k1 q1 I9 M9 < 5 := agst_lt _ _ _ _ _
      have hl10 := hN.2.2.2.2.2.2.2.2.2.2 k1
      refine lv_iload hx hb dX11_vault_35 (lv_at hl 0 rfl) ?_
      refine i_if_eq (tgt := 47) hx hb (nT (by omega)) dX11_vault_37 (by decide) (fun c_6 => ?_) (fun c_6 => ?_)
      · obtain ⟨hi0, hi1, hi2, hi3⟩ := agst_0 (N := N) (k := k1) (q := q1) (I := I9) (n := M9) (by omega)
        obtain ⟨i1, hlt_i1, rfl, rfl⟩ := nat_ofK (n := N 10 k1 + 1) hi (by omega) (by omega)
        obtain ⟨n1, hlt_n1, rfl, rfl⟩ := nat_ofK (n := 61) hn (by omega) (by omega)
        refine lv_bipush (v := nI 60) hx hb dX11_vault_47 (by decide) ?_
        refine lv_iload_n hx hb dX11_vault_49 rfl (lv_at hl 2 rfl) ?_
        refine n_imul hx hb dX11_vault_50 ?_
        refine lv_iload_n hx hb dX11_vault_51 rfl (lv_at hl 4 rfl) ?_
        refine n_iadd hx hb dX11_vault_52 ?_
        refine lv_istore (lv' := [(6, .int (nI ((60 * k1) + i1))), (5, .int (nI (agst N k1 q1 ((i1 : Nat) : Int) ((n1 : Nat) : Int)))), (0, .ref h), (1, .int (nI k1)), (2, .int (nI q1)), (3, .int (nI i1)), (4, .int (nI n1))]) hx hb dX11_vault_53 hl (by decide) rfl (fun ls hl => ?_)
        refine lv_aload_n hx hb dX11_vault_55 rfl (lv_at hl 2 rfl) ?_
        refine lv_iload hx hb dX11_vault_56 (lv_at hl 0 rfl) ?_
        refine va_put (D := D) (ci := 11) (ty := .int) (C := RX11) (T := TX11) (N := 35) hx hb hts inX11 tyX11 tyX11_ok nmX11 hown hK hw.2.1 hw.2.2 hS 0 rfl rfl 13 (by decide) (hts _ wd_687) (fun _ h9 => h9) rfl (by decide +kernel) rfl rfl (Nat.le_of_ble_eq_true rfl) dX11_vault_58 (fun H locs hP hD hS => ?_)
        have hw : wdH D z (mw ka h a (up N 0 4 0) C (upd f 13 (nI ((60 * k1) + i1))) g ++ R) H := ⟨Nat.le_trans hz0 hS.1, hP, hD⟩
        refine lv_aload_n hx hb dX11_vault_61 rfl (lv_at hl 2 rfl) ?_
        refine lv_iload hx hb dX11_vault_62 (lv_at hl 0 rfl) ?_
        refine lv_iload hx hb dX11_vault_64 (lv_at hl 6 rfl) ?_
        refine n_iadd hx hb dX11_vault_66 ?_
        refine mu_i (mu_runV (c_X11_readVault l D ka z h a (up N 0 4 0) C f g R ((60 * k1) + i1) (((60 * k1) + i1) + n1) (by omega) (by omega)) X wd_804 wd_801 wd_803 ws_4 wd_8 on_X11_readVault ⟨Nat.le_of_ble_eq_true rfl, Nat.le_of_ble_eq_true rfl⟩ (va_recv hK hw.2.1 (ci := 11) (q0 := 0) rfl rfl) hw hl.1 rfl (Nat.le_of_ble_eq_true rfl) ⟨Nat.le_of_ble_eq_true rfl, Nat.le_of_ble_eq_true rfl⟩ dX11_vault_67) hS (fun r_8 u_7 H locs hp_u_7 hw hS => ?_)
        obtain ⟨t2, P2, hpr, hcase⟩ := hp_u_7
        rcases hcase with ⟨rfl, hte2, h6, h00, h01, h02, g2, hPG, hPT, hPD, rfl⟩ | ⟨rfl, hno, ht2, f2, g2, rfl⟩
        · refine W.eq (g2 := F0 m 70 ls [.int (nI 1)]) rfl ?_
          have hw : wdH D z (mw ka h a (up N 0 4 0) C (upd (upd (upd (upd f 13 (nI t2)) 14 (nI (P2 0 0))) 15 (nI (P2 0 1))) 16 (nI (P2 0 2))) g2 ++ R) H := hw
          refine i_if_ne (tgt := 84) hx hb (nT (by decide)) dX11_vault_70 (by decide) (fun c_9 => ?_) (fun c_9 => by omega)
          refine lv_aload_n hx hb dX11_vault_84 rfl (lv_at hl 2 rfl) ?_
          refine mu_v (mu_runV (c_X11_takeVault l D ka z h a (up N 0 4 0) C (upd f 13 (nI t2)) g2 R P2 h00.2 h01.2 h02 hPG hPT hPD) X wd_828 wd_825 wd_827 ws_10 wd_8 on_X11_takeVault ⟨Nat.le_of_ble_eq_true rfl, Nat.le_of_ble_eq_true rfl⟩ (va_recv hK hw.2.1 (ci := 11) (q0 := 0) rfl rfl) hw hl.1 rfl (Nat.le_of_ble_eq_true rfl) ⟨Nat.le_of_ble_eq_true rfl, Nat.le_of_ble_eq_true rfl⟩ dX11_vault_85) hS (fun u_10 H locs hp_u_10 hw hS => ?_)
          obtain ⟨f3, rfl⟩ := hp_u_10
          refine lv_aload_n hx hb dX11_vault_88 rfl (lv_at hl 2 rfl) ?_
          refine va_get (D := D) (ci := 11) (v := .int (nI (P2 0 1))) (C := RX11) (T := TX11) (N := 35) hx hb hts inX11 hown hK hw.2.1 0 rfl rfl 6 (by decide) (hts _ wd_680) (fun _ h9 => h9) rfl dX11_vault_89 ?_
          refine hret _ _ _ _ _ _ _ _ dX11_vault_92 hS hw (Nat.zero_le _) (Nat.zero_le _) ?_
          refine ⟨f3, g2, (nvt (up N 0 4 0) P2), C, rfl, ?_⟩
          rw [show 60 * k1 + i1 + n1 - (60 * k1 + i1) = n1 by omega] at hpr
          rw [sp_vault_ok (by omega) (by omega) (by omega) hpr]
          rw [if_pos ⟨hte2, h6⟩]
        · refine W.eq (g2 := F0 m 70 ls [.int (nI 0)]) rfl ?_
          have hw : wdH D z (mw ka h a (up N 0 4 0) C (upd f2 13 (nI t2)) g2 ++ R) H := hw
          refine i_if_ne (tgt := 84) hx hb (nT (by decide)) dX11_vault_70 (by decide) (fun c_11 => by omega) (fun c_11 => ?_)
          refine lv_bipush (v := (-100)) hx hb dX11_vault_73 (by decide) ?_
          refine lv_aload_n hx hb dX11_vault_75 rfl (lv_at hl 2 rfl) ?_
          refine va_get (D := D) (ci := 11) (v := .int (nI t2)) (C := RX11) (T := TX11) (N := 35) hx hb hts inX11 hown hK hw.2.1 0 rfl rfl 13 (by decide) (hts _ wd_687) (fun _ h9 => h9) rfl dX11_vault_76 ?_
          refine lv_iload hx hb dX11_vault_79 (lv_at hl 0 rfl) ?_
          refine n_isub hx hb (by omega) dX11_vault_81 ?_
          refine lv_isub hx hb dX11_vault_82 ?_
          refine hret _ _ _ _ _ _ _ _ dX11_vault_83 hS hw (Nat.zero_le _) (Nat.zero_le _) ?_
          refine ⟨(upd f2 13 (nI t2)), g2, (up N 0 4 0), C, rfl, ?_⟩
          rw [show 60 * k1 + i1 + n1 - (60 * k1 + i1) = n1 by omega] at hpr
          rw [sp_vault_ok (by omega) (by omega) (by omega) hpr]
          rw [if_neg hno]
      · refine lv_aload_n hx hb dX11_vault_40 rfl (lv_at hl 1 rfl) ?_
        refine lv_iload hx hb dX11_vault_41 (lv_at hl 0 rfl) ?_
        refine mu_i (mu_runV (c_X11_fails l D ka z h a (up N 0 4 0) C f g R (agst N k1 q1 I9 M9) (by omega) (WF.up04 (v := 0) hN (by omega))) X wd_800 wd_797 wd_799 ws_3 wd_8 on_X11_fails ⟨Nat.le_of_ble_eq_true rfl, Nat.le_of_ble_eq_true rfl⟩ (va_recv hK hw.2.1 (ci := 11) (q0 := 0) rfl rfl) hw hl.1 rfl (Nat.le_of_ble_eq_true rfl) ⟨Nat.le_of_ble_eq_true rfl, Nat.le_of_ble_eq_true rfl⟩ dX11_vault_43) hS (fun r_13 u_12 H locs hp_u_12 hw hS => ?_)
        obtain ⟨rfl, rfl⟩ := hp_u_12
        refine hret _ _ _ _ _ _ _ _ dX11_vault_46 hS hw (Nat.zero_le _) (Nat.zero_le _) ?_
        refine ⟨f, g, (up (up N 0 4 0) 0 4 (agst N k1 q1 I9 M9)), C, rfl, ?_⟩
        unfold sp_vault
        rw [if_pos (by omega), if_pos (by omega)]
        rw [if_neg (show ¬ agst N (k1 : Int).toNat (q1 : Int).toNat I9 M9 = 0 from (show ¬ agst N k1 q1 I9 M9 = 0 by omega))]
        rfl
    · refine lv_bipush (v := (-2)) hx hb dX11_vault_21 (by decide) ?_
      refine hret _ _ _ _ _ _ _ _ dX11_vault_23 hS hw (Nat.zero_le _) (Nat.zero_le _) ?_
      refine ⟨f, g, (up N 0 4 0), C, rfl, ?_⟩
      unfold sp_vault
      rw [if_pos (by omega), if_neg (by omega)]
  · refine lv_iconst (v := (-1)) hx hb dX11_vault_12 (by decide) ?_
    refine hret _ _ _ _ _ _ _ _ dX11_vault_13 hS hw (Nat.zero_le _) (Nat.zero_le _) ?_
    refine ⟨f, g, (up N 0 4 0), C, rfl, ?_⟩
    unfold sp_vault
    rw [if_neg (by omega)]
