set_option maxRecDepth 100000 in
set_option maxHeartbeats 8000000 in
theorem c_X11_goNight (l : Launch) (D : va_G) (ka : Nat → ClassId) (z : Nat) (h : Nat) (a : Nat → Nat) (N : Nat → Nat → Nat) (C : Nat → Nat → Int32) (f : Nat → Int32) (g : Nat → Nat → Int32) (R : va_W) (b1 n1 : Nat) (Aq Mq : Nat → Nat) (hb1 : b1 + 2 * n1 ≤ 240) (hn1 : n1 ≤ 20) (hA : ∀ p, p < n1 → C ((b1 + 2 * p) / 60) ((b1 + 2 * p) % 60) = nI (Aq p) ∧ Aq p < N 0 1) (hM : ∀ p, p < n1 → C ((b1 + 2 * p + 1) / 60) ((b1 + 2 * p + 1) % 60) = nI (Mq p) ∧ Mq p < 60) (hp : 0 < N 0 0) (hN : WF N) : MU l D ka z yX11_goNight cX11_goNight 8 (some .int) 2 0 0 [.ref h, .int (nI b1), .int (nI n1)] (mw ka h a N C f g ++ R) (Qi D z (fun r w => ∃ f2 g2, w = mw ka h a N C f2 g2 ++ R ∧ r = fno (fw (wrg Aq Mq (fun p => hld N (Aq p) (Mq p) 1)) n1) ∧ (fw (wrg Aq Mq (fun p => hld N (Aq p) (Mq p) 1)) n1 = none → f2 23 = nI (smA (fun p => hld N (Aq p) (Mq p) 1) n1) ∧ f2 24 = lat Mq (fun p => hld N (Aq p) (Mq p) 1) n1 ∧ (∀ a, a < 5 → g2 26 a = nI (smI Aq (fun p => hld N (Aq p) (Mq p) 1) a n1)) ∧ ∀ t, t < 100 → g2 27 t = nI (ins Mq (fun p => hld N (Aq p) (Mq p) 1) t n1)))) := by
  refine MU.ofI (by decide) (Nat.le_of_ble_eq_true rfl) ?_
  intro p e s m args below meth c Q X hw hS hret ls hl
  obtain ⟨hx, hb, hml, hown, hts, hE⟩ := id X
  have hK := hE.1
  have hz0 := hw.1
  have hl : lv_has ls 8 [(0, .ref h), (1, .int (nI b1)), (2, .int (nI n1))] := hl
  have hN1 := hN.1
  refine lv_aload_n hx hb dX11_goNight_0 rfl (lv_at hl 0 rfl) ?_
  refine lv_iconst (v := nI 0) hx hb dX11_goNight_1 (by decide) ?_
  refine va_put (D := D) (ci := 11) (ty := .int) (C := RX11) (T := TX11) (N := 35) hx hb hts inX11 tyX11 tyX11_ok nmX11 hown hK hw.2.1 hw.2.2 hS 0 rfl rfl 23 (by decide) (hts _ wd_697) (fun _ h9 => h9) rfl (by decide +kernel) rfl rfl (Nat.le_of_ble_eq_true rfl) dX11_goNight_2 (fun H locs hP hD hS => ?_)
  have hw : wdH D z (mw ka h a N C (upd f 23 (nI 0)) g ++ R) H := ⟨Nat.le_trans hz0 hS.1, hP, hD⟩
  refine lv_aload_n hx hb dX11_goNight_5 rfl (lv_at hl 0 rfl) ?_
  refine lv_bipush (v := (-9)) hx hb dX11_goNight_6 (by decide) ?_
  refine va_put (D := D) (ci := 11) (ty := .int) (C := RX11) (T := TX11) (N := 35) hx hb hts inX11 tyX11 tyX11_ok nmX11 hown hK hw.2.1 hw.2.2 hS 0 rfl rfl 24 (by decide) (hts _ wd_698) (fun _ h9 => h9) rfl (by decide +kernel) rfl rfl (Nat.le_of_ble_eq_true rfl) dX11_goNight_8 (fun H locs hP hD hS => ?_)
  have hw : wdH D z (mw ka h a N C (upd (upd f 23 (nI 0)) 24 (-9)) g ++ R) H := ⟨Nat.le_trans hz0 hS.1, hP, hD⟩
  refine lv_iconst (v := nI 0) hx hb dX11_goNight_11 (by decide) ?_
  refine lv_istore_n (lv' := [(3, .int (nI 0)), (0, .ref h), (1, .int (nI b1)), (2, .int (nI n1))]) hx hb dX11_goNight_12 rfl hl (by decide) rfl (fun ls hl => ?_)
  have loop13 : ∀ (fuel13 : Nat) (jq : Nat) (g1 : Nat → Nat → Int32), 5 - jq < fuel13 → (jq ≤ 5) → (∀ a, a < jq → g1 25 a = nI 0 ∧ g1 26 a = nI 0) → ∀ (H : Heap) (locs : List Loc), wdH D z (mw ka h a N C (upd (upd f 23 (nI 0)) 24 (-9)) g1 ++ R) H → va_S (fun q => z ≤ q) s.heap H locs → ∀ ls : Array Slot, lv_has ls 8 [(0, .ref h), (1, .int (nI b1)), (2, .int (nI n1)), (3, .int (nI jq))] → W p l e (rmz 2 0 0) s m args below meth c H locs 0 0 Q (F0 m 13 ls []) := by
    intro fuel13
    induction fuel13 with
    | zero => intro jq g1 hfu; exact absurd hfu (Nat.not_lt_zero _)
    | succ fuel13 ih13 =>
      intro jq g1 hfu hj5 hz5 H locs hw hS ls hl
      refine lv_iload_n hx hb dX11_goNight_13 rfl (lv_at hl 3 rfl) ?_
      refine lv_iconst (v := nI 5) hx hb dX11_goNight_14 (by decide) ?_
      refine i_icmp_ge (tgt := 38) hx hb (nT (by omega)) (nT (by decide)) dX11_goNight_15 (by decide) (fun c_1 => ?_) (fun c_1 => ?_)
      · refine lv_iconst (v := nI 0) hx hb dX11_goNight_38 (by decide) ?_
        refine lv_istore_n (lv' := [(3, .int (nI 0)), (0, .ref h), (1, .int (nI b1)), (2, .int (nI n1))]) hx hb dX11_goNight_39 rfl hl (by decide) rfl (fun ls hl => ?_)
        have loop40 : ∀ (fuel40 : Nat) (jq : Nat) (g1 : Nat → Nat → Int32), 100 - jq < fuel40 → (jq ≤ 100) → (∀ a, a < 5 → g1 25 a = nI 0 ∧ g1 26 a = nI 0) → (∀ a, a < jq → g1 27 a = nI 0) → ∀ (H : Heap) (locs : List Loc), wdH D z (mw ka h a N C (upd (upd f 23 (nI 0)) 24 (-9)) g1 ++ R) H → va_S (fun q => z ≤ q) s.heap H locs → ∀ ls : Array Slot, lv_has ls 8 [(0, .ref h), (1, .int (nI b1)), (2, .int (nI n1)), (3, .int (nI jq))] → W p l e (rmz 2 0 0) s m args below meth c H locs 0 0 Q (F0 m 40 ls []) := by
          intro fuel40
          induction fuel40 with
          | zero => intro jq g1 hfu; exact absurd hfu (Nat.not_lt_zero _)
          | succ fuel40 ih40 =>
            intro jq g1 hfu hj5 hz5 hz27 H locs hw hS ls hl
            refine lv_iload_n hx hb dX11_goNight_40 rfl (lv_at hl 3 rfl) ?_
            refine lv_bipush (v := nI 99) hx hb dX11_goNight_41 (by decide) ?_
            refine i_icmp_gt (tgt := 59) hx hb (nT (by omega)) (nT (by decide)) dX11_goNight_43 (by decide) (fun c_2 => ?_) (fun c_2 => ?_)
            · refine lv_iconst (v := nI 0) hx hb dX11_goNight_59 (by decide) ?_
              refine lv_istore_n (lv' := [(3, .int (nI 0)), (0, .ref h), (1, .int (nI b1)), (2, .int (nI n1))]) hx hb dX11_goNight_60 rfl hl (by decide) rfl (fun ls hl => ?_)
              have loop61 : ∀ (fuel61 : Nat) (kq : Nat) (g1 : Nat → Nat → Int32), n1 - kq < fuel61 → (kq ≤ n1) → (fw (wrg Aq Mq (fun p => hld N (Aq p) (Mq p) 1)) kq = none) → (∀ a, a < 5 → g1 25 a = nI (co Aq Mq (fun p => hld N (Aq p) (Mq p) 1) kq a)) → (∀ a, a < 5 → g1 26 a = nI (smI Aq (fun p => hld N (Aq p) (Mq p) 1) a kq)) → (∀ t, t < 100 → g1 27 t = nI (ins Mq (fun p => hld N (Aq p) (Mq p) 1) t kq)) → ∀ (H : Heap) (locs : List Loc), wdH D z (mw ka h a N C (upd (upd f 23 (nI (smA (fun p => hld N (Aq p) (Mq p) 1) kq))) 24 (lat Mq (fun p => hld N (Aq p) (Mq p) 1) kq)) g1 ++ R) H → va_S (fun q => z ≤ q) s.heap H locs → ∀ ls : Array Slot, lv_has ls 8 [(0, .ref h), (1, .int (nI b1)), (2, .int (nI n1)), (3, .int (nI kq))] → W p l e (rmz 2 0 0) s m args below meth c H locs 0 0 Q (F0 m 61 ls []) := by
                intro fuel61
                induction fuel61 with
                | zero => intro kq g1 hfu; exact absurd hfu (Nat.not_lt_zero _)
                | succ fuel61 ih61 =>
                  intro kq g1 hfu hkn hfw hco hhs hin H locs hw hS ls hl
                  have hEb : ∀ q, q < kq → Mq q + (fun p => hld N (Aq p) (Mq p) 1) q ≤ 99 := fun q hq => by have h1 := (hM q (by omega)).2; have h2 := hld_le N (Aq q) (Mq q) 1; show Mq q + hld N (Aq q) (Mq q) 1 ≤ 99; omega
                  have hmx := mxE_le (f := fun p => Mq p + (fun p => hld N (Aq p) (Mq p) 1) p) hEb
                  have hsm := smA_le (H := (fun p => hld N (Aq p) (Mq p) 1)) (b := 40) (fun p => hld_le N (Aq p) (Mq p) 1) kq
                  refine lv_iload_n hx hb dX11_goNight_61 rfl (lv_at hl 3 rfl) ?_
                  refine lv_iload_n hx hb dX11_goNight_62 rfl (lv_at hl 2 rfl) ?_
                  refine i_icmp_ge (tgt := 242) hx hb (nT (by omega)) (nT (by omega)) dX11_goNight_63 (by decide) (fun c_3 => ?_) (fun c_3 => ?_)
                  · refine lv_bipush (v := (-9)) hx hb dX11_goNight_242 (by decide) ?_
                    refine hret _ _ _ _ _ _ _ _ dX11_goNight_244 hS hw (Nat.zero_le _) (Nat.zero_le _) ?_
                    have hkk : kq = n1 := by omega
                    subst hkk
                    exact ⟨_, _, rfl, by rw [hfw]; rfl, fun _ => ⟨rfl, rfl, hhs, hin⟩⟩
                  · refine lv_aload_n hx hb dX11_goNight_66 rfl (lv_at hl 0 rfl) ?_
                    refine va_get (D := D) (ci := 11) (v := .ref (a 4)) (C := RX11) (T := TX11) (N := 35) hx hb hts inX11 hown hK hw.2.1 0 rfl rfl 4 (by decide) (hts _ wd_678) (fun _ h9 => h9) rfl dX11_goNight_67 ?_
                    refine lv_iload_n hx hb dX11_goNight_70 rfl (lv_at hl 1 rfl) ?_
                    refine lv_iconst (v := nI 2) hx hb dX11_goNight_71 (by decide) ?_
                    refine lv_iload_n hx hb dX11_goNight_72 rfl (lv_at hl 3 rfl) ?_
                    refine n_imul hx hb dX11_goNight_73 ?_
                    refine n_iadd hx hb dX11_goNight_74 ?_
                    refine n_iald hx hb hK hw.2.1 3 0 rfl rfl (k := b1 + (2 * kq)) (by omega) (by decide) dX11_goNight_75 ?_
                    obtain ⟨hAe, hAk⟩ := hA kq (by omega)
                    rw [hAe]
                    refine lv_istore (lv' := [(4, .int (nI (Aq kq))), (0, .ref h), (1, .int (nI b1)), (2, .int (nI n1)), (3, .int (nI kq))]) hx hb dX11_goNight_76 hl (by decide) rfl (fun ls hl => ?_)
                    refine lv_aload_n hx hb dX11_goNight_78 rfl (lv_at hl 1 rfl) ?_
                    refine va_get (D := D) (ci := 11) (v := .ref (a 4)) (C := RX11) (T := TX11) (N := 35) hx hb hts inX11 hown hK hw.2.1 0 rfl rfl 4 (by decide) (hts _ wd_678) (fun _ h9 => h9) rfl dX11_goNight_79 ?_
                    refine lv_iload_n hx hb dX11_goNight_82 rfl (lv_at hl 2 rfl) ?_
                    refine lv_iconst (v := nI 2) hx hb dX11_goNight_83 (by decide) ?_
                    refine lv_iload_n hx hb dX11_goNight_84 rfl (lv_at hl 4 rfl) ?_
                    refine n_imul hx hb dX11_goNight_85 ?_
                    refine n_iadd hx hb dX11_goNight_86 ?_
                    refine lv_iconst (v := nI 1) hx hb dX11_goNight_87 (by decide) ?_
                    refine n_iadd hx hb dX11_goNight_88 ?_
                    refine n_iald hx hb hK hw.2.1 3 0 rfl rfl (k := (b1 + (2 * kq)) + 1) (by omega) (by decide) dX11_goNight_89 ?_
                    obtain ⟨hMe, hMk⟩ := hM kq (by omega)
                    rw [hMe]
                    refine lv_istore (lv' := [(5, .int (nI (Mq kq))), (4, .int (nI (Aq kq))), (0, .ref h), (1, .int (nI b1)), (2, .int (nI n1)), (3, .int (nI kq))]) hx hb dX11_goNight_90 hl (by decide) rfl (fun ls hl => ?_)
                    refine lv_iload_n hx hb dX11_goNight_92 rfl (lv_at hl 5 rfl) ?_
                    refine i_if_le (tgt := 113) hx hb (nT (by omega)) dX11_goNight_93 (by decide) (fun c_4 => ?_) (fun c_4 => ?_)
                    · refine lv_iload hx hb dX11_goNight_113 (lv_at hl 0 rfl) ?_
                      refine lv_aload_n hx hb dX11_goNight_115 rfl (lv_at hl 2 rfl) ?_
                      refine va_get (D := D) (ci := 11) (v := .ref (a 25)) (C := RX11) (T := TX11) (N := 35) hx hb hts inX11 hown hK hw.2.1 0 rfl rfl 25 (by decide) (hts _ wd_699) (fun _ h9 => h9) rfl dX11_goNight_116 ?_
                      refine lv_iload hx hb dX11_goNight_119 (lv_at hl 1 rfl) ?_
                      refine n_iald hx hb hK hw.2.1 14 0 rfl rfl (k := Aq kq) (by omega) (by decide) dX11_goNight_121 ?_
                      have hcb : co Aq Mq (fun p => hld N (Aq p) (Mq p) 1) kq (Aq kq) ≤ 99 := co_le hEb
                      rw [hco (Aq kq) (by omega)]
                      refine i_icmp_ge (tgt := 127) hx hb (nT (by omega)) (nT (by omega)) dX11_goNight_122 (by decide) (fun c_5 => ?_) (fun c_5 => ?_)
                      · have hwf : wrg Aq Mq (fun p => hld N (Aq p) (Mq p) 1) kq = false := by
                          unfold wrg
                          rw [Bool.or_eq_false_iff]
                          exact ⟨by simp; omega, Bool.eq_false_iff.mpr (fun q => absurd ((co_lt hfw).mpr q) (by omega))⟩
                        refine lv_aload_n hx hb dX11_goNight_127 rfl (lv_at hl 2 rfl) ?_
                        refine lv_iload hx hb dX11_goNight_128 (lv_at hl 1 rfl) ?_
                        refine lv_iload hx hb dX11_goNight_130 (lv_at hl 0 rfl) ?_
                        refine lv_iconst (v := nI 1) hx hb dX11_goNight_132 (by decide) ?_
                        refine vp_callSi (ro_runV (c_X11_holdsBy l D ka h a N C (upd (upd f 23 (nI (smA (fun p => hld N (Aq p) (Mq p) 1) kq))) 24 (lat Mq (fun p => hld N (Aq p) (Mq p) 1) kq)) g1 R (Aq kq) (Mq kq) 1 (by omega) (by omega) (by omega) (show 0 < N 0 0 by omega) hN) X wd_879 wd_876 wd_878 ws_14 wd_8 on_X11_holdsBy ⟨Nat.le_of_ble_eq_true rfl, Nat.le_of_ble_eq_true rfl⟩ (va_recv hK hw.2.1 (ci := 11) (q0 := 0) rfl rfl) hw.2.1 hl.1 rfl (Nat.le_of_ble_eq_true rfl) ⟨(Nat.zero_le _), (Nat.zero_le _)⟩ dX11_goNight_133) (fun r_7 hr_7 => ?_)
                        subst hr_7
                        have hd_6 := hld_le N (Aq kq) (Mq kq) 1
                        refine lv_istore (lv' := [(6, .int (nI (hld N (Aq kq) (Mq kq) 1))), (5, .int (nI (Mq kq))), (4, .int (nI (Aq kq))), (0, .ref h), (1, .int (nI b1)), (2, .int (nI n1)), (3, .int (nI kq))]) hx hb dX11_goNight_136 hl (by decide) rfl (fun ls hl => ?_)
                        refine lv_aload_n hx hb dX11_goNight_138 rfl (lv_at hl 3 rfl) ?_
                        refine va_get (D := D) (ci := 11) (v := .ref (a 25)) (C := RX11) (T := TX11) (N := 35) hx hb hts inX11 hown hK hw.2.1 0 rfl rfl 25 (by decide) (hts _ wd_699) (fun _ h9 => h9) rfl dX11_goNight_139 ?_
                        refine lv_iload hx hb dX11_goNight_142 (lv_at hl 2 rfl) ?_
                        refine lv_iload hx hb dX11_goNight_144 (lv_at hl 1 rfl) ?_
                        refine lv_iload hx hb dX11_goNight_146 (lv_at hl 0 rfl) ?_
                        refine n_iadd hx hb dX11_goNight_148 ?_
                        refine r_iast hx hb hK hw.2.1 hw.2.2 hS 14 0 rfl rfl (k := Aq kq) (by omega) (by decide) dX11_goNight_149 (fun H locs hP hD hS => ?_)
                        have hw : wdH D z (mw ka h a N C (upd (upd f 23 (nI (smA (fun p => hld N (Aq p) (Mq p) 1) kq))) 24 (lat Mq (fun p => hld N (Aq p) (Mq p) 1) kq)) (va_up g1 25 (upd (g1 25) (Aq kq) (nI ((Mq kq) + (hld N (Aq kq) (Mq kq) 1))))) ++ R) H := ⟨Nat.le_trans hz0 hS.1, hP, hD⟩
                        refine lv_aload_n hx hb dX11_goNight_150 rfl (lv_at hl 3 rfl) ?_
                        refine va_get (D := D) (ci := 11) (v := .ref (a 26)) (C := RX11) (T := TX11) (N := 35) hx hb hts inX11 hown hK hw.2.1 0 rfl rfl 26 (by decide) (hts _ wd_700) (fun _ h9 => h9) rfl dX11_goNight_151 ?_
                        refine lv_iload hx hb dX11_goNight_154 (lv_at hl 2 rfl) ?_
                        refine lv_dup2_11 hx hb dX11_goNight_156 rfl rfl ?_
                        refine n_iald hx hb hK hw.2.1 15 0 rfl rfl (k := Aq kq) (by omega) (by decide) dX11_goNight_157 ?_
                        refine W.eq (g2 := F0 m 158 ls [.int (g1 26 (Aq kq)), .int (nI (Aq kq)), .ref (a 26)]) rfl ?_
                        have hsi := smI_le (A := Aq) (H := (fun p => hld N (Aq p) (Mq p) 1)) (b := 40) (fun p => hld_le N (Aq p) (Mq p) 1) (Aq kq) kq
                        rw [hhs (Aq kq) (by omega)]
                        refine lv_iload hx hb dX11_goNight_158 (lv_at hl 0 rfl) ?_
                        refine n_iadd hx hb dX11_goNight_160 ?_
                        refine r_iast hx hb hK hw.2.1 hw.2.2 hS 15 0 rfl rfl (k := Aq kq) (by omega) (by decide) dX11_goNight_161 (fun H locs hP hD hS => ?_)
                        have hw : wdH D z (mw ka h a N C (upd (upd f 23 (nI (smA (fun p => hld N (Aq p) (Mq p) 1) kq))) 24 (lat Mq (fun p => hld N (Aq p) (Mq p) 1) kq)) (va_up (va_up g1 25 (upd (g1 25) (Aq kq) (nI ((Mq kq) + (hld N (Aq kq) (Mq kq) 1))))) 26 (upd (g1 26) (Aq kq) (nI ((smI Aq (fun p => hld N (Aq p) (Mq p) 1) (Aq kq) kq) + (hld N (Aq kq) (Mq kq) 1))))) ++ R) H := ⟨Nat.le_trans hz0 hS.1, hP, hD⟩
                        refine lv_aload_n hx hb dX11_goNight_162 rfl (lv_at hl 3 rfl) ?_
                        refine lv_dup hx hb dX11_goNight_163 rfl ?_
                        refine va_get (D := D) (ci := 11) (v := .int (nI (smA (fun p => hld N (Aq p) (Mq p) 1) kq))) (C := RX11) (T := TX11) (N := 35) hx hb hts inX11 hown hK hw.2.1 0 rfl rfl 23 (by decide) (hts _ wd_697) (fun _ h9 => h9) rfl dX11_goNight_164 ?_
                        refine lv_iload hx hb dX11_goNight_167 (lv_at hl 0 rfl) ?_
                        refine n_iadd hx hb dX11_goNight_169 ?_
                        refine va_put (D := D) (ci := 11) (ty := .int) (C := RX11) (T := TX11) (N := 35) hx hb hts inX11 tyX11 tyX11_ok nmX11 hown hK hw.2.1 hw.2.2 hS 0 rfl rfl 23 (by decide) (hts _ wd_697) (fun _ h9 => h9) rfl (by decide +kernel) rfl rfl (Nat.le_of_ble_eq_true rfl) dX11_goNight_170 (fun H locs hP hD hS => ?_)
                        have hw : wdH D z (mw ka h a N C (upd (upd f 23 (nI ((smA (fun p => hld N (Aq p) (Mq p) 1) kq) + (hld N (Aq kq) (Mq kq) 1)))) 24 (lat Mq (fun p => hld N (Aq p) (Mq p) 1) kq)) (va_up (va_up g1 25 (upd (g1 25) (Aq kq) (nI ((Mq kq) + (hld N (Aq kq) (Mq kq) 1))))) 26 (upd (g1 26) (Aq kq) (nI ((smI Aq (fun p => hld N (Aq p) (Mq p) 1) (Aq kq) kq) + (hld N (Aq kq) (Mq kq) 1))))) ++ R) H := ⟨Nat.le_trans hz0 hS.1, hP, hD⟩
                        refine lv_aload_n hx hb dX11_goNight_173 rfl (lv_at hl 3 rfl) ?_
                        refine lv_aload_n hx hb dX11_goNight_174 rfl (lv_at hl 3 rfl) ?_
                        refine va_get (D := D) (ci := 11) (v := .ref (a 25)) (C := RX11) (T := TX11) (N := 35) hx hb hts inX11 hown hK hw.2.1 0 rfl rfl 25 (by decide) (hts _ wd_699) (fun _ h9 => h9) rfl dX11_goNight_175 ?_
                        refine lv_iload hx hb dX11_goNight_178 (lv_at hl 2 rfl) ?_
                        refine n_iald hx hb hK hw.2.1 14 0 rfl rfl (k := Aq kq) (by omega) (by decide) dX11_goNight_180 ?_
                        rw [show (va_up (va_up g1 25 (upd (g1 25) (Aq kq) (nI ((Mq kq) + (hld N (Aq kq) (Mq kq) 1))))) 26 (upd (g1 26) (Aq kq) (nI ((smI Aq (fun p => hld N (Aq p) (Mq p) 1) (Aq kq) kq) + (hld N (Aq kq) (Mq kq) 1))))) 25 (Aq kq) = nI ((Mq kq) + (hld N (Aq kq) (Mq kq) 1)) from pk_us]
                        refine W.eq (g2 := F0 m 181 ls [.int (nI ((Mq kq) + (hld N (Aq kq) (Mq kq) 1))), .ref h]) rfl ?_
                        refine lv_aload_n hx hb dX11_goNight_181 rfl (lv_at hl 3 rfl) ?_
                        refine va_get (D := D) (ci := 11) (v := .int (lat Mq (fun p => hld N (Aq p) (Mq p) 1) kq)) (C := RX11) (T := TX11) (N := 35) hx hb hts inX11 hown hK hw.2.1 0 rfl rfl 24 (by decide) (hts _ wd_698) (fun _ h9 => h9) rfl dX11_goNight_182 ?_
                        refine i_icmp_le (tgt := 198) hx hb (nT (by omega)) (lat_T (Nat.lt_of_le_of_lt hmx (by decide))) dX11_goNight_185 (by decide) (fun c_8 => ?_) (fun c_8 => ?_)
                        · refine lv_aload_n hx hb dX11_goNight_198 rfl (lv_at hl 3 rfl) ?_
                          refine va_get (D := D) (ci := 11) (v := .int (lat Mq (fun p => hld N (Aq p) (Mq p) 1) kq)) (C := RX11) (T := TX11) (N := 35) hx hb hts inX11 hown hK hw.2.1 0 rfl rfl 24 (by decide) (hts _ wd_698) (fun _ h9 => h9) rfl dX11_goNight_199 ?_
                          refine va_put (D := D) (ci := 11) (ty := .int) (C := RX11) (T := TX11) (N := 35) hx hb hts inX11 tyX11 tyX11_ok nmX11 hown hK hw.2.1 hw.2.2 hS 0 rfl rfl 24 (by decide) (hts _ wd_698) (fun _ h9 => h9) rfl (by decide +kernel) rfl rfl (Nat.le_of_ble_eq_true rfl) dX11_goNight_202 (fun H locs hP hD hS => ?_)
                          have hw : wdH D z (mw ka h a N C (upd (upd f 23 (nI ((smA (fun p => hld N (Aq p) (Mq p) 1) kq) + (hld N (Aq kq) (Mq kq) 1)))) 24 (lat Mq (fun p => hld N (Aq p) (Mq p) 1) kq)) (va_up (va_up g1 25 (upd (g1 25) (Aq kq) (nI ((Mq kq) + (hld N (Aq kq) (Mq kq) 1))))) 26 (upd (g1 26) (Aq kq) (nI ((smI Aq (fun p => hld N (Aq p) (Mq p) 1) (Aq kq) kq) + (hld N (Aq kq) (Mq kq) 1))))) ++ R) H := ⟨Nat.le_trans hz0 hS.1, hP, hD⟩
                          have hw : wdH D z (mw ka h a N C (upd (upd f 23 (nI (smA (fun p => hld N (Aq p) (Mq p) 1) (kq + 1)))) 24 (lat Mq (fun p => hld N (Aq p) (Mq p) 1) (kq + 1))) (va_up (va_up g1 25 (upd (g1 25) (Aq kq) (nI ((Mq kq) + (hld N (Aq kq) (Mq kq) 1))))) 26 (upd (g1 26) (Aq kq) (nI ((smI Aq (fun p => hld N (Aq p) (Mq p) 1) (Aq kq) kq) + (hld N (Aq kq) (Mq kq) 1))))) ++ R) H := by
                            rw [show lat Mq (fun p => hld N (Aq p) (Mq p) 1) (kq + 1) = lat Mq (fun p => hld N (Aq p) (Mq p) 1) kq from lat_keep (by omega)]
                            exact hw
                          refine lv_iload hx hb dX11_goNight_205 (lv_at hl 1 rfl) ?_
                          refine lv_istore (lv' := [(7, .int (nI (Mq kq))), (6, .int (nI (hld N (Aq kq) (Mq kq) 1))), (5, .int (nI (Mq kq))), (4, .int (nI (Aq kq))), (0, .ref h), (1, .int (nI b1)), (2, .int (nI n1)), (3, .int (nI kq))]) hx hb dX11_goNight_207 hl (by decide) rfl (fun ls hl => ?_)
                          have loop209 : ∀ (fuel209 : Nat) (tq : Nat) (g3 : Nat → Nat → Int32), Mq kq + hld N (Aq kq) (Mq kq) 1 - tq < fuel209 → (Mq kq ≤ tq ∧ tq ≤ Mq kq + hld N (Aq kq) (Mq kq) 1) → (g3 25 = upd (g1 25) (Aq kq) (nI (Mq kq + hld N (Aq kq) (Mq kq) 1))) → (g3 26 = upd (g1 26) (Aq kq) (nI (smI Aq (fun p => hld N (Aq p) (Mq p) 1) (Aq kq) kq + hld N (Aq kq) (Mq kq) 1))) → (∀ s, s < 100 → g3 27 s = nI (ins Mq (fun p => hld N (Aq p) (Mq p) 1) s kq + (if Mq kq ≤ s ∧ s < tq then 1 else 0))) → ∀ (H : Heap) (locs : List Loc), wdH D z (mw ka h a N C (upd (upd f 23 (nI (smA (fun p => hld N (Aq p) (Mq p) 1) (kq + 1)))) 24 (lat Mq (fun p => hld N (Aq p) (Mq p) 1) (kq + 1))) g3 ++ R) H → va_S (fun q => z ≤ q) s.heap H locs → ∀ ls : Array Slot, lv_has ls 8 [(0, .ref h), (1, .int (nI b1)), (2, .int (nI n1)), (3, .int (nI kq)), (4, .int (nI (Aq kq))), (5, .int (nI (Mq kq))), (6, .int (nI (hld N (Aq kq) (Mq kq) 1))), (7, .int (nI tq))] → W p l e (rmz 2 0 0) s m args below meth c H locs 0 0 Q (F0 m 209 ls []) := by
                            intro fuel209
                            induction fuel209 with
                            | zero => intro tq g3 hfu; exact absurd hfu (Nat.not_lt_zero _)
                            | succ fuel209 ih209 =>
                              intro tq g3 hfu htq hk25 hk26 hin2 H locs hw hS ls hl
                              refine lv_iload hx hb dX11_goNight_209 (lv_at hl 7 rfl) ?_
                              refine lv_iload hx hb dX11_goNight_211 (lv_at hl 5 rfl) ?_
                              refine lv_iload hx hb dX11_goNight_213 (lv_at hl 6 rfl) ?_
                              refine n_iadd hx hb dX11_goNight_215 ?_
                              refine i_icmp_ge (tgt := 236) hx hb (nT (by omega)) (nT (by omega)) dX11_goNight_216 (by decide) (fun c_9 => ?_) (fun c_9 => ?_)
                              · refine n_iinc (lv' := [(3, .int (nI (kq + 1))), (0, .ref h), (1, .int (nI b1)), (2, .int (nI n1)), (4, .int (nI (Aq kq))), (5, .int (nI (Mq kq))), (6, .int (nI (hld N (Aq kq) (Mq kq) 1))), (7, .int (nI tq))]) (k := 3) (d := 1) hx hb dX11_goNight_236 hl rfl rfl (by decide) rfl (fun ls hl => ?_)
                                refine lv_goto (tgt := 61) hx hb dX11_goNight_239 (by decide) ?_
                                exact ih61 (kq + 1) g3 (by omega) (by omega) (fw_f hfw hwf) (fun a ha => by rw [hk25]; exact co_upd ha hco) (fun a ha => by rw [hk26]; exact smI_upd ha hhs) (fun t ht => by rw [hin2 t ht, show tq = Mq kq + hld N (Aq kq) (Mq kq) 1 by omega]; rfl) _ _ hw hS ls (lv_sub hl [1, 2, 3, 0] rfl)
                              · refine lv_aload_n hx hb dX11_goNight_219 rfl (lv_at hl 0 rfl) ?_
                                refine va_get (D := D) (ci := 11) (v := .ref (a 27)) (C := RX11) (T := TX11) (N := 35) hx hb hts inX11 hown hK hw.2.1 0 rfl rfl 27 (by decide) (hts _ wd_701) (fun _ h9 => h9) rfl dX11_goNight_220 ?_
                                refine lv_iload hx hb dX11_goNight_223 (lv_at hl 7 rfl) ?_
                                refine lv_dup2_11 hx hb dX11_goNight_225 rfl rfl ?_
                                refine n_iald hx hb hK hw.2.1 16 0 rfl rfl (k := tq) (by omega) (by decide) dX11_goNight_226 ?_
                                rw [hin2 tq (by omega), if_neg (by omega)]
                                have hib := ins_le Mq (fun p => hld N (Aq p) (Mq p) 1) tq kq
                                refine lv_iconst (v := nI 1) hx hb dX11_goNight_227 (by decide) ?_
                                refine n_iadd hx hb dX11_goNight_228 ?_
                                refine r_iast hx hb hK hw.2.1 hw.2.2 hS 16 0 rfl rfl (k := tq) (by omega) (by decide) dX11_goNight_229 (fun H locs hP hD hS => ?_)
                                have hw : wdH D z (mw ka h a N C (upd (upd f 23 (nI (smA (fun p => hld N (Aq p) (Mq p) 1) (kq + 1)))) 24 (lat Mq (fun p => hld N (Aq p) (Mq p) 1) (kq + 1))) (va_up g3 27 (upd (g3 27) tq (nI ((ins Mq (fun p => hld N (Aq p) (Mq p) 1) tq kq + 0) + 1)))) ++ R) H := ⟨Nat.le_trans hz0 hS.1, hP, hD⟩
                                refine n_iinc (lv' := [(7, .int (nI (tq + 1))), (0, .ref h), (1, .int (nI b1)), (2, .int (nI n1)), (3, .int (nI kq)), (4, .int (nI (Aq kq))), (5, .int (nI (Mq kq))), (6, .int (nI (hld N (Aq kq) (Mq kq) 1)))]) (k := 7) (d := 1) hx hb dX11_goNight_230 hl rfl rfl (by decide) rfl (fun ls hl => ?_)
                                refine lv_goto (tgt := 209) hx hb dX11_goNight_233 (by decide) ?_
                                exact ih209 (tq + 1) (va_up g3 27 (upd (g3 27) tq (nI ((ins Mq (fun p => hld N (Aq p) (Mq p) 1) tq kq + 0) + 1)))) (by omega) (by omega) hk25 hk26 (fun s hs => ins_upd (by omega) hs hin2) _ _ hw hS ls (lv_sub hl [1, 2, 3, 4, 5, 6, 7, 0] rfl)
                          exact loop209 _ (Mq kq) (va_up (va_up g1 25 (upd (g1 25) (Aq kq) (nI ((Mq kq) + (hld N (Aq kq) (Mq kq) 1))))) 26 (upd (g1 26) (Aq kq) (nI ((smI Aq (fun p => hld N (Aq p) (Mq p) 1) (Aq kq) kq) + (hld N (Aq kq) (Mq kq) 1))))) (Nat.lt_succ_self _) (by omega) rfl rfl (fun s hs => by rw [if_neg (by omega)]; exact hin s hs) _ _ hw hS ls (lv_sub hl [4, 5, 6, 7, 3, 2, 1, 0] rfl)
                        · refine lv_aload_n hx hb dX11_goNight_188 rfl (lv_at hl 3 rfl) ?_
                          refine va_get (D := D) (ci := 11) (v := .ref (a 25)) (C := RX11) (T := TX11) (N := 35) hx hb hts inX11 hown hK hw.2.1 0 rfl rfl 25 (by decide) (hts _ wd_699) (fun _ h9 => h9) rfl dX11_goNight_189 ?_
                          refine lv_iload hx hb dX11_goNight_192 (lv_at hl 2 rfl) ?_
                          refine n_iald hx hb hK hw.2.1 14 0 rfl rfl (k := Aq kq) (by omega) (by decide) dX11_goNight_194 ?_
                          rw [show (va_up (va_up g1 25 (upd (g1 25) (Aq kq) (nI ((Mq kq) + (hld N (Aq kq) (Mq kq) 1))))) 26 (upd (g1 26) (Aq kq) (nI ((smI Aq (fun p => hld N (Aq p) (Mq p) 1) (Aq kq) kq) + (hld N (Aq kq) (Mq kq) 1))))) 25 (Aq kq) = nI ((Mq kq) + (hld N (Aq kq) (Mq kq) 1)) from pk_us]
                          refine W.eq (g2 := F0 m 195 ls [.int (nI ((Mq kq) + (hld N (Aq kq) (Mq kq) 1))), .ref h]) rfl ?_
                          refine lv_goto (tgt := 202) hx hb dX11_goNight_195 (by decide) ?_
                          refine va_put (D := D) (ci := 11) (ty := .int) (C := RX11) (T := TX11) (N := 35) hx hb hts inX11 tyX11 tyX11_ok nmX11 hown hK hw.2.1 hw.2.2 hS 0 rfl rfl 24 (by decide) (hts _ wd_698) (fun _ h9 => h9) rfl (by decide +kernel) rfl rfl (Nat.le_of_ble_eq_true rfl) dX11_goNight_202 (fun H locs hP hD hS => ?_)
                          have hw : wdH D z (mw ka h a N C (upd (upd f 23 (nI ((smA (fun p => hld N (Aq p) (Mq p) 1) kq) + (hld N (Aq kq) (Mq kq) 1)))) 24 (nI ((Mq kq) + (hld N (Aq kq) (Mq kq) 1)))) (va_up (va_up g1 25 (upd (g1 25) (Aq kq) (nI ((Mq kq) + (hld N (Aq kq) (Mq kq) 1))))) 26 (upd (g1 26) (Aq kq) (nI ((smI Aq (fun p => hld N (Aq p) (Mq p) 1) (Aq kq) kq) + (hld N (Aq kq) (Mq kq) 1))))) ++ R) H := ⟨Nat.le_trans hz0 hS.1, hP, hD⟩
                          have hw : wdH D z (mw ka h a N C (upd (upd f 23 (nI (smA (fun p => hld N (Aq p) (Mq p) 1) (kq + 1)))) 24 (lat Mq (fun p => hld N (Aq p) (Mq p) 1) (kq + 1))) (va_up (va_up g1 25 (upd (g1 25) (Aq kq) (nI ((Mq kq) + (hld N (Aq kq) (Mq kq) 1))))) 26 (upd (g1 26) (Aq kq) (nI ((smI Aq (fun p => hld N (Aq p) (Mq p) 1) (Aq kq) kq) + (hld N (Aq kq) (Mq kq) 1))))) ++ R) H := by
                            rw [show lat Mq (fun p => hld N (Aq p) (Mq p) 1) (kq + 1) = nI ((Mq kq) + (hld N (Aq kq) (Mq kq) 1)) from lat_up (by omega)]
                            exact hw
                          refine lv_iload hx hb dX11_goNight_205 (lv_at hl 1 rfl) ?_
                          refine lv_istore (lv' := [(7, .int (nI (Mq kq))), (6, .int (nI (hld N (Aq kq) (Mq kq) 1))), (5, .int (nI (Mq kq))), (4, .int (nI (Aq kq))), (0, .ref h), (1, .int (nI b1)), (2, .int (nI n1)), (3, .int (nI kq))]) hx hb dX11_goNight_207 hl (by decide) rfl (fun ls hl => ?_)
                          have loop209 : ∀ (fuel209 : Nat) (tq : Nat) (g3 : Nat → Nat → Int32), Mq kq + hld N (Aq kq) (Mq kq) 1 - tq < fuel209 → (Mq kq ≤ tq ∧ tq ≤ Mq kq + hld N (Aq kq) (Mq kq) 1) → (g3 25 = upd (g1 25) (Aq kq) (nI (Mq kq + hld N (Aq kq) (Mq kq) 1))) → (g3 26 = upd (g1 26) (Aq kq) (nI (smI Aq (fun p => hld N (Aq p) (Mq p) 1) (Aq kq) kq + hld N (Aq kq) (Mq kq) 1))) → (∀ s, s < 100 → g3 27 s = nI (ins Mq (fun p => hld N (Aq p) (Mq p) 1) s kq + (if Mq kq ≤ s ∧ s < tq then 1 else 0))) → ∀ (H : Heap) (locs : List Loc), wdH D z (mw ka h a N C (upd (upd f 23 (nI (smA (fun p => hld N (Aq p) (Mq p) 1) (kq + 1)))) 24 (lat Mq (fun p => hld N (Aq p) (Mq p) 1) (kq + 1))) g3 ++ R) H → va_S (fun q => z ≤ q) s.heap H locs → ∀ ls : Array Slot, lv_has ls 8 [(0, .ref h), (1, .int (nI b1)), (2, .int (nI n1)), (3, .int (nI kq)), (4, .int (nI (Aq kq))), (5, .int (nI (Mq kq))), (6, .int (nI (hld N (Aq kq) (Mq kq) 1))), (7, .int (nI tq))] → W p l e (rmz 2 0 0) s m args below meth c H locs 0 0 Q (F0 m 209 ls []) := by
                            intro fuel209
                            induction fuel209 with
                            | zero => intro tq g3 hfu; exact absurd hfu (Nat.not_lt_zero _)
                            | succ fuel209 ih209 =>
                              intro tq g3 hfu htq hk25 hk26 hin2 H locs hw hS ls hl
                              refine lv_iload hx hb dX11_goNight_209 (lv_at hl 7 rfl) ?_
                              refine lv_iload hx hb dX11_goNight_211 (lv_at hl 5 rfl) ?_
                              refine lv_iload hx hb dX11_goNight_213 (lv_at hl 6 rfl) ?_
                              refine n_iadd hx hb dX11_goNight_215 ?_
                              refine i_icmp_ge (tgt := 236) hx hb (nT (by omega)) (nT (by omega)) dX11_goNight_216 (by decide) (fun c_10 => ?_) (fun c_10 => ?_)
                              · refine n_iinc (lv' := [(3, .int (nI (kq + 1))), (0, .ref h), (1, .int (nI b1)), (2, .int (nI n1)), (4, .int (nI (Aq kq))), (5, .int (nI (Mq kq))), (6, .int (nI (hld N (Aq kq) (Mq kq) 1))), (7, .int (nI tq))]) (k := 3) (d := 1) hx hb dX11_goNight_236 hl rfl rfl (by decide) rfl (fun ls hl => ?_)
                                refine lv_goto (tgt := 61) hx hb dX11_goNight_239 (by decide) ?_
                                exact ih61 (kq + 1) g3 (by omega) (by omega) (fw_f hfw hwf) (fun a ha => by rw [hk25]; exact co_upd ha hco) (fun a ha => by rw [hk26]; exact smI_upd ha hhs) (fun t ht => by rw [hin2 t ht, show tq = Mq kq + hld N (Aq kq) (Mq kq) 1 by omega]; rfl) _ _ hw hS ls (lv_sub hl [1, 2, 3, 0] rfl)
                              · refine lv_aload_n hx hb dX11_goNight_219 rfl (lv_at hl 0 rfl) ?_
                                refine va_get (D := D) (ci := 11) (v := .ref (a 27)) (C := RX11) (T := TX11) (N := 35) hx hb hts inX11 hown hK hw.2.1 0 rfl rfl 27 (by decide) (hts _ wd_701) (fun _ h9 => h9) rfl dX11_goNight_220 ?_
                                refine lv_iload hx hb dX11_goNight_223 (lv_at hl 7 rfl) ?_
                                refine lv_dup2_11 hx hb dX11_goNight_225 rfl rfl ?_
                                refine n_iald hx hb hK hw.2.1 16 0 rfl rfl (k := tq) (by omega) (by decide) dX11_goNight_226 ?_
                                rw [hin2 tq (by omega), if_neg (by omega)]
                                have hib := ins_le Mq (fun p => hld N (Aq p) (Mq p) 1) tq kq
                                refine lv_iconst (v := nI 1) hx hb dX11_goNight_227 (by decide) ?_
                                refine n_iadd hx hb dX11_goNight_228 ?_
                                refine r_iast hx hb hK hw.2.1 hw.2.2 hS 16 0 rfl rfl (k := tq) (by omega) (by decide) dX11_goNight_229 (fun H locs hP hD hS => ?_)
                                have hw : wdH D z (mw ka h a N C (upd (upd f 23 (nI (smA (fun p => hld N (Aq p) (Mq p) 1) (kq + 1)))) 24 (lat Mq (fun p => hld N (Aq p) (Mq p) 1) (kq + 1))) (va_up g3 27 (upd (g3 27) tq (nI ((ins Mq (fun p => hld N (Aq p) (Mq p) 1) tq kq + 0) + 1)))) ++ R) H := ⟨Nat.le_trans hz0 hS.1, hP, hD⟩
                                refine n_iinc (lv' := [(7, .int (nI (tq + 1))), (0, .ref h), (1, .int (nI b1)), (2, .int (nI n1)), (3, .int (nI kq)), (4, .int (nI (Aq kq))), (5, .int (nI (Mq kq))), (6, .int (nI (hld N (Aq kq) (Mq kq) 1)))]) (k := 7) (d := 1) hx hb dX11_goNight_230 hl rfl rfl (by decide) rfl (fun ls hl => ?_)
                                refine lv_goto (tgt := 209) hx hb dX11_goNight_233 (by decide) ?_
                                exact ih209 (tq + 1) (va_up g3 27 (upd (g3 27) tq (nI ((ins Mq (fun p => hld N (Aq p) (Mq p) 1) tq kq + 0) + 1)))) (by omega) (by omega) hk25 hk26 (fun s hs => ins_upd (by omega) hs hin2) _ _ hw hS ls (lv_sub hl [1, 2, 3, 4, 5, 6, 7, 0] rfl)
                          exact loop209 _ (Mq kq) (va_up (va_up g1 25 (upd (g1 25) (Aq kq) (nI ((Mq kq) + (hld N (Aq kq) (Mq kq) 1))))) 26 (upd (g1 26) (Aq kq) (nI ((smI Aq (fun p => hld N (Aq p) (Mq p) 1) (Aq kq) kq) + (hld N (Aq kq) (Mq kq) 1))))) (Nat.lt_succ_self _) (by omega) rfl rfl (fun s hs => by rw [if_neg (by omega)]; exact hin s hs) _ _ hw hS ls (lv_sub hl [4, 5, 6, 7, 3, 2, 1, 0] rfl)
                      · refine lv_iload_n hx hb dX11_goNight_125 rfl (lv_at hl 5 rfl) ?_
                        refine hret _ _ _ _ _ _ _ _ dX11_goNight_126 hS hw (Nat.zero_le _) (Nat.zero_le _) ?_
                        have hwt : fw (wrg Aq Mq (fun p => hld N (Aq p) (Mq p) 1)) n1 = some kq := fw_t hfw (by
                          unfold wrg
                          rw [Bool.or_eq_true]
                          first | exact Or.inl (by simp; omega) | exact Or.inr ((co_lt hfw).mp (by omega))) n1 (by omega)
                        exact ⟨_, _, rfl, by rw [hwt]; rfl, fun q => by rw [hwt] at q; cases q⟩
                    · refine lv_iload hx hb dX11_goNight_96 (lv_at hl 0 rfl) ?_
                      refine lv_aload_n hx hb dX11_goNight_98 rfl (lv_at hl 2 rfl) ?_
                      refine va_get (D := D) (ci := 11) (v := .ref (a 4)) (C := RX11) (T := TX11) (N := 35) hx hb hts inX11 hown hK hw.2.1 0 rfl rfl 4 (by decide) (hts _ wd_678) (fun _ h9 => h9) rfl dX11_goNight_99 ?_
                      refine lv_iload_n hx hb dX11_goNight_102 rfl (lv_at hl 3 rfl) ?_
                      refine lv_iconst (v := nI 2) hx hb dX11_goNight_103 (by decide) ?_
                      refine lv_iload_n hx hb dX11_goNight_104 rfl (lv_at hl 5 rfl) ?_
                      refine n_imul hx hb dX11_goNight_105 ?_
                      refine n_iadd hx hb dX11_goNight_106 ?_
                      refine lv_iconst (v := nI 1) hx hb dX11_goNight_107 (by decide) ?_
                      refine n_isub hx hb (by omega) dX11_goNight_108 ?_
                      refine n_iald hx hb hK hw.2.1 3 0 rfl rfl (k := (b1 + (2 * kq)) - 1) (by omega) (by decide) dX11_goNight_109 ?_
                      obtain ⟨hMe1, hMk1⟩ := hM (kq - 1) (by omega)
                      rw [show b1 + 2 * kq - 1 = b1 + 2 * (kq - 1) + 1 by omega, hMe1]
                      refine i_icmp_lt (tgt := 125) hx hb (nT (by omega)) (nT (by omega)) dX11_goNight_110 (by decide) (fun c_11 => ?_) (fun c_11 => ?_)
                      · refine lv_iload_n hx hb dX11_goNight_125 rfl (lv_at hl 5 rfl) ?_
                        refine hret _ _ _ _ _ _ _ _ dX11_goNight_126 hS hw (Nat.zero_le _) (Nat.zero_le _) ?_
                        have hwt : fw (wrg Aq Mq (fun p => hld N (Aq p) (Mq p) 1)) n1 = some kq := fw_t hfw (by
                          unfold wrg
                          rw [Bool.or_eq_true]
                          first | exact Or.inl (by simp; omega) | exact Or.inr ((co_lt hfw).mp (by omega))) n1 (by omega)
                        exact ⟨_, _, rfl, by rw [hwt]; rfl, fun q => by rw [hwt] at q; cases q⟩
                      · refine lv_iload hx hb dX11_goNight_113 (lv_at hl 0 rfl) ?_
                        refine lv_aload_n hx hb dX11_goNight_115 rfl (lv_at hl 2 rfl) ?_
                        refine va_get (D := D) (ci := 11) (v := .ref (a 25)) (C := RX11) (T := TX11) (N := 35) hx hb hts inX11 hown hK hw.2.1 0 rfl rfl 25 (by decide) (hts _ wd_699) (fun _ h9 => h9) rfl dX11_goNight_116 ?_
                        refine lv_iload hx hb dX11_goNight_119 (lv_at hl 1 rfl) ?_
                        refine n_iald hx hb hK hw.2.1 14 0 rfl rfl (k := Aq kq) (by omega) (by decide) dX11_goNight_121 ?_
                        have hcb : co Aq Mq (fun p => hld N (Aq p) (Mq p) 1) kq (Aq kq) ≤ 99 := co_le hEb
                        rw [hco (Aq kq) (by omega)]
                        refine i_icmp_ge (tgt := 127) hx hb (nT (by omega)) (nT (by omega)) dX11_goNight_122 (by decide) (fun c_12 => ?_) (fun c_12 => ?_)
                        · have hwf : wrg Aq Mq (fun p => hld N (Aq p) (Mq p) 1) kq = false := by
                            unfold wrg
                            rw [Bool.or_eq_false_iff]
                            exact ⟨by simp; omega, Bool.eq_false_iff.mpr (fun q => absurd ((co_lt hfw).mpr q) (by omega))⟩
                          refine lv_aload_n hx hb dX11_goNight_127 rfl (lv_at hl 2 rfl) ?_
                          refine lv_iload hx hb dX11_goNight_128 (lv_at hl 1 rfl) ?_
                          refine lv_iload hx hb dX11_goNight_130 (lv_at hl 0 rfl) ?_
                          refine lv_iconst (v := nI 1) hx hb dX11_goNight_132 (by decide) ?_
                          refine vp_callSi (ro_runV (c_X11_holdsBy l D ka h a N C (upd (upd f 23 (nI (smA (fun p => hld N (Aq p) (Mq p) 1) kq))) 24 (lat Mq (fun p => hld N (Aq p) (Mq p) 1) kq)) g1 R (Aq kq) (Mq kq) 1 (by omega) (by omega) (by omega) (show 0 < N 0 0 by omega) hN) X wd_879 wd_876 wd_878 ws_14 wd_8 on_X11_holdsBy ⟨Nat.le_of_ble_eq_true rfl, Nat.le_of_ble_eq_true rfl⟩ (va_recv hK hw.2.1 (ci := 11) (q0 := 0) rfl rfl) hw.2.1 hl.1 rfl (Nat.le_of_ble_eq_true rfl) ⟨(Nat.zero_le _), (Nat.zero_le _)⟩ dX11_goNight_133) (fun r_14 hr_14 => ?_)
                          subst hr_14
                          have hd_13 := hld_le N (Aq kq) (Mq kq) 1
                          refine lv_istore (lv' := [(6, .int (nI (hld N (Aq kq) (Mq kq) 1))), (5, .int (nI (Mq kq))), (4, .int (nI (Aq kq))), (0, .ref h), (1, .int (nI b1)), (2, .int (nI n1)), (3, .int (nI kq))]) hx hb dX11_goNight_136 hl (by decide) rfl (fun ls hl => ?_)
                          refine lv_aload_n hx hb dX11_goNight_138 rfl (lv_at hl 3 rfl) ?_
                          refine va_get (D := D) (ci := 11) (v := .ref (a 25)) (C := RX11) (T := TX11) (N := 35) hx hb hts inX11 hown hK hw.2.1 0 rfl rfl 25 (by decide) (hts _ wd_699) (fun _ h9 => h9) rfl dX11_goNight_139 ?_
                          refine lv_iload hx hb dX11_goNight_142 (lv_at hl 2 rfl) ?_
                          refine lv_iload hx hb dX11_goNight_144 (lv_at hl 1 rfl) ?_
                          refine lv_iload hx hb dX11_goNight_146 (lv_at hl 0 rfl) ?_
                          refine n_iadd hx hb dX11_goNight_148 ?_
                          refine r_iast hx hb hK hw.2.1 hw.2.2 hS 14 0 rfl rfl (k := Aq kq) (by omega) (by decide) dX11_goNight_149 (fun H locs hP hD hS => ?_)
                          have hw : wdH D z (mw ka h a N C (upd (upd f 23 (nI (smA (fun p => hld N (Aq p) (Mq p) 1) kq))) 24 (lat Mq (fun p => hld N (Aq p) (Mq p) 1) kq)) (va_up g1 25 (upd (g1 25) (Aq kq) (nI ((Mq kq) + (hld N (Aq kq) (Mq kq) 1))))) ++ R) H := ⟨Nat.le_trans hz0 hS.1, hP, hD⟩
                          refine lv_aload_n hx hb dX11_goNight_150 rfl (lv_at hl 3 rfl) ?_
                          refine va_get (D := D) (ci := 11) (v := .ref (a 26)) (C := RX11) (T := TX11) (N := 35) hx hb hts inX11 hown hK hw.2.1 0 rfl rfl 26 (by decide) (hts _ wd_700) (fun _ h9 => h9) rfl dX11_goNight_151 ?_
                          refine lv_iload hx hb dX11_goNight_154 (lv_at hl 2 rfl) ?_
                          refine lv_dup2_11 hx hb dX11_goNight_156 rfl rfl ?_
                          refine n_iald hx hb hK hw.2.1 15 0 rfl rfl (k := Aq kq) (by omega) (by decide) dX11_goNight_157 ?_
                          refine W.eq (g2 := F0 m 158 ls [.int (g1 26 (Aq kq)), .int (nI (Aq kq)), .ref (a 26)]) rfl ?_
                          have hsi := smI_le (A := Aq) (H := (fun p => hld N (Aq p) (Mq p) 1)) (b := 40) (fun p => hld_le N (Aq p) (Mq p) 1) (Aq kq) kq
                          rw [hhs (Aq kq) (by omega)]
                          refine lv_iload hx hb dX11_goNight_158 (lv_at hl 0 rfl) ?_
                          refine n_iadd hx hb dX11_goNight_160 ?_
                          refine r_iast hx hb hK hw.2.1 hw.2.2 hS 15 0 rfl rfl (k := Aq kq) (by omega) (by decide) dX11_goNight_161 (fun H locs hP hD hS => ?_)
                          have hw : wdH D z (mw ka h a N C (upd (upd f 23 (nI (smA (fun p => hld N (Aq p) (Mq p) 1) kq))) 24 (lat Mq (fun p => hld N (Aq p) (Mq p) 1) kq)) (va_up (va_up g1 25 (upd (g1 25) (Aq kq) (nI ((Mq kq) + (hld N (Aq kq) (Mq kq) 1))))) 26 (upd (g1 26) (Aq kq) (nI ((smI Aq (fun p => hld N (Aq p) (Mq p) 1) (Aq kq) kq) + (hld N (Aq kq) (Mq kq) 1))))) ++ R) H := ⟨Nat.le_trans hz0 hS.1, hP, hD⟩
                          refine lv_aload_n hx hb dX11_goNight_162 rfl (lv_at hl 3 rfl) ?_
                          refine lv_dup hx hb dX11_goNight_163 rfl ?_
                          refine va_get (D := D) (ci := 11) (v := .int (nI (smA (fun p => hld N (Aq p) (Mq p) 1) kq))) (C := RX11) (T := TX11) (N := 35) hx hb hts inX11 hown hK hw.2.1 0 rfl rfl 23 (by decide) (hts _ wd_697) (fun _ h9 => h9) rfl dX11_goNight_164 ?_
                          refine lv_iload hx hb dX11_goNight_167 (lv_at hl 0 rfl) ?_
                          refine n_iadd hx hb dX11_goNight_169 ?_
                          refine va_put (D := D) (ci := 11) (ty := .int) (C := RX11) (T := TX11) (N := 35) hx hb hts inX11 tyX11 tyX11_ok nmX11 hown hK hw.2.1 hw.2.2 hS 0 rfl rfl 23 (by decide) (hts _ wd_697) (fun _ h9 => h9) rfl (by decide +kernel) rfl rfl (Nat.le_of_ble_eq_true rfl) dX11_goNight_170 (fun H locs hP hD hS => ?_)
                          have hw : wdH D z (mw ka h a N C (upd (upd f 23 (nI ((smA (fun p => hld N (Aq p) (Mq p) 1) kq) + (hld N (Aq kq) (Mq kq) 1)))) 24 (lat Mq (fun p => hld N (Aq p) (Mq p) 1) kq)) (va_up (va_up g1 25 (upd (g1 25) (Aq kq) (nI ((Mq kq) + (hld N (Aq kq) (Mq kq) 1))))) 26 (upd (g1 26) (Aq kq) (nI ((smI Aq (fun p => hld N (Aq p) (Mq p) 1) (Aq kq) kq) + (hld N (Aq kq) (Mq kq) 1))))) ++ R) H := ⟨Nat.le_trans hz0 hS.1, hP, hD⟩
                          refine lv_aload_n hx hb dX11_goNight_173 rfl (lv_at hl 3 rfl) ?_
                          refine lv_aload_n hx hb dX11_goNight_174 rfl (lv_at hl 3 rfl) ?_
                          refine va_get (D := D) (ci := 11) (v := .ref (a 25)) (C := RX11) (T := TX11) (N := 35) hx hb hts inX11 hown hK hw.2.1 0 rfl rfl 25 (by decide) (hts _ wd_699) (fun _ h9 => h9) rfl dX11_goNight_175 ?_
                          refine lv_iload hx hb dX11_goNight_178 (lv_at hl 2 rfl) ?_
                          refine n_iald hx hb hK hw.2.1 14 0 rfl rfl (k := Aq kq) (by omega) (by decide) dX11_goNight_180 ?_
                          rw [show (va_up (va_up g1 25 (upd (g1 25) (Aq kq) (nI ((Mq kq) + (hld N (Aq kq) (Mq kq) 1))))) 26 (upd (g1 26) (Aq kq) (nI ((smI Aq (fun p => hld N (Aq p) (Mq p) 1) (Aq kq) kq) + (hld N (Aq kq) (Mq kq) 1))))) 25 (Aq kq) = nI ((Mq kq) + (hld N (Aq kq) (Mq kq) 1)) from pk_us]
                          refine W.eq (g2 := F0 m 181 ls [.int (nI ((Mq kq) + (hld N (Aq kq) (Mq kq) 1))), .ref h]) rfl ?_
                          refine lv_aload_n hx hb dX11_goNight_181 rfl (lv_at hl 3 rfl) ?_
                          refine va_get (D := D) (ci := 11) (v := .int (lat Mq (fun p => hld N (Aq p) (Mq p) 1) kq)) (C := RX11) (T := TX11) (N := 35) hx hb hts inX11 hown hK hw.2.1 0 rfl rfl 24 (by decide) (hts _ wd_698) (fun _ h9 => h9) rfl dX11_goNight_182 ?_
                          refine i_icmp_le (tgt := 198) hx hb (nT (by omega)) (lat_T (Nat.lt_of_le_of_lt hmx (by decide))) dX11_goNight_185 (by decide) (fun c_15 => ?_) (fun c_15 => ?_)
                          · refine lv_aload_n hx hb dX11_goNight_198 rfl (lv_at hl 3 rfl) ?_
                            refine va_get (D := D) (ci := 11) (v := .int (lat Mq (fun p => hld N (Aq p) (Mq p) 1) kq)) (C := RX11) (T := TX11) (N := 35) hx hb hts inX11 hown hK hw.2.1 0 rfl rfl 24 (by decide) (hts _ wd_698) (fun _ h9 => h9) rfl dX11_goNight_199 ?_
                            refine va_put (D := D) (ci := 11) (ty := .int) (C := RX11) (T := TX11) (N := 35) hx hb hts inX11 tyX11 tyX11_ok nmX11 hown hK hw.2.1 hw.2.2 hS 0 rfl rfl 24 (by decide) (hts _ wd_698) (fun _ h9 => h9) rfl (by decide +kernel) rfl rfl (Nat.le_of_ble_eq_true rfl) dX11_goNight_202 (fun H locs hP hD hS => ?_)
                            have hw : wdH D z (mw ka h a N C (upd (upd f 23 (nI ((smA (fun p => hld N (Aq p) (Mq p) 1) kq) + (hld N (Aq kq) (Mq kq) 1)))) 24 (lat Mq (fun p => hld N (Aq p) (Mq p) 1) kq)) (va_up (va_up g1 25 (upd (g1 25) (Aq kq) (nI ((Mq kq) + (hld N (Aq kq) (Mq kq) 1))))) 26 (upd (g1 26) (Aq kq) (nI ((smI Aq (fun p => hld N (Aq p) (Mq p) 1) (Aq kq) kq) + (hld N (Aq kq) (Mq kq) 1))))) ++ R) H := ⟨Nat.le_trans hz0 hS.1, hP, hD⟩
                            have hw : wdH D z (mw ka h a N C (upd (upd f 23 (nI (smA (fun p => hld N (Aq p) (Mq p) 1) (kq + 1)))) 24 (lat Mq (fun p => hld N (Aq p) (Mq p) 1) (kq + 1))) (va_up (va_up g1 25 (upd (g1 25) (Aq kq) (nI ((Mq kq) + (hld N (Aq kq) (Mq kq) 1))))) 26 (upd (g1 26) (Aq kq) (nI ((smI Aq (fun p => hld N (Aq p) (Mq p) 1) (Aq kq) kq) + (hld N (Aq kq) (Mq kq) 1))))) ++ R) H := by
                              rw [show lat Mq (fun p => hld N (Aq p) (Mq p) 1) (kq + 1) = lat Mq (fun p => hld N (Aq p) (Mq p) 1) kq from lat_keep (by omega)]
                              exact hw
                            refine lv_iload hx hb dX11_goNight_205 (lv_at hl 1 rfl) ?_
                            refine lv_istore (lv' := [(7, .int (nI (Mq kq))), (6, .int (nI (hld N (Aq kq) (Mq kq) 1))), (5, .int (nI (Mq kq))), (4, .int (nI (Aq kq))), (0, .ref h), (1, .int (nI b1)), (2, .int (nI n1)), (3, .int (nI kq))]) hx hb dX11_goNight_207 hl (by decide) rfl (fun ls hl => ?_)
                            have loop209 : ∀ (fuel209 : Nat) (tq : Nat) (g3 : Nat → Nat → Int32), Mq kq + hld N (Aq kq) (Mq kq) 1 - tq < fuel209 → (Mq kq ≤ tq ∧ tq ≤ Mq kq + hld N (Aq kq) (Mq kq) 1) → (g3 25 = upd (g1 25) (Aq kq) (nI (Mq kq + hld N (Aq kq) (Mq kq) 1))) → (g3 26 = upd (g1 26) (Aq kq) (nI (smI Aq (fun p => hld N (Aq p) (Mq p) 1) (Aq kq) kq + hld N (Aq kq) (Mq kq) 1))) → (∀ s, s < 100 → g3 27 s = nI (ins Mq (fun p => hld N (Aq p) (Mq p) 1) s kq + (if Mq kq ≤ s ∧ s < tq then 1 else 0))) → ∀ (H : Heap) (locs : List Loc), wdH D z (mw ka h a N C (upd (upd f 23 (nI (smA (fun p => hld N (Aq p) (Mq p) 1) (kq + 1)))) 24 (lat Mq (fun p => hld N (Aq p) (Mq p) 1) (kq + 1))) g3 ++ R) H → va_S (fun q => z ≤ q) s.heap H locs → ∀ ls : Array Slot, lv_has ls 8 [(0, .ref h), (1, .int (nI b1)), (2, .int (nI n1)), (3, .int (nI kq)), (4, .int (nI (Aq kq))), (5, .int (nI (Mq kq))), (6, .int (nI (hld N (Aq kq) (Mq kq) 1))), (7, .int (nI tq))] → W p l e (rmz 2 0 0) s m args below meth c H locs 0 0 Q (F0 m 209 ls []) := by
                              intro fuel209
                              induction fuel209 with
                              | zero => intro tq g3 hfu; exact absurd hfu (Nat.not_lt_zero _)
                              | succ fuel209 ih209 =>
                                intro tq g3 hfu htq hk25 hk26 hin2 H locs hw hS ls hl
                                refine lv_iload hx hb dX11_goNight_209 (lv_at hl 7 rfl) ?_
                                refine lv_iload hx hb dX11_goNight_211 (lv_at hl 5 rfl) ?_
                                refine lv_iload hx hb dX11_goNight_213 (lv_at hl 6 rfl) ?_
                                refine n_iadd hx hb dX11_goNight_215 ?_
                                refine i_icmp_ge (tgt := 236) hx hb (nT (by omega)) (nT (by omega)) dX11_goNight_216 (by decide) (fun c_16 => ?_) (fun c_16 => ?_)
                                · refine n_iinc (lv' := [(3, .int (nI (kq + 1))), (0, .ref h), (1, .int (nI b1)), (2, .int (nI n1)), (4, .int (nI (Aq kq))), (5, .int (nI (Mq kq))), (6, .int (nI (hld N (Aq kq) (Mq kq) 1))), (7, .int (nI tq))]) (k := 3) (d := 1) hx hb dX11_goNight_236 hl rfl rfl (by decide) rfl (fun ls hl => ?_)
                                  refine lv_goto (tgt := 61) hx hb dX11_goNight_239 (by decide) ?_
                                  exact ih61 (kq + 1) g3 (by omega) (by omega) (fw_f hfw hwf) (fun a ha => by rw [hk25]; exact co_upd ha hco) (fun a ha => by rw [hk26]; exact smI_upd ha hhs) (fun t ht => by rw [hin2 t ht, show tq = Mq kq + hld N (Aq kq) (Mq kq) 1 by omega]; rfl) _ _ hw hS ls (lv_sub hl [1, 2, 3, 0] rfl)
                                · refine lv_aload_n hx hb dX11_goNight_219 rfl (lv_at hl 0 rfl) ?_
                                  refine va_get (D := D) (ci := 11) (v := .ref (a 27)) (C := RX11) (T := TX11) (N := 35) hx hb hts inX11 hown hK hw.2.1 0 rfl rfl 27 (by decide) (hts _ wd_701) (fun _ h9 => h9) rfl dX11_goNight_220 ?_
                                  refine lv_iload hx hb dX11_goNight_223 (lv_at hl 7 rfl) ?_
                                  refine lv_dup2_11 hx hb dX11_goNight_225 rfl rfl ?_
                                  refine n_iald hx hb hK hw.2.1 16 0 rfl rfl (k := tq) (by omega) (by decide) dX11_goNight_226 ?_
                                  rw [hin2 tq (by omega), if_neg (by omega)]
                                  have hib := ins_le Mq (fun p => hld N (Aq p) (Mq p) 1) tq kq
                                  refine lv_iconst (v := nI 1) hx hb dX11_goNight_227 (by decide) ?_
                                  refine n_iadd hx hb dX11_goNight_228 ?_
                                  refine r_iast hx hb hK hw.2.1 hw.2.2 hS 16 0 rfl rfl (k := tq) (by omega) (by decide) dX11_goNight_229 (fun H locs hP hD hS => ?_)
                                  have hw : wdH D z (mw ka h a N C (upd (upd f 23 (nI (smA (fun p => hld N (Aq p) (Mq p) 1) (kq + 1)))) 24 (lat Mq (fun p => hld N (Aq p) (Mq p) 1) (kq + 1))) (va_up g3 27 (upd (g3 27) tq (nI ((ins Mq (fun p => hld N (Aq p) (Mq p) 1) tq kq + 0) + 1)))) ++ R) H := ⟨Nat.le_trans hz0 hS.1, hP, hD⟩
                                  refine n_iinc (lv' := [(7, .int (nI (tq + 1))), (0, .ref h), (1, .int (nI b1)), (2, .int (nI n1)), (3, .int (nI kq)), (4, .int (nI (Aq kq))), (5, .int (nI (Mq kq))), (6, .int (nI (hld N (Aq kq) (Mq kq) 1)))]) (k := 7) (d := 1) hx hb dX11_goNight_230 hl rfl rfl (by decide) rfl (fun ls hl => ?_)
                                  refine lv_goto (tgt := 209) hx hb dX11_goNight_233 (by decide) ?_
                                  exact ih209 (tq + 1) (va_up g3 27 (upd (g3 27) tq (nI ((ins Mq (fun p => hld N (Aq p) (Mq p) 1) tq kq + 0) + 1)))) (by omega) (by omega) hk25 hk26 (fun s hs => ins_upd (by omega) hs hin2) _ _ hw hS ls (lv_sub hl [1, 2, 3, 4, 5, 6, 7, 0] rfl)
                            exact loop209 _ (Mq kq) (va_up (va_up g1 25 (upd (g1 25) (Aq kq) (nI ((Mq kq) + (hld N (Aq kq) (Mq kq) 1))))) 26 (upd (g1 26) (Aq kq) (nI ((smI Aq (fun p => hld N (Aq p) (Mq p) 1) (Aq kq) kq) + (hld N (Aq kq) (Mq kq) 1))))) (Nat.lt_succ_self _) (by omega) rfl rfl (fun s hs => by rw [if_neg (by omega)]; exact hin s hs) _ _ hw hS ls (lv_sub hl [4, 5, 6, 7, 3, 2, 1, 0] rfl)
                          · refine lv_aload_n hx hb dX11_goNight_188 rfl (lv_at hl 3 rfl) ?_
                            refine va_get (D := D) (ci := 11) (v := .ref (a 25)) (C := RX11) (T := TX11) (N := 35) hx hb hts inX11 hown hK hw.2.1 0 rfl rfl 25 (by decide) (hts _ wd_699) (fun _ h9 => h9) rfl dX11_goNight_189 ?_
                            refine lv_iload hx hb dX11_goNight_192 (lv_at hl 2 rfl) ?_
                            refine n_iald hx hb hK hw.2.1 14 0 rfl rfl (k := Aq kq) (by omega) (by decide) dX11_goNight_194 ?_
                            rw [show (va_up (va_up g1 25 (upd (g1 25) (Aq kq) (nI ((Mq kq) + (hld N (Aq kq) (Mq kq) 1))))) 26 (upd (g1 26) (Aq kq) (nI ((smI Aq (fun p => hld N (Aq p) (Mq p) 1) (Aq kq) kq) + (hld N (Aq kq) (Mq kq) 1))))) 25 (Aq kq) = nI ((Mq kq) + (hld N (Aq kq) (Mq kq) 1)) from pk_us]
                            refine W.eq (g2 := F0 m 195 ls [.int (nI ((Mq kq) + (hld N (Aq kq) (Mq kq) 1))), .ref h]) rfl ?_
                            refine lv_goto (tgt := 202) hx hb dX11_goNight_195 (by decide) ?_
                            refine va_put (D := D) (ci := 11) (ty := .int) (C := RX11) (T := TX11) (N := 35) hx hb hts inX11 tyX11 tyX11_ok nmX11 hown hK hw.2.1 hw.2.2 hS 0 rfl rfl 24 (by decide) (hts _ wd_698) (fun _ h9 => h9) rfl (by decide +kernel) rfl rfl (Nat.le_of_ble_eq_true rfl) dX11_goNight_202 (fun H locs hP hD hS => ?_)
                            have hw : wdH D z (mw ka h a N C (upd (upd f 23 (nI ((smA (fun p => hld N (Aq p) (Mq p) 1) kq) + (hld N (Aq kq) (Mq kq) 1)))) 24 (nI ((Mq kq) + (hld N (Aq kq) (Mq kq) 1)))) (va_up (va_up g1 25 (upd (g1 25) (Aq kq) (nI ((Mq kq) + (hld N (Aq kq) (Mq kq) 1))))) 26 (upd (g1 26) (Aq kq) (nI ((smI Aq (fun p => hld N (Aq p) (Mq p) 1) (Aq kq) kq) + (hld N (Aq kq) (Mq kq) 1))))) ++ R) H := ⟨Nat.le_trans hz0 hS.1, hP, hD⟩
                            have hw : wdH D z (mw ka h a N C (upd (upd f 23 (nI (smA (fun p => hld N (Aq p) (Mq p) 1) (kq + 1)))) 24 (lat Mq (fun p => hld N (Aq p) (Mq p) 1) (kq + 1))) (va_up (va_up g1 25 (upd (g1 25) (Aq kq) (nI ((Mq kq) + (hld N (Aq kq) (Mq kq) 1))))) 26 (upd (g1 26) (Aq kq) (nI ((smI Aq (fun p => hld N (Aq p) (Mq p) 1) (Aq kq) kq) + (hld N (Aq kq) (Mq kq) 1))))) ++ R) H := by
                              rw [show lat Mq (fun p => hld N (Aq p) (Mq p) 1) (kq + 1) = nI ((Mq kq) + (hld N (Aq kq) (Mq kq) 1)) from lat_up (by omega)]
                              exact hw
                            refine lv_iload hx hb dX11_goNight_205 (lv_at hl 1 rfl) ?_
                            refine lv_istore (lv' := [(7, .int (nI (Mq kq))), (6, .int (nI (hld N (Aq kq) (Mq kq) 1))), (5, .int (nI (Mq kq))), (4, .int (nI (Aq kq))), (0, .ref h), (1, .int (nI b1)), (2, .int (nI n1)), (3, .int (nI kq))]) hx hb dX11_goNight_207 hl (by decide) rfl (fun ls hl => ?_)
                            have loop209 : ∀ (fuel209 : Nat) (tq : Nat) (g3 : Nat → Nat → Int32), Mq kq + hld N (Aq kq) (Mq kq) 1 - tq < fuel209 → (Mq kq ≤ tq ∧ tq ≤ Mq kq + hld N (Aq kq) (Mq kq) 1) → (g3 25 = upd (g1 25) (Aq kq) (nI (Mq kq + hld N (Aq kq) (Mq kq) 1))) → (g3 26 = upd (g1 26) (Aq kq) (nI (smI Aq (fun p => hld N (Aq p) (Mq p) 1) (Aq kq) kq + hld N (Aq kq) (Mq kq) 1))) → (∀ s, s < 100 → g3 27 s = nI (ins Mq (fun p => hld N (Aq p) (Mq p) 1) s kq + (if Mq kq ≤ s ∧ s < tq then 1 else 0))) → ∀ (H : Heap) (locs : List Loc), wdH D z (mw ka h a N C (upd (upd f 23 (nI (smA (fun p => hld N (Aq p) (Mq p) 1) (kq + 1)))) 24 (lat Mq (fun p => hld N (Aq p) (Mq p) 1) (kq + 1))) g3 ++ R) H → va_S (fun q => z ≤ q) s.heap H locs → ∀ ls : Array Slot, lv_has ls 8 [(0, .ref h), (1, .int (nI b1)), (2, .int (nI n1)), (3, .int (nI kq)), (4, .int (nI (Aq kq))), (5, .int (nI (Mq kq))), (6, .int (nI (hld N (Aq kq) (Mq kq) 1))), (7, .int (nI tq))] → W p l e (rmz 2 0 0) s m args below meth c H locs 0 0 Q (F0 m 209 ls []) := by
                              intro fuel209
                              induction fuel209 with
                              | zero => intro tq g3 hfu; exact absurd hfu (Nat.not_lt_zero _)
                              | succ fuel209 ih209 =>
                                intro tq g3 hfu htq hk25 hk26 hin2 H locs hw hS ls hl
                                refine lv_iload hx hb dX11_goNight_209 (lv_at hl 7 rfl) ?_
                                refine lv_iload hx hb dX11_goNight_211 (lv_at hl 5 rfl) ?_
                                refine lv_iload hx hb dX11_goNight_213 (lv_at hl 6 rfl) ?_
                                refine n_iadd hx hb dX11_goNight_215 ?_
                                refine i_icmp_ge (tgt := 236) hx hb (nT (by omega)) (nT (by omega)) dX11_goNight_216 (by decide) (fun c_17 => ?_) (fun c_17 => ?_)
                                · refine n_iinc (lv' := [(3, .int (nI (kq + 1))), (0, .ref h), (1, .int (nI b1)), (2, .int (nI n1)), (4, .int (nI (Aq kq))), (5, .int (nI (Mq kq))), (6, .int (nI (hld N (Aq kq) (Mq kq) 1))), (7, .int (nI tq))]) (k := 3) (d := 1) hx hb dX11_goNight_236 hl rfl rfl (by decide) rfl (fun ls hl => ?_)
                                  refine lv_goto (tgt := 61) hx hb dX11_goNight_239 (by decide) ?_
                                  exact ih61 (kq + 1) g3 (by omega) (by omega) (fw_f hfw hwf) (fun a ha => by rw [hk25]; exact co_upd ha hco) (fun a ha => by rw [hk26]; exact smI_upd ha hhs) (fun t ht => by rw [hin2 t ht, show tq = Mq kq + hld N (Aq kq) (Mq kq) 1 by omega]; rfl) _ _ hw hS ls (lv_sub hl [1, 2, 3, 0] rfl)
                                · refine lv_aload_n hx hb dX11_goNight_219 rfl (lv_at hl 0 rfl) ?_
                                  refine va_get (D := D) (ci := 11) (v := .ref (a 27)) (C := RX11) (T := TX11) (N := 35) hx hb hts inX11 hown hK hw.2.1 0 rfl rfl 27 (by decide) (hts _ wd_701) (fun _ h9 => h9) rfl dX11_goNight_220 ?_
                                  refine lv_iload hx hb dX11_goNight_223 (lv_at hl 7 rfl) ?_
                                  refine lv_dup2_11 hx hb dX11_goNight_225 rfl rfl ?_
                                  refine n_iald hx hb hK hw.2.1 16 0 rfl rfl (k := tq) (by omega) (by decide) dX11_goNight_226 ?_
                                  rw [hin2 tq (by omega), if_neg (by omega)]
                                  have hib := ins_le Mq (fun p => hld N (Aq p) (Mq p) 1) tq kq
                                  refine lv_iconst (v := nI 1) hx hb dX11_goNight_227 (by decide) ?_
                                  refine n_iadd hx hb dX11_goNight_228 ?_
                                  refine r_iast hx hb hK hw.2.1 hw.2.2 hS 16 0 rfl rfl (k := tq) (by omega) (by decide) dX11_goNight_229 (fun H locs hP hD hS => ?_)
                                  have hw : wdH D z (mw ka h a N C (upd (upd f 23 (nI (smA (fun p => hld N (Aq p) (Mq p) 1) (kq + 1)))) 24 (lat Mq (fun p => hld N (Aq p) (Mq p) 1) (kq + 1))) (va_up g3 27 (upd (g3 27) tq (nI ((ins Mq (fun p => hld N (Aq p) (Mq p) 1) tq kq + 0) + 1)))) ++ R) H := ⟨Nat.le_trans hz0 hS.1, hP, hD⟩
                                  refine n_iinc (lv' := [(7, .int (nI (tq + 1))), (0, .ref h), (1, .int (nI b1)), (2, .int (nI n1)), (3, .int (nI kq)), (4, .int (nI (Aq kq))), (5, .int (nI (Mq kq))), (6, .int (nI (hld N (Aq kq) (Mq kq) 1)))]) (k := 7) (d := 1) hx hb dX11_goNight_230 hl rfl rfl (by decide) rfl (fun ls hl => ?_)
                                  refine lv_goto (tgt := 209) hx hb dX11_goNight_233 (by decide) ?_
                                  exact ih209 (tq + 1) (va_up g3 27 (upd (g3 27) tq (nI ((ins Mq (fun p => hld N (Aq p) (Mq p) 1) tq kq + 0) + 1)))) (by omega) (by omega) hk25 hk26 (fun s hs => ins_upd (by omega) hs hin2) _ _ hw hS ls (lv_sub hl [1, 2, 3, 4, 5, 6, 7, 0] rfl)
                            exact loop209 _ (Mq kq) (va_up (va_up g1 25 (upd (g1 25) (Aq kq) (nI ((Mq kq) + (hld N (Aq kq) (Mq kq) 1))))) 26 (upd (g1 26) (Aq kq) (nI ((smI Aq (fun p => hld N (Aq p) (Mq p) 1) (Aq kq) kq) + (hld N (Aq kq) (Mq kq) 1))))) (Nat.lt_succ_self _) (by omega) rfl rfl (fun s hs => by rw [if_neg (by omega)]; exact hin s hs) _ _ hw hS ls (lv_sub hl [4, 5, 6, 7, 3, 2, 1, 0] rfl)
                        · refine lv_iload_n hx hb dX11_goNight_125 rfl (lv_at hl 5 rfl) ?_
                          refine hret _ _ _ _ _ _ _ _ dX11_goNight_126 hS hw (Nat.zero_le _) (Nat.zero_le _) ?_
                          have hwt : fw (wrg Aq Mq (fun p => hld N (Aq p) (Mq p) 1)) n1 = some kq := fw_t hfw (by
                            unfold wrg
                            rw [Bool.or_eq_true]
                            first | exact Or.inl (by simp; omega) | exact Or.inr ((co_lt hfw).mp (by omega))) n1 (by omega)
                          exact ⟨_, _, rfl, by rw [hwt]; rfl, fun q => by rw [hwt] at q; cases q⟩
              exact loop61 _ 0 g1 (Nat.lt_succ_self _) (by omega) rfl (fun a ha => (hz5 a ha).1) (fun a ha => (hz5 a ha).2) (fun t ht => hz27 t (by omega)) _ _ hw hS ls (lv_sub hl [1, 2, 3, 0] rfl)
            · refine lv_aload_n hx hb dX11_goNight_46 rfl (lv_at hl 0 rfl) ?_
              refine va_get (D := D) (ci := 11) (v := .ref (a 27)) (C := RX11) (T := TX11) (N := 35) hx hb hts inX11 hown hK hw.2.1 0 rfl rfl 27 (by decide) (hts _ wd_701) (fun _ h9 => h9) rfl dX11_goNight_47 ?_
              refine lv_iload_n hx hb dX11_goNight_50 rfl (lv_at hl 3 rfl) ?_
              refine lv_iconst (v := nI 0) hx hb dX11_goNight_51 (by decide) ?_
              refine r_iast hx hb hK hw.2.1 hw.2.2 hS 16 0 rfl rfl (k := jq) (by omega) (by decide) dX11_goNight_52 (fun H locs hP hD hS => ?_)
              have hw : wdH D z (mw ka h a N C (upd (upd f 23 (nI 0)) 24 (-9)) (va_up g1 27 (upd (g1 27) jq (nI 0))) ++ R) H := ⟨Nat.le_trans hz0 hS.1, hP, hD⟩
              refine n_iinc (lv' := [(3, .int (nI (jq + 1))), (0, .ref h), (1, .int (nI b1)), (2, .int (nI n1))]) (k := 3) (d := 1) hx hb dX11_goNight_53 hl rfl rfl (by decide) rfl (fun ls hl => ?_)
              refine lv_goto (tgt := 40) hx hb dX11_goNight_56 (by decide) ?_
              exact ih40 (jq + 1) (va_up g1 27 (upd (g1 27) jq (nI 0))) (by omega) (by omega) hz5 (fun a ha => upd_c ha (hz27 a)) _ _ hw hS ls (lv_sub hl [1, 2, 3, 0] rfl)
        exact loop40 _ 0 g1 (Nat.lt_succ_self _) (by omega) (fun a ha => hz5 a (by omega)) (fun a ha => absurd ha (Nat.not_lt_zero _)) _ _ hw hS ls (lv_sub hl [1, 2, 3, 0] rfl)
      · refine lv_aload_n hx hb dX11_goNight_18 rfl (lv_at hl 0 rfl) ?_
        refine va_get (D := D) (ci := 11) (v := .ref (a 25)) (C := RX11) (T := TX11) (N := 35) hx hb hts inX11 hown hK hw.2.1 0 rfl rfl 25 (by decide) (hts _ wd_699) (fun _ h9 => h9) rfl dX11_goNight_19 ?_
        refine lv_iload_n hx hb dX11_goNight_22 rfl (lv_at hl 3 rfl) ?_
        refine lv_iconst (v := nI 0) hx hb dX11_goNight_23 (by decide) ?_
        refine r_iast hx hb hK hw.2.1 hw.2.2 hS 14 0 rfl rfl (k := jq) (by omega) (by decide) dX11_goNight_24 (fun H locs hP hD hS => ?_)
        have hw : wdH D z (mw ka h a N C (upd (upd f 23 (nI 0)) 24 (-9)) (va_up g1 25 (upd (g1 25) jq (nI 0))) ++ R) H := ⟨Nat.le_trans hz0 hS.1, hP, hD⟩
        refine lv_aload_n hx hb dX11_goNight_25 rfl (lv_at hl 0 rfl) ?_
        refine va_get (D := D) (ci := 11) (v := .ref (a 26)) (C := RX11) (T := TX11) (N := 35) hx hb hts inX11 hown hK hw.2.1 0 rfl rfl 26 (by decide) (hts _ wd_700) (fun _ h9 => h9) rfl dX11_goNight_26 ?_
        refine lv_iload_n hx hb dX11_goNight_29 rfl (lv_at hl 3 rfl) ?_
        refine lv_iconst (v := nI 0) hx hb dX11_goNight_30 (by decide) ?_
        refine r_iast hx hb hK hw.2.1 hw.2.2 hS 15 0 rfl rfl (k := jq) (by omega) (by decide) dX11_goNight_31 (fun H locs hP hD hS => ?_)
        have hw : wdH D z (mw ka h a N C (upd (upd f 23 (nI 0)) 24 (-9)) (va_up (va_up g1 25 (upd (g1 25) jq (nI 0))) 26 (upd (g1 26) jq (nI 0))) ++ R) H := ⟨Nat.le_trans hz0 hS.1, hP, hD⟩
        refine n_iinc (lv' := [(3, .int (nI (jq + 1))), (0, .ref h), (1, .int (nI b1)), (2, .int (nI n1))]) (k := 3) (d := 1) hx hb dX11_goNight_32 hl rfl rfl (by decide) rfl (fun ls hl => ?_)
        refine lv_goto (tgt := 13) hx hb dX11_goNight_35 (by decide) ?_
        exact ih13 (jq + 1) (va_up (va_up g1 25 (upd (g1 25) jq (nI 0))) 26 (upd (g1 26) jq (nI 0))) (by omega) (by omega) (fun a ha => ⟨upd_c ha (fun q => (hz5 a q).1), upd_c ha (fun q => (hz5 a q).2)⟩) _ _ hw hS ls (lv_sub hl [1, 2, 3, 0] rfl)
  exact loop13 _ 0 g (Nat.lt_succ_self _) (by omega) (fun a ha => absurd ha (Nat.not_lt_zero _)) _ _ hw hS ls (lv_sub hl [1, 2, 3, 0] rfl)
set_option maxRecDepth 100000 in
set_option maxHeartbeats 4000000 in
theorem c_X11_tellNight (l : Launch) (D : va_G) (ka : Nat → ClassId) (h : Nat) (a : Nat → Nat) (N : Nat → Nat → Nat) (C : Nat → Nat → Int32) (f : Nat → Int32) (g : Nat → Nat → Int32) (R : va_W) (n1 : Nat) (Aq Mq Zq : Nat → Nat) (w2 : Int32) (W9 : Int) (hw2 : w2.toInt = W9) (hok : (W9 = 0 ∨ W9 = 2 ∨ W9 = 3) ∨ (10 ≤ W9 ∧ W9 ≤ 14)) (hall : f 23 = nI (smA Zq n1)) (hlat : f 24 = lat Mq Zq n1) (hhl : ∀ a, a < 5 → g 26 a = nI (smI Aq Zq a n1)) (hins : ∀ t, t < 100 → g 27 t = nI (ins Mq Zq t n1)) (hn1 : n1 ≤ 20) (hN : WF N) : RO l D ka yX11_tellNight cX11_tellNight 4 (some .int) 1 [.ref h, .int w2] (fun H => va_P D vwCl (mw ka h a N C f g ++ R) H) (vp_Si (fun r => r = nAns (N 0 1) Aq Mq Zq n1 W9)) := by
  refine RO.ofI (by decide) (Nat.le_of_ble_eq_true rfl) ?_
  intro p e s m args below meth c Q X hP hret ls hl
  obtain ⟨hx, hb, hml, hown, hts, hE⟩ := id X
  have hK := hE.1
  have hl : lv_has ls 4 [(0, .ref h), (1, .int w2)] := hl
  have hN1 := hN.1
  refine lv_iload_n hx hb dX11_tellNight_0 rfl (lv_at hl 1 rfl) ?_
  refine lv_bipush (v := nI 10) hx hb dX11_tellNight_1 (by decide) ?_
  refine i_icmp_lt (tgt := 32) hx hb hw2 (nT (by decide)) dX11_tellNight_3 (by decide) (fun c_1 => ?_) (fun c_1 => ?_)
  · refine lv_iload_n hx hb dX11_tellNight_32 rfl (lv_at hl 1 rfl) ?_
    refine lv_iconst (v := nI 3) hx hb dX11_tellNight_33 (by decide) ?_
    refine i_icmp_ge (tgt := 53) hx hb hw2 (nT (by decide)) dX11_tellNight_34 (by decide) (fun c_2 => ?_) (fun c_2 => ?_)
    · refine lv_iconst (v := nI 0) hx hb dX11_tellNight_53 (by decide) ?_
      refine lv_istore_n (lv' := [(2, .int (nI 0)), (0, .ref h), (1, .int w2)]) hx hb dX11_tellNight_54 rfl hl (by decide) rfl (fun ls hl => ?_)
      refine lv_iconst (v := nI 0) hx hb dX11_tellNight_55 (by decide) ?_
      refine lv_istore_n (lv' := [(3, .int (nI 0)), (2, .int (nI 0)), (0, .ref h), (1, .int w2)]) hx hb dX11_tellNight_56 rfl hl (by decide) rfl (fun ls hl => ?_)
      have loop57 : ∀ (fuel57 : Nat) (tq : Nat) (mq : Nat), 100 - tq < fuel57 → (tq ≤ 100) → (mq = mxE (fun t => ins Mq Zq t n1) tq) → ∀ ls : Array Slot, lv_has ls 4 [(0, .ref h), (1, .int w2), (2, .int (nI mq)), (3, .int (nI tq))] → W p l e (rmz 1 0 0) s m args below meth c s.heap [] 0 0 Q (F0 m 57 ls []) := by
        intro fuel57
        induction fuel57 with
        | zero => intro tq mq hfu; exact absurd hfu (Nat.not_lt_zero _)
        | succ fuel57 ih57 =>
          intro tq mq hfu htq hmq ls hl
          have hib := ins_le Mq Zq tq n1
          have hmb : mq ≤ 20 := by rw [hmq]; exact mxE_le (fun q _ => Nat.le_trans (ins_le Mq Zq q n1) hn1)
          refine lv_iload_n hx hb dX11_tellNight_57 rfl (lv_at hl 3 rfl) ?_
          refine lv_bipush (v := nI 99) hx hb dX11_tellNight_58 (by decide) ?_
          refine i_icmp_gt (tgt := 90) hx hb (nT (by omega)) (nT (by decide)) dX11_tellNight_60 (by decide) (fun c_3 => ?_) (fun c_3 => ?_)
          · refine lv_iload_n hx hb dX11_tellNight_90 rfl (lv_at hl 2 rfl) ?_
            refine hret _ _ _ dX11_tellNight_91 ?_
            unfold nAns
            rw [if_neg (by omega), if_neg (by omega), if_pos (by omega)]
            unfold mst
            rw [hmq, show tq = 100 by omega]
          · refine lv_aload_n hx hb dX11_tellNight_63 rfl (lv_at hl 0 rfl) ?_
            refine va_get (D := D) (ci := 11) (v := .ref (a 27)) (C := RX11) (T := TX11) (N := 35) hx hb hts inX11 hown hK hP 0 rfl rfl 27 (by decide) (hts _ wd_701) (fun _ h9 => h9) rfl dX11_tellNight_64 ?_
            refine lv_iload_n hx hb dX11_tellNight_67 rfl (lv_at hl 3 rfl) ?_
            refine n_iald hx hb hK hP 16 0 rfl rfl (k := tq) (by omega) (by decide) dX11_tellNight_68 ?_
            rw [hins tq (by omega)]
            refine lv_iload_n hx hb dX11_tellNight_69 rfl (lv_at hl 2 rfl) ?_
            refine i_icmp_le (tgt := 82) hx hb (nT (by omega)) (nT (by omega)) dX11_tellNight_70 (by decide) (fun c_4 => ?_) (fun c_4 => ?_)
            · refine lv_iload_n hx hb dX11_tellNight_82 rfl (lv_at hl 2 rfl) ?_
              refine lv_istore_n (lv' := [(2, .int (nI mq)), (0, .ref h), (1, .int w2), (3, .int (nI tq))]) hx hb dX11_tellNight_83 rfl hl (by decide) rfl (fun ls hl => ?_)
              refine n_iinc (lv' := [(3, .int (nI (tq + 1))), (2, .int (nI mq)), (0, .ref h), (1, .int w2)]) (k := 3) (d := 1) hx hb dX11_tellNight_84 hl rfl rfl (by decide) rfl (fun ls hl => ?_)
              refine lv_goto (tgt := 57) hx hb dX11_tellNight_87 (by decide) ?_
              exact ih57 (tq + 1) mq (by omega) (by omega) (by rw [mxE, ← hmq]; omega) ls (lv_sub hl [2, 3, 1, 0] rfl)
            · refine lv_aload_n hx hb dX11_tellNight_73 rfl (lv_at hl 0 rfl) ?_
              refine va_get (D := D) (ci := 11) (v := .ref (a 27)) (C := RX11) (T := TX11) (N := 35) hx hb hts inX11 hown hK hP 0 rfl rfl 27 (by decide) (hts _ wd_701) (fun _ h9 => h9) rfl dX11_tellNight_74 ?_
              refine lv_iload_n hx hb dX11_tellNight_77 rfl (lv_at hl 3 rfl) ?_
              refine n_iald hx hb hK hP 16 0 rfl rfl (k := tq) (by omega) (by decide) dX11_tellNight_78 ?_
              rw [hins tq (by omega)]
              refine lv_goto (tgt := 83) hx hb dX11_tellNight_79 (by decide) ?_
              refine lv_istore_n (lv' := [(2, .int (nI (ins Mq Zq tq n1))), (0, .ref h), (1, .int w2), (3, .int (nI tq))]) hx hb dX11_tellNight_83 rfl hl (by decide) rfl (fun ls hl => ?_)
              refine n_iinc (lv' := [(3, .int (nI (tq + 1))), (2, .int (nI (ins Mq Zq tq n1))), (0, .ref h), (1, .int w2)]) (k := 3) (d := 1) hx hb dX11_tellNight_84 hl rfl rfl (by decide) rfl (fun ls hl => ?_)
              refine lv_goto (tgt := 57) hx hb dX11_tellNight_87 (by decide) ?_
              exact ih57 (tq + 1) (ins Mq Zq tq n1) (by omega) (by omega) (by rw [mxE, ← hmq]; omega) ls (lv_sub hl [2, 3, 1, 0] rfl)
      exact loop57 _ 0 0 (Nat.lt_succ_self _) (by omega) rfl ls (lv_sub hl [2, 3, 1, 0] rfl)
    · refine lv_iload_n hx hb dX11_tellNight_37 rfl (lv_at hl 1 rfl) ?_
      refine i_if_ne (tgt := 48) hx hb hw2 dX11_tellNight_38 (by decide) (fun c_5 => ?_) (fun c_5 => ?_)
      · refine lv_aload_n hx hb dX11_tellNight_48 rfl (lv_at hl 0 rfl) ?_
        refine va_get (D := D) (ci := 11) (v := .int (f 24)) (C := RX11) (T := TX11) (N := 35) hx hb hts inX11 hown hK hP 0 rfl rfl 24 (by decide) (hts _ wd_698) (fun _ h9 => h9) rfl dX11_tellNight_49 ?_
        refine hret _ _ _ dX11_tellNight_52 ?_
        unfold nAns
        rw [if_neg (by omega), if_pos (by omega), hlat]
      · refine lv_aload_n hx hb dX11_tellNight_41 rfl (lv_at hl 0 rfl) ?_
        refine va_get (D := D) (ci := 11) (v := .int (f 23)) (C := RX11) (T := TX11) (N := 35) hx hb hts inX11 hown hK hP 0 rfl rfl 23 (by decide) (hts _ wd_697) (fun _ h9 => h9) rfl dX11_tellNight_42 ?_
        refine lv_goto (tgt := 52) hx hb dX11_tellNight_45 (by decide) ?_
        refine hret _ _ _ dX11_tellNight_52 ?_
        unfold nAns
        rw [if_pos (by omega), hall]
  · obtain ⟨wq, hwl, hwq, hWq⟩ := nat_ofK (n := 15) hw2 (by omega) (by omega)
    refine lv_aload_n hx hb dX11_tellNight_6 rfl (lv_at hl 0 rfl) ?_
    refine lv_iload_n hx hb dX11_tellNight_7 rfl (lv_at hl 1 rfl) ?_
    refine lv_bipush (v := nI 10) hx hb dX11_tellNight_8 (by decide) ?_
    refine lv_isub hx hb dX11_tellNight_10 ?_
    rw [show w2 - nI 10 = nI (wq - 10) by rw [hwq, pk_sub (by omega)]]
    refine vp_callSi (ro_runV (c_X11_isTaker l D ka h a N C f g R (nI (wq - 10)) _ (nT (by omega)) hN) X wd_836 wd_833 wd_835 ws_11 wd_8 on_X11_isTaker ⟨Nat.le_of_ble_eq_true rfl, Nat.le_of_ble_eq_true rfl⟩ (va_recv hK hP (ci := 11) (q0 := 0) rfl rfl) hP hl.1 rfl (Nat.le_of_ble_eq_true rfl) ⟨(Nat.zero_le _), (Nat.zero_le _)⟩ dX11_tellNight_11) (fun r_6 hr_6 => ?_)
    subst hr_6
    refine b_if_eq (tgt := 29) hx hb dX11_tellNight_14 (by decide) (fun c_7 => ?_) (fun c_7 => ?_)
    · refine lv_bipush (v := (-9)) hx hb dX11_tellNight_29 (by decide) ?_
      refine hret _ _ _ dX11_tellNight_31 ?_
      unfold nAns
      rw [if_neg (by omega), if_neg (by omega), if_neg (by omega), if_neg (by omega)]
    · refine lv_aload_n hx hb dX11_tellNight_17 rfl (lv_at hl 0 rfl) ?_
      refine va_get (D := D) (ci := 11) (v := .ref (a 26)) (C := RX11) (T := TX11) (N := 35) hx hb hts inX11 hown hK hP 0 rfl rfl 26 (by decide) (hts _ wd_700) (fun _ h9 => h9) rfl dX11_tellNight_18 ?_
      refine lv_iload_n hx hb dX11_tellNight_21 rfl (lv_at hl 1 rfl) ?_
      refine lv_bipush (v := nI 10) hx hb dX11_tellNight_22 (by decide) ?_
      refine lv_isub hx hb dX11_tellNight_24 ?_
      rw [show w2 - nI 10 = nI (wq - 10) by rw [hwq, pk_sub (by omega)]]
      refine n_iald hx hb hK hP 15 0 rfl rfl (k := wq - 10) (by omega) (by decide) dX11_tellNight_25 ?_
      refine lv_goto (tgt := 31) hx hb dX11_tellNight_26 (by decide) ?_
      refine hret _ _ _ dX11_tellNight_31 ?_
      unfold nAns
      rw [if_neg (by omega), if_neg (by omega), if_neg (by omega), if_pos (by omega), hhl (wq - 10) (by omega), show (W9 - 10).toNat = wq - 10 by omega]
