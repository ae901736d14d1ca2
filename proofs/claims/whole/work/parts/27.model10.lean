set_option maxRecDepth 100000 in
set_option maxHeartbeats 4000000 in
theorem c_X11_night (l : Launch) (D : va_G) (ka : Nat → ClassId) (z : Nat) (h : Nat) (a : Nat → Nat) (N : Nat → Nat → Nat) (C : Nat → Nat → Int32) (f : Nat → Int32) (g : Nat → Nat → Int32) (R : va_W) (k q i n w2 : Int32) (K9 Q9 I9 M9 W9 : Int) (hk : k.toInt = K9) (hq : q.toInt = Q9) (hi : i.toInt = I9) (hn : n.toInt = M9) (hw2 : w2.toInt = W9) (hN : WF N) : MU l D ka z yX11_night cX11_night 9 (some .int) 3 0 0 [.ref h, .int k, .int q, .int i, .int n, .int w2] (mw ka h a N C f g ++ R) (Qi D z (fun r w => ∃ f' g' N' C', w = mw ka h a N' C' f' g' ++ R ∧ (r, N', C') = sp_night N C K9 Q9 I9 M9 W9)) := by
  refine MU.ofI (by decide) (Nat.le_of_ble_eq_true rfl) ?_
  intro p e s m args below meth c Q X hw hS hret ls hl
  obtain ⟨hx, hb, hml, hown, hts, hE⟩ := id X
  have hK := hE.1
  have hz0 := hw.1
  have hl : lv_has ls 9 [(0, .ref h), (1, .int k), (2, .int q), (3, .int i), (4, .int n), (5, .int w2)] := hl
  have hN1 := hN.1
  refine lv_aload_n hx hb dX11_night_0 rfl (lv_at hl 0 rfl) ?_
  refine lv_iconst (v := nI 0) hx hb dX11_night_1 (by decide) ?_
  refine va_put (D := D) (ci := 11) (ty := .int) (C := RX11) (T := TX11) (N := 35) hx hb hts inX11 tyX11 tyX11_ok nmX11 hown hK hw.2.1 hw.2.2 hS 0 rfl rfl 0 (by decide) (hts _ wd_674) (fun _ h9 => h9) rfl (by decide +kernel) rfl rfl (Nat.le_of_ble_eq_true rfl) dX11_night_2 (fun H locs hP hD hS => ?_)
  have hw : wdH D z (mw ka h a (up N 0 4 0) C f g ++ R) H := ⟨Nat.le_trans hz0 hS.1, hP, hD⟩
  refine lv_iload_n hx hb dX11_night_5 rfl (lv_at hl 1 rfl) ?_
  refine vp_callSi (ro_runS (c_X11_isSheet l D ka k _ hk) X wd_786 wd_784 wd_785 wd_8 on_X11_isSheet ⟨Nat.le_of_ble_eq_true rfl, Nat.le_of_ble_eq_true rfl⟩ trivial hl.1 rfl (Nat.le_of_ble_eq_true rfl) ⟨(Nat.zero_le _), (Nat.zero_le _)⟩ dX11_night_6) (fun r_1 hr_1 => ?_)
  subst hr_1
  refine b_if_ne (tgt := 14) hx hb dX11_night_9 (by decide) (fun c_2 => ?_) (fun c_2 => ?_)
  · refine lv_iload_n hx hb dX11_night_14 rfl (lv_at hl 2 rfl) ?_
    refine vp_callSi (ro_runS (c_X11_isSort l D ka q _ hq) X wd_792 wd_790 wd_791 wd_8 on_X11_isSort ⟨Nat.le_of_ble_eq_true rfl, Nat.le_of_ble_eq_true rfl⟩ trivial hl.1 rfl (Nat.le_of_ble_eq_true rfl) ⟨(Nat.zero_le _), (Nat.zero_le _)⟩ dX11_night_15) (fun r_3 hr_3 => ?_)
    subst hr_3
    refine b_if_eq (tgt := 54) hx hb dX11_night_18 (by decide) (fun c_4 => ?_) (fun c_4 => ?_)
    · refine lv_bipush (v := (-2)) hx hb dX11_night_54 (by decide) ?_
      refine hret _ _ _ _ _ _ _ _ dX11_night_56 hS hw (Nat.zero_le _) (Nat.zero_le _) ?_
      refine ⟨f, g, (up N 0 4 0), C, rfl, ?_⟩
      unfold sp_night
      rw [if_pos (by omega), if_neg (by omega)]
    · refine lv_iload hx hb dX11_night_21 (lv_at hl 4 rfl) ?_
      refine lv_iconst (v := nI 0) hx hb dX11_night_23 (by decide) ?_
      refine lv_bipush (v := nI 20) hx hb dX11_night_24 (by decide) ?_
      refine vp_callSi (ro_runS (c_X11_within l D ka n (nI 0) (nI 20) _ _ _ hn (nT (by decide)) (nT (by decide))) X wd_789 wd_787 wd_788 wd_8 on_X11_within ⟨Nat.le_of_ble_eq_true rfl, Nat.le_of_ble_eq_true rfl⟩ trivial hl.1 rfl (Nat.le_of_ble_eq_true rfl) ⟨(Nat.zero_le _), (Nat.zero_le _)⟩ dX11_night_26) (fun r_5 hr_5 => ?_)
      subst hr_5
      refine b_if_eq (tgt := 54) hx hb dX11_night_29 (by decide) (fun c_6 => ?_) (fun c_6 => ?_)
      · refine lv_bipush (v := (-2)) hx hb dX11_night_54 (by decide) ?_
        refine hret _ _ _ _ _ _ _ _ dX11_night_56 hS hw (Nat.zero_le _) (Nat.zero_le _) ?_
        refine ⟨f, g, (up N 0 4 0), C, rfl, ?_⟩
        unfold sp_night
        rw [if_pos (by omega), if_neg (by omega)]
      · refine lv_iload hx hb dX11_night_32 (lv_at hl 5 rfl) ?_
        refine lv_iconst (v := nI 0) hx hb dX11_night_34 (by decide) ?_
        refine lv_iconst (v := nI 3) hx hb dX11_night_35 (by decide) ?_
        refine vp_callSi (ro_runS (c_X11_within l D ka w2 (nI 0) (nI 3) _ _ _ hw2 (nT (by decide)) (nT (by decide))) X wd_789 wd_787 wd_788 wd_8 on_X11_within ⟨Nat.le_of_ble_eq_true rfl, Nat.le_of_ble_eq_true rfl⟩ trivial hl.1 rfl (Nat.le_of_ble_eq_true rfl) ⟨(Nat.zero_le _), (Nat.zero_le _)⟩ dX11_night_36) (fun r_7 hr_7 => ?_)
        subst hr_7
        refine b_if_ne (tgt := 57) hx hb dX11_night_39 (by decide) (fun c_8 => ?_) (fun c_8 => ?_)
        · obtain ⟨k1, hlt_k1, rfl, rfl⟩ := nat_ofK (n := 4) hk (by omega) (by omega)
          obtain ⟨q1, hlt_q1, rfl, rfl⟩ := nat_ofK (n := 3) hq (by omega) (by omega)
          obtain ⟨n1, hlt_n1, rfl, rfl⟩ := nat_ofK (n := 21) hn (by omega) (by omega)
          refine lv_aload_n hx hb dX11_night_57 rfl (lv_at hl 0 rfl) ?_
          refine lv_iload_n hx hb dX11_night_58 rfl (lv_at hl 1 rfl) ?_
          refine lv_iload_n hx hb dX11_night_59 rfl (lv_at hl 2 rfl) ?_
          refine lv_iload_n hx hb dX11_night_60 rfl (lv_at hl 3 rfl) ?_
          refine lv_iconst (v := nI 2) hx hb dX11_night_61 (by decide) ?_
          refine lv_iload hx hb dX11_night_62 (lv_at hl 4 rfl) ?_
          refine n_imul hx hb dX11_night_64 ?_
          refine vp_callSi (ro_runV (c_X11_against l D ka h a (up N 0 4 0) C f g R k1 q1 i (nI (2 * n1)) _ _ hi (nT (by omega)) (by omega) (by omega) (WF.up04 (v := 0) hN (by omega))) X wd_796 wd_793 wd_795 ws_2 wd_8 on_X11_against ⟨Nat.le_of_ble_eq_true rfl, Nat.le_of_ble_eq_true rfl⟩ (va_recv hK hw.2.1 (ci := 11) (q0 := 0) rfl rfl) hw.2.1 hl.1 rfl (Nat.le_of_ble_eq_true rfl) ⟨(Nat.zero_le _), (Nat.zero_le _)⟩ dX11_night_65) (fun r_9 hr_9 => ?_)
          subst hr_9
          refine lv_istore (lv' := [(6, .int (nI (agst (up N 0 4 0) k1 q1 I9 ((2 * n1 : Nat) : Int)))), (0, .ref h), (1, .int (nI k1)), (2, .int (nI q1)), (3, .int i), (4, .int (nI n1)), (5, .int w2)]) hx hb dX11_night_68 hl (by decide) rfl (fun ls hl => ?_)
          have hl : lv_has ls 9 [(6, .int (nI (agst N k1 q1 I9 (2 * (n1 : Int))))), (0, .ref h), (1, .int (nI k1)), (2, .int (nI q1)), (3, .int i), (4, .int (nI n1)), (5, .int w2)] := by rw [show (2 * (n1 : Int)) = (((2 * n1 : Nat)) : Int) by omega]; exact hl
          have hag : agst N k1 q1 I9 (2 * (n1 : Int)) < 5 := agst_lt _ _ _ _ _
          have hl10 := hN.2.2.2.2.2.2.2.2.2.2 k1
          refine lv_iload hx hb dX11_night_70 (lv_at hl 0 rfl) ?_
          refine i_if_eq (tgt := 82) hx hb (nT (by omega)) dX11_night_72 (by decide) (fun c_10 => ?_) (fun c_10 => ?_)
          · have hag0 : agst N k1 q1 I9 (2 * (n1 : Int)) = 0 := by omega
            obtain ⟨hi0, hi1, hi2, hi3⟩ := agst_0 hag0
            obtain ⟨i1, hlt_i1, rfl, rfl⟩ := nat_ofK (n := N 10 k1 + 1) hi (by omega) (by omega)
            have hl := lv_sub (l' := [(0, .ref h), (1, .int (nI k1)), (2, .int (nI q1)), (3, .int (nI i1)), (4, .int (nI n1)), (5, .int w2)]) hl [1, 2, 3, 4, 5, 6] rfl
            refine lv_aload_n hx hb dX11_night_82 rfl (lv_at hl 0 rfl) ?_
            refine va_get (D := D) (ci := 11) (v := .int (nI (N 0 1))) (C := RX11) (T := TX11) (N := 35) hx hb hts inX11 hown hK hw.2.1 0 rfl rfl 6 (by decide) (hts _ wd_680) (fun _ h9 => h9) rfl dX11_night_83 ?_
            refine i_if_ne (tgt := 92) hx hb (nT (by omega)) dX11_night_86 (by decide) (fun c_11 => ?_) (fun c_11 => ?_)
            · refine lv_bipush (v := nI 60) hx hb dX11_night_92 (by decide) ?_
              refine lv_iload_n hx hb dX11_night_94 rfl (lv_at hl 1 rfl) ?_
              refine n_imul hx hb dX11_night_95 ?_
              refine lv_iload_n hx hb dX11_night_96 rfl (lv_at hl 3 rfl) ?_
              refine n_iadd hx hb dX11_night_97 ?_
              refine lv_istore (lv' := [(7, .int (nI ((60 * k1) + i1))), (0, .ref h), (1, .int (nI k1)), (2, .int (nI q1)), (3, .int (nI i1)), (4, .int (nI n1)), (5, .int w2)]) hx hb dX11_night_98 hl (by decide) rfl (fun ls hl => ?_)
              refine lv_iconst (v := nI 0) hx hb dX11_night_100 (by decide) ?_
              refine lv_istore (lv' := [(8, .int (nI 0)), (7, .int (nI ((60 * k1) + i1))), (0, .ref h), (1, .int (nI k1)), (2, .int (nI q1)), (3, .int (nI i1)), (4, .int (nI n1)), (5, .int w2)]) hx hb dX11_night_101 hl (by decide) rfl (fun ls hl => ?_)
              have loop103 : ∀ (fuel103 : Nat) (pq : Nat), n1 - pq < fuel103 → (pq ≤ n1) → (pck (N 0 1) (fun j => cz C (60 * k1 + i1 + j)) pq = 0) → ∀ (H : Heap) (locs : List Loc), wdH D z (mw ka h a (up N 0 4 0) C f g ++ R) H → va_S (fun q => z ≤ q) s.heap H locs → ∀ ls : Array Slot, lv_has ls 9 [(0, .ref h), (1, .int (nI k1)), (2, .int (nI q1)), (3, .int (nI i1)), (4, .int (nI n1)), (5, .int w2), (7, .int (nI ((60 * k1) + i1))), (8, .int (nI pq))] → W p l e (rmz 3 0 0) s m args below meth c H locs 0 0 Q (F0 m 103 ls []) := by
                intro fuel103
                induction fuel103 with
                | zero => intro pq hfu; exact absurd hfu (Nat.not_lt_zero _)
                | succ fuel103 ih103 =>
                  intro pq hfu hpn hpk H locs hw hS ls hl
                  refine lv_iload hx hb dX11_night_103 (lv_at hl 7 rfl) ?_
                  refine lv_iload hx hb dX11_night_105 (lv_at hl 4 rfl) ?_
                  refine i_icmp_ge (tgt := 160) hx hb (nT (by omega)) (nT (by omega)) dX11_night_107 (by decide) (fun c_12 => ?_) (fun c_12 => ?_)
                  · have hpqn : pq = n1 := by omega
                    rw [hpqn] at hpk
                    refine lv_aload_n hx hb dX11_night_160 rfl (lv_at hl 0 rfl) ?_
                    refine lv_iload hx hb dX11_night_161 (lv_at hl 6 rfl) ?_
                    refine lv_iload hx hb dX11_night_163 (lv_at hl 4 rfl) ?_
                    refine mu_i (mu_runV (c_X11_goNight l D ka z h a (up N 0 4 0) C f g R (60 * k1 + i1) n1 (fun p => (cz C (60 * k1 + i1 + 2 * p)).toNat) (fun p => (cz C (60 * k1 + i1 + (2 * p + 1))).toNat) (by omega) (by omega) (fun p hp => ⟨nI_toNat (pck_ok hpk p hp).1.1, by have := (pck_ok hpk p hp).1; show (cz C (60 * k1 + i1 + 2 * p)).toNat < N 0 1; omega⟩) (fun p hp => ⟨nI_toNat (pck_ok hpk p hp).2.1, by have := (pck_ok hpk p hp).2; show (cz C (60 * k1 + i1 + (2 * p + 1))).toNat < 60; omega⟩) (show 0 < N 0 0 by omega) (WF.up04 (v := 0) hN (by omega))) X wd_903 wd_900 wd_902 ws_16 wd_8 on_X11_goNight ⟨Nat.le_of_ble_eq_true rfl, Nat.le_of_ble_eq_true rfl⟩ (va_recv hK hw.2.1 (ci := 11) (q0 := 0) rfl rfl) hw hl.1 rfl (Nat.le_of_ble_eq_true rfl) ⟨Nat.le_of_ble_eq_true rfl, Nat.le_of_ble_eq_true rfl⟩ dX11_night_165) hS (fun r_14 u_13 H locs hp_u_13 hw hS => ?_)
                    obtain ⟨f2, g2, rfl, hrr, hnn⟩ := hp_u_13
                    have hrr : r_14 = fno (fw (wrg (fun p => (cz C (60 * k1 + i1 + 2 * p)).toNat) (fun p => (cz C (60 * k1 + i1 + (2 * p + 1))).toNat) (fun p => hld N ((fun p => (cz C (60 * k1 + i1 + 2 * p)).toNat) p) ((fun p => (cz C (60 * k1 + i1 + (2 * p + 1))).toNat) p) 1)) n1) := hrr
                    have hw : wdH D z (mw ka h a (up N 0 4 0) C f2 g2 ++ R) H := hw
                    cases hf : fw (wrg (fun p => (cz C (60 * k1 + i1 + 2 * p)).toNat) (fun p => (cz C (60 * k1 + i1 + (2 * p + 1))).toNat) (fun p => hld N ((fun p => (cz C (60 * k1 + i1 + 2 * p)).toNat) p) ((fun p => (cz C (60 * k1 + i1 + (2 * p + 1))).toNat) p) 1)) n1 with
                    | none =>
                      rw [hf] at hrr; subst hrr
                      refine W.eq (g2 := F0 m 168 ls [.int (-9)]) rfl ?_
                      obtain ⟨hall, hlat, hhl, hins⟩ := hnn hf
                      refine lv_istore (lv' := [(8, .int (-9)), (0, .ref h), (1, .int (nI k1)), (2, .int (nI q1)), (3, .int (nI i1)), (4, .int (nI n1)), (5, .int w2), (7, .int (nI ((60 * k1) + i1)))]) hx hb dX11_night_168 hl (by decide) rfl (fun ls hl => ?_)
                      refine lv_iload hx hb dX11_night_170 (lv_at hl 6 rfl) ?_
                      refine lv_iconst (v := nI 1) hx hb dX11_night_172 (by decide) ?_
                      refine i_icmp_ne (tgt := 179) hx hb hw2 (nT (by decide)) dX11_night_173 (by decide) (fun c_15 => ?_) (fun c_15 => ?_)
                      · refine lv_iload hx hb dX11_night_179 (lv_at hl 0 rfl) ?_
                        refine lv_bipush (v := (-9)) hx hb dX11_night_181 (by decide) ?_
                        refine i_icmp_ne (tgt := 195) hx hb ng9 ng9 dX11_night_183 (by decide) (fun c_16 => absurd rfl c_16) (fun c_16 => ?_)
                        refine lv_aload_n hx hb dX11_night_186 rfl (lv_at hl 1 rfl) ?_
                        refine lv_iload hx hb dX11_night_187 (lv_at hl 6 rfl) ?_
                        refine vp_callSi (ro_runV (c_X11_tellNight l D ka h a (up N 0 4 0) C f2 g2 R n1 (fun p => (cz C (60 * k1 + i1 + 2 * p)).toNat) (fun p => (cz C (60 * k1 + i1 + (2 * p + 1))).toNat) (fun p => hld N ((fun p => (cz C (60 * k1 + i1 + 2 * p)).toNat) p) ((fun p => (cz C (60 * k1 + i1 + (2 * p + 1))).toNat) p) 1) w2 _ hw2 (by omega) hall hlat hhl hins (by omega) (WF.up04 (v := 0) hN (by omega))) X wd_907 wd_904 wd_906 ws_17 wd_8 on_X11_tellNight ⟨Nat.le_of_ble_eq_true rfl, Nat.le_of_ble_eq_true rfl⟩ (va_recv hK hw.2.1 (ci := 11) (q0 := 0) rfl rfl) hw.2.1 hl.1 rfl (Nat.le_of_ble_eq_true rfl) ⟨(Nat.zero_le _), (Nat.zero_le _)⟩ dX11_night_189) (fun r_17 hr_17 => ?_)
                        subst hr_17
                        refine W.eq (g2 := F0 m 192 ls [.int (nAns (N 0 1) (fun p => (cz C (60 * k1 + i1 + 2 * p)).toNat) (fun p => (cz C (60 * k1 + i1 + (2 * p + 1))).toNat) (fun p => hld N ((fun p => (cz C (60 * k1 + i1 + 2 * p)).toNat) p) ((fun p => (cz C (60 * k1 + i1 + (2 * p + 1))).toNat) p) 1) n1 W9)]) rfl ?_
                        refine lv_goto (tgt := 200) hx hb dX11_night_192 (by decide) ?_
                        refine hret _ _ _ _ _ _ _ _ dX11_night_200 hS hw (Nat.zero_le _) (Nat.zero_le _) ?_
                        refine ⟨f2, g2, (up N 0 4 0), C, rfl, ?_⟩
                        rw [sp_night_in (by omega) (by omega) (by omega) (by omega) hag0]
                        rw [if_neg (by omega), if_neg (by rw [hpk]; decide), if_neg (by rw [hpk]; decide)]
                        unfold nightA
                        rw [if_neg (by omega), hf]
                      · refine lv_iload hx hb dX11_night_176 (lv_at hl 0 rfl) ?_
                        refine hret _ _ _ _ _ _ _ _ dX11_night_178 hS hw (Nat.zero_le _) (Nat.zero_le _) ?_
                        refine ⟨f2, g2, (up N 0 4 0), C, rfl, ?_⟩
                        rw [sp_night_in (by omega) (by omega) (by omega) (by omega) hag0]
                        rw [if_neg (by omega), if_neg (by rw [hpk]; decide), if_neg (by rw [hpk]; decide)]
                        unfold nightA
                        rw [if_pos (by omega), hf]; rfl
                    | some px =>
                      rw [hf] at hrr; subst hrr
                      refine W.eq (g2 := F0 m 168 ls [.int (nI px)]) rfl ?_
                      have hpx := fw_lt hf
                      refine lv_istore (lv' := [(8, .int (nI px)), (0, .ref h), (1, .int (nI k1)), (2, .int (nI q1)), (3, .int (nI i1)), (4, .int (nI n1)), (5, .int w2), (7, .int (nI ((60 * k1) + i1)))]) hx hb dX11_night_168 hl (by decide) rfl (fun ls hl => ?_)
                      refine lv_iload hx hb dX11_night_170 (lv_at hl 6 rfl) ?_
                      refine lv_iconst (v := nI 1) hx hb dX11_night_172 (by decide) ?_
                      refine i_icmp_ne (tgt := 179) hx hb hw2 (nT (by decide)) dX11_night_173 (by decide) (fun c_18 => ?_) (fun c_18 => ?_)
                      · refine lv_iload hx hb dX11_night_179 (lv_at hl 0 rfl) ?_
                        refine lv_bipush (v := (-9)) hx hb dX11_night_181 (by decide) ?_
                        refine i_icmp_ne (tgt := 195) hx hb (nT (by omega)) ng9 dX11_night_183 (by decide) (fun c_19 => ?_) (fun c_19 => by omega)
                        refine lv_bipush (v := (-100)) hx hb dX11_night_195 (by decide) ?_
                        refine lv_iload hx hb dX11_night_197 (lv_at hl 0 rfl) ?_
                        refine lv_isub hx hb dX11_night_199 ?_
                        refine hret _ _ _ _ _ _ _ _ dX11_night_200 hS hw (Nat.zero_le _) (Nat.zero_le _) ?_
                        refine ⟨f2, g2, (up N 0 4 0), C, rfl, ?_⟩
                        rw [sp_night_in (by omega) (by omega) (by omega) (by omega) hag0]
                        rw [if_neg (by omega), if_neg (by rw [hpk]; decide), if_neg (by rw [hpk]; decide)]
                        unfold nightA
                        rw [if_neg (by omega), hf]
                      · refine lv_iload hx hb dX11_night_176 (lv_at hl 0 rfl) ?_
                        refine hret _ _ _ _ _ _ _ _ dX11_night_178 hS hw (Nat.zero_le _) (Nat.zero_le _) ?_
                        refine ⟨f2, g2, (up N 0 4 0), C, rfl, ?_⟩
                        rw [sp_night_in (by omega) (by omega) (by omega) (by omega) hag0]
                        rw [if_neg (by omega), if_neg (by rw [hpk]; decide), if_neg (by rw [hpk]; decide)]
                        unfold nightA
                        rw [if_pos (by omega), hf]; rfl
                  · refine lv_aload_n hx hb dX11_night_110 rfl (lv_at hl 0 rfl) ?_
                    refine lv_aload_n hx hb dX11_night_111 rfl (lv_at hl 0 rfl) ?_
                    refine va_get (D := D) (ci := 11) (v := .ref (a 4)) (C := RX11) (T := TX11) (N := 35) hx hb hts inX11 hown hK hw.2.1 0 rfl rfl 4 (by decide) (hts _ wd_678) (fun _ h9 => h9) rfl dX11_night_112 ?_
                    refine lv_iload hx hb dX11_night_115 (lv_at hl 6 rfl) ?_
                    refine lv_iconst (v := nI 2) hx hb dX11_night_117 (by decide) ?_
                    refine lv_iload hx hb dX11_night_118 (lv_at hl 7 rfl) ?_
                    refine n_imul hx hb dX11_night_120 ?_
                    refine n_iadd hx hb dX11_night_121 ?_
                    refine n_iald hx hb hK hw.2.1 3 0 rfl rfl (k := ((60 * k1) + i1) + (2 * pq)) (by omega) (by decide) dX11_night_122 ?_
                    refine W.eq (g2 := F0 m 123 ls [.int (C ((((60 * k1) + i1) + (2 * pq)) / 60) ((((60 * k1) + i1) + (2 * pq)) % 60)), .ref h]) rfl ?_
                    refine vp_callSi (ro_runV (c_X11_isTaker l D ka h a (up N 0 4 0) C f g R (C ((60 * k1 + i1 + 2 * pq) / 60) ((60 * k1 + i1 + 2 * pq) % 60)) _ (show (C ((60 * k1 + i1 + 2 * pq) / 60) ((60 * k1 + i1 + 2 * pq) % 60)).toInt = cz C (60 * k1 + i1 + 2 * pq) from rfl) (WF.up04 (v := 0) hN (by omega))) X wd_836 wd_833 wd_835 ws_11 wd_8 on_X11_isTaker ⟨Nat.le_of_ble_eq_true rfl, Nat.le_of_ble_eq_true rfl⟩ (va_recv hK hw.2.1 (ci := 11) (q0 := 0) rfl rfl) hw.2.1 hl.1 rfl (Nat.le_of_ble_eq_true rfl) ⟨(Nat.zero_le _), (Nat.zero_le _)⟩ dX11_night_123) (fun r_20 hr_20 => ?_)
                    subst hr_20
                    refine W.eq (g2 := F0 m 126 ls [.int (bI (0 ≤ (cz C (60 * k1 + i1 + 2 * pq)) ∧ (cz C (60 * k1 + i1 + 2 * pq)) < ((N 0 1 : Nat) : Int)))]) rfl ?_
                    refine b_if_ne (tgt := 131) hx hb dX11_night_126 (by decide) (fun c_21 => ?_) (fun c_21 => ?_)
                    · refine lv_aload_n hx hb dX11_night_131 rfl (lv_at hl 0 rfl) ?_
                      refine va_get (D := D) (ci := 11) (v := .ref (a 4)) (C := RX11) (T := TX11) (N := 35) hx hb hts inX11 hown hK hw.2.1 0 rfl rfl 4 (by decide) (hts _ wd_678) (fun _ h9 => h9) rfl dX11_night_132 ?_
                      refine lv_iload hx hb dX11_night_135 (lv_at hl 6 rfl) ?_
                      refine lv_iconst (v := nI 2) hx hb dX11_night_137 (by decide) ?_
                      refine lv_iload hx hb dX11_night_138 (lv_at hl 7 rfl) ?_
                      refine n_imul hx hb dX11_night_140 ?_
                      refine n_iadd hx hb dX11_night_141 ?_
                      refine lv_iconst (v := nI 1) hx hb dX11_night_142 (by decide) ?_
                      refine n_iadd hx hb dX11_night_143 ?_
                      refine n_iald hx hb hK hw.2.1 3 0 rfl rfl (k := (((60 * k1) + i1) + (2 * pq)) + 1) (by omega) (by decide) dX11_night_144 ?_
                      refine W.eq (g2 := F0 m 145 ls [.int (C (((((60 * k1) + i1) + (2 * pq)) + 1) / 60) (((((60 * k1) + i1) + (2 * pq)) + 1) % 60))]) rfl ?_
                      refine vp_callSi (ro_runS (c_X11_isMinute l D ka (C ((60 * k1 + i1 + 2 * pq + 1) / 60) ((60 * k1 + i1 + 2 * pq + 1) % 60)) _ (show (C ((60 * k1 + i1 + 2 * pq + 1) / 60) ((60 * k1 + i1 + 2 * pq + 1) % 60)).toInt = cz C (60 * k1 + i1 + (2 * pq + 1)) from rfl)) X wd_875 wd_873 wd_874 wd_8 on_X11_isMinute ⟨Nat.le_of_ble_eq_true rfl, Nat.le_of_ble_eq_true rfl⟩ trivial hl.1 rfl (Nat.le_of_ble_eq_true rfl) ⟨(Nat.zero_le _), (Nat.zero_le _)⟩ dX11_night_145) (fun r_22 hr_22 => ?_)
                      subst hr_22
                      refine b_if_ne (tgt := 154) hx hb dX11_night_148 (by decide) (fun c_23 => ?_) (fun c_23 => ?_)
                      · refine n_iinc (lv' := [(8, .int (nI (pq + 1))), (0, .ref h), (1, .int (nI k1)), (2, .int (nI q1)), (3, .int (nI i1)), (4, .int (nI n1)), (5, .int w2), (7, .int (nI ((60 * k1) + i1)))]) (k := 7) (d := 1) hx hb dX11_night_154 hl rfl rfl (by decide) rfl (fun ls hl => ?_)
                        refine lv_goto (tgt := 103) hx hb dX11_night_157 (by decide) ?_
                        exact ih103 (pq + 1) (by omega) (by omega) (pck_0 hpk (by omega) (by omega)) _ _ hw hS ls (lv_sub hl [1, 2, 3, 4, 5, 6, 7, 0] rfl)
                      · refine lv_bipush (v := (-2)) hx hb dX11_night_151 (by decide) ?_
                        refine hret _ _ _ _ _ _ _ _ dX11_night_153 hS hw (Nat.zero_le _) (Nat.zero_le _) ?_
                        refine ⟨f, g, (up N 0 4 0), C, rfl, ?_⟩
                        rw [sp_night_in (by omega) (by omega) (by omega) (by omega) hag0]
                        rw [if_neg (by omega), if_neg (by rw [pck_bad (pck_2 hpk (by omega) (by omega)) (by decide) n1 (by omega)]; decide), if_pos (pck_bad (pck_2 hpk (by omega) (by omega)) (by decide) n1 (by omega))]
                    · refine lv_iconst (v := (-1)) hx hb dX11_night_129 (by decide) ?_
                      refine hret _ _ _ _ _ _ _ _ dX11_night_130 hS hw (Nat.zero_le _) (Nat.zero_le _) ?_
                      refine ⟨f, g, (up N 0 4 0), C, rfl, ?_⟩
                      rw [sp_night_in (by omega) (by omega) (by omega) (by omega) hag0]
                      rw [if_neg (by omega), if_pos (pck_bad (pck_1 hpk (by omega)) (by decide) n1 (by omega))]
              exact loop103 _ 0 (Nat.lt_succ_self _) (by omega) rfl _ _ hw hS ls (lv_sub hl [2, 3, 4, 5, 6, 7, 1, 0] rfl)
            · refine lv_bipush (v := (-3)) hx hb dX11_night_89 (by decide) ?_
              refine hret _ _ _ _ _ _ _ _ dX11_night_91 hS hw (Nat.zero_le _) (Nat.zero_le _) ?_
              refine ⟨f, g, (up N 0 4 0), C, rfl, ?_⟩
              rw [sp_night_in (by omega) (by omega) (by omega) (by omega) hag0]
              rw [if_pos (by omega)]
          · refine lv_aload_n hx hb dX11_night_75 rfl (lv_at hl 1 rfl) ?_
            refine lv_iload hx hb dX11_night_76 (lv_at hl 0 rfl) ?_
            refine mu_i (mu_runV (c_X11_fails l D ka z h a (up N 0 4 0) C f g R (agst N k1 q1 I9 (2 * (n1 : Int))) (by omega) (WF.up04 (v := 0) hN (by omega))) X wd_800 wd_797 wd_799 ws_3 wd_8 on_X11_fails ⟨Nat.le_of_ble_eq_true rfl, Nat.le_of_ble_eq_true rfl⟩ (va_recv hK hw.2.1 (ci := 11) (q0 := 0) rfl rfl) hw hl.1 rfl (Nat.le_of_ble_eq_true rfl) ⟨Nat.le_of_ble_eq_true rfl, Nat.le_of_ble_eq_true rfl⟩ dX11_night_78) hS (fun r_25 u_24 H locs hp_u_24 hw hS => ?_)
            obtain ⟨rfl, rfl⟩ := hp_u_24
            refine hret _ _ _ _ _ _ _ _ dX11_night_81 hS hw (Nat.zero_le _) (Nat.zero_le _) ?_
            refine ⟨f, g, (up (up N 0 4 0) 0 4 (agst N k1 q1 I9 (2 * (n1 : Int)))), C, rfl, ?_⟩
            unfold sp_night
            rw [if_pos (by omega), if_pos (by omega)]
            rw [if_neg (show ¬ agst N (k1 : Int).toNat (q1 : Int).toNat I9 (2 * (n1 : Int)) = 0 from (show ¬ agst N k1 q1 I9 (2 * (n1 : Int)) = 0 by omega))]
            rfl
        · refine lv_iload hx hb dX11_night_42 (lv_at hl 5 rfl) ?_
          refine lv_bipush (v := nI 10) hx hb dX11_night_44 (by decide) ?_
          refine lv_bipush (v := nI 14) hx hb dX11_night_46 (by decide) ?_
          refine vp_callSi (ro_runS (c_X11_within l D ka w2 (nI 10) (nI 14) _ _ _ hw2 (nT (by decide)) (nT (by decide))) X wd_789 wd_787 wd_788 wd_8 on_X11_within ⟨Nat.le_of_ble_eq_true rfl, Nat.le_of_ble_eq_true rfl⟩ trivial hl.1 rfl (Nat.le_of_ble_eq_true rfl) ⟨(Nat.zero_le _), (Nat.zero_le _)⟩ dX11_night_48) (fun r_26 hr_26 => ?_)
          subst hr_26
          refine b_if_ne (tgt := 57) hx hb dX11_night_51 (by decide) (fun c_27 => ?_) (fun c_27 => ?_)
          · obtain ⟨k1, hlt_k1, rfl, rfl⟩ := nat_ofK (n := 4) hk (by omega) (by omega)
            obtain ⟨q1, hlt_q1, rfl, rfl⟩ := nat_ofK (n := 3) hq (by omega) (by omega)
            obtain ⟨n1, hlt_n1, rfl, rfl⟩ := nat_ofK (n := 21) hn (by omega) (by omega)
            refine lv_aload_n hx hb dX11_night_57 rfl (lv_at hl 0 rfl) ?_
            refine lv_iload_n hx hb dX11_night_58 rfl (lv_at hl 1 rfl) ?_
            refine lv_iload_n hx hb dX11_night_59 rfl (lv_at hl 2 rfl) ?_
            refine lv_iload_n hx hb dX11_night_60 rfl (lv_at hl 3 rfl) ?_
            refine lv_iconst (v := nI 2) hx hb dX11_night_61 (by decide) ?_
            refine lv_iload hx hb dX11_night_62 (lv_at hl 4 rfl) ?_
            refine n_imul hx hb dX11_night_64 ?_
            refine vp_callSi (ro_runV (c_X11_against l D ka h a (up N 0 4 0) C f g R k1 q1 i (nI (2 * n1)) _ _ hi (nT (by omega)) (by omega) (by omega) (WF.up04 (v := 0) hN (by omega))) X wd_796 wd_793 wd_795 ws_2 wd_8 on_X11_against ⟨Nat.le_of_ble_eq_true rfl, Nat.le_of_ble_eq_true rfl⟩ (va_recv hK hw.2.1 (ci := 11) (q0 := 0) rfl rfl) hw.2.1 hl.1 rfl (Nat.le_of_ble_eq_true rfl) ⟨(Nat.zero_le _), (Nat.zero_le _)⟩ dX11_night_65) (fun r_28 hr_28 => ?_)
            subst hr_28
            refine lv_istore (lv' := [(6, .int (nI (agst (up N 0 4 0) k1 q1 I9 ((2 * n1 : Nat) : Int)))), (0, .ref h), (1, .int (nI k1)), (2, .int (nI q1)), (3, .int i), (4, .int (nI n1)), (5, .int w2)]) hx hb dX11_night_68 hl (by decide) rfl (fun ls hl => ?_)
            have hl : lv_has ls 9 [(6, .int (nI (agst N k1 q1 I9 (2 * (n1 : Int))))), (0, .ref h), (1, .int (nI k1)), (2, .int (nI q1)), (3, .int i), (4, .int (nI n1)), (5, .int w2)] := by rw [show (2 * (n1 : Int)) = (((2 * n1 : Nat)) : Int) by omega]; exact hl
            have hag : agst N k1 q1 I9 (2 * (n1 : Int)) < 5 := agst_lt _ _ _ _ _
            have hl10 := hN.2.2.2.2.2.2.2.2.2.2 k1
            refine lv_iload hx hb dX11_night_70 (lv_at hl 0 rfl) ?_
            refine i_if_eq (tgt := 82) hx hb (nT (by omega)) dX11_night_72 (by decide) (fun c_29 => ?_) (fun c_29 => ?_)
            · have hag0 : agst N k1 q1 I9 (2 * (n1 : Int)) = 0 := by omega
              obtain ⟨hi0, hi1, hi2, hi3⟩ := agst_0 hag0
              obtain ⟨i1, hlt_i1, rfl, rfl⟩ := nat_ofK (n := N 10 k1 + 1) hi (by omega) (by omega)
              have hl := lv_sub (l' := [(0, .ref h), (1, .int (nI k1)), (2, .int (nI q1)), (3, .int (nI i1)), (4, .int (nI n1)), (5, .int w2)]) hl [1, 2, 3, 4, 5, 6] rfl
              refine lv_aload_n hx hb dX11_night_82 rfl (lv_at hl 0 rfl) ?_
              refine va_get (D := D) (ci := 11) (v := .int (nI (N 0 1))) (C := RX11) (T := TX11) (N := 35) hx hb hts inX11 hown hK hw.2.1 0 rfl rfl 6 (by decide) (hts _ wd_680) (fun _ h9 => h9) rfl dX11_night_83 ?_
              refine i_if_ne (tgt := 92) hx hb (nT (by omega)) dX11_night_86 (by decide) (fun c_30 => ?_) (fun c_30 => ?_)
              · refine lv_bipush (v := nI 60) hx hb dX11_night_92 (by decide) ?_
                refine lv_iload_n hx hb dX11_night_94 rfl (lv_at hl 1 rfl) ?_
                refine n_imul hx hb dX11_night_95 ?_
                refine lv_iload_n hx hb dX11_night_96 rfl (lv_at hl 3 rfl) ?_
                refine n_iadd hx hb dX11_night_97 ?_
                refine lv_istore (lv' := [(7, .int (nI ((60 * k1) + i1))), (0, .ref h), (1, .int (nI k1)), (2, .int (nI q1)), (3, .int (nI i1)), (4, .int (nI n1)), (5, .int w2)]) hx hb dX11_night_98 hl (by decide) rfl (fun ls hl => ?_)
                refine lv_iconst (v := nI 0) hx hb dX11_night_100 (by decide) ?_
                refine lv_istore (lv' := [(8, .int (nI 0)), (7, .int (nI ((60 * k1) + i1))), (0, .ref h), (1, .int (nI k1)), (2, .int (nI q1)), (3, .int (nI i1)), (4, .int (nI n1)), (5, .int w2)]) hx hb dX11_night_101 hl (by decide) rfl (fun ls hl => ?_)
                have loop103 : ∀ (fuel103 : Nat) (pq : Nat), n1 - pq < fuel103 → (pq ≤ n1) → (pck (N 0 1) (fun j => cz C (60 * k1 + i1 + j)) pq = 0) → ∀ (H : Heap) (locs : List Loc), wdH D z (mw ka h a (up N 0 4 0) C f g ++ R) H → va_S (fun q => z ≤ q) s.heap H locs → ∀ ls : Array Slot, lv_has ls 9 [(0, .ref h), (1, .int (nI k1)), (2, .int (nI q1)), (3, .int (nI i1)), (4, .int (nI n1)), (5, .int w2), (7, .int (nI ((60 * k1) + i1))), (8, .int (nI pq))] → W p l e (rmz 3 0 0) s m args below meth c H locs 0 0 Q (F0 m 103 ls []) := by
                  intro fuel103
                  induction fuel103 with
                  | zero => intro pq hfu; exact absurd hfu (Nat.not_lt_zero _)
                  | succ fuel103 ih103 =>
                    intro pq hfu hpn hpk H locs hw hS ls hl
                    refine lv_iload hx hb dX11_night_103 (lv_at hl 7 rfl) ?_
                    refine lv_iload hx hb dX11_night_105 (lv_at hl 4 rfl) ?_
                    refine i_icmp_ge (tgt := 160) hx hb (nT (by omega)) (nT (by omega)) dX11_night_107 (by decide) (fun c_31 => ?_) (fun c_31 => ?_)
                    · have hpqn : pq = n1 := by omega
                      rw [hpqn] at hpk
                      refine lv_aload_n hx hb dX11_night_160 rfl (lv_at hl 0 rfl) ?_
                      refine lv_iload hx hb dX11_night_161 (lv_at hl 6 rfl) ?_
                      refine lv_iload hx hb dX11_night_163 (lv_at hl 4 rfl) ?_
                      refine mu_i (mu_runV (c_X11_goNight l D ka z h a (up N 0 4 0) C f g R (60 * k1 + i1) n1 (fun p => (cz C (60 * k1 + i1 + 2 * p)).toNat) (fun p => (cz C (60 * k1 + i1 + (2 * p + 1))).toNat) (by omega) (by omega) (fun p hp => ⟨nI_toNat (pck_ok hpk p hp).1.1, by have := (pck_ok hpk p hp).1; show (cz C (60 * k1 + i1 + 2 * p)).toNat < N 0 1; omega⟩) (fun p hp => ⟨nI_toNat (pck_ok hpk p hp).2.1, by have := (pck_ok hpk p hp).2; show (cz C (60 * k1 + i1 + (2 * p + 1))).toNat < 60; omega⟩) (show 0 < N 0 0 by omega) (WF.up04 (v := 0) hN (by omega))) X wd_903 wd_900 wd_902 ws_16 wd_8 on_X11_goNight ⟨Nat.le_of_ble_eq_true rfl, Nat.le_of_ble_eq_true rfl⟩ (va_recv hK hw.2.1 (ci := 11) (q0 := 0) rfl rfl) hw hl.1 rfl (Nat.le_of_ble_eq_true rfl) ⟨Nat.le_of_ble_eq_true rfl, Nat.le_of_ble_eq_true rfl⟩ dX11_night_165) hS (fun r_33 u_32 H locs hp_u_32 hw hS => ?_)
                      obtain ⟨f2, g2, rfl, hrr, hnn⟩ := hp_u_32
                      have hrr : r_33 = fno (fw (wrg (fun p => (cz C (60 * k1 + i1 + 2 * p)).toNat) (fun p => (cz C (60 * k1 + i1 + (2 * p + 1))).toNat) (fun p => hld N ((fun p => (cz C (60 * k1 + i1 + 2 * p)).toNat) p) ((fun p => (cz C (60 * k1 + i1 + (2 * p + 1))).toNat) p) 1)) n1) := hrr
                      have hw : wdH D z (mw ka h a (up N 0 4 0) C f2 g2 ++ R) H := hw
                      cases hf : fw (wrg (fun p => (cz C (60 * k1 + i1 + 2 * p)).toNat) (fun p => (cz C (60 * k1 + i1 + (2 * p + 1))).toNat) (fun p => hld N ((fun p => (cz C (60 * k1 + i1 + 2 * p)).toNat) p) ((fun p => (cz C (60 * k1 + i1 + (2 * p + 1))).toNat) p) 1)) n1 with
                      | none =>
                        rw [hf] at hrr; subst hrr
                        refine W.eq (g2 := F0 m 168 ls [.int (-9)]) rfl ?_
                        obtain ⟨hall, hlat, hhl, hins⟩ := hnn hf
                        refine lv_istore (lv' := [(8, .int (-9)), (0, .ref h), (1, .int (nI k1)), (2, .int (nI q1)), (3, .int (nI i1)), (4, .int (nI n1)), (5, .int w2), (7, .int (nI ((60 * k1) + i1)))]) hx hb dX11_night_168 hl (by decide) rfl (fun ls hl => ?_)
                        refine lv_iload hx hb dX11_night_170 (lv_at hl 6 rfl) ?_
                        refine lv_iconst (v := nI 1) hx hb dX11_night_172 (by decide) ?_
                        refine i_icmp_ne (tgt := 179) hx hb hw2 (nT (by decide)) dX11_night_173 (by decide) (fun c_34 => ?_) (fun c_34 => ?_)
                        · refine lv_iload hx hb dX11_night_179 (lv_at hl 0 rfl) ?_
                          refine lv_bipush (v := (-9)) hx hb dX11_night_181 (by decide) ?_
                          refine i_icmp_ne (tgt := 195) hx hb ng9 ng9 dX11_night_183 (by decide) (fun c_35 => absurd rfl c_35) (fun c_35 => ?_)
                          refine lv_aload_n hx hb dX11_night_186 rfl (lv_at hl 1 rfl) ?_
                          refine lv_iload hx hb dX11_night_187 (lv_at hl 6 rfl) ?_
                          refine vp_callSi (ro_runV (c_X11_tellNight l D ka h a (up N 0 4 0) C f2 g2 R n1 (fun p => (cz C (60 * k1 + i1 + 2 * p)).toNat) (fun p => (cz C (60 * k1 + i1 + (2 * p + 1))).toNat) (fun p => hld N ((fun p => (cz C (60 * k1 + i1 + 2 * p)).toNat) p) ((fun p => (cz C (60 * k1 + i1 + (2 * p + 1))).toNat) p) 1) w2 _ hw2 (by omega) hall hlat hhl hins (by omega) (WF.up04 (v := 0) hN (by omega))) X wd_907 wd_904 wd_906 ws_17 wd_8 on_X11_tellNight ⟨Nat.le_of_ble_eq_true rfl, Nat.le_of_ble_eq_true rfl⟩ (va_recv hK hw.2.1 (ci := 11) (q0 := 0) rfl rfl) hw.2.1 hl.1 rfl (Nat.le_of_ble_eq_true rfl) ⟨(Nat.zero_le _), (Nat.zero_le _)⟩ dX11_night_189) (fun r_36 hr_36 => ?_)
                          subst hr_36
                          refine W.eq (g2 := F0 m 192 ls [.int (nAns (N 0 1) (fun p => (cz C (60 * k1 + i1 + 2 * p)).toNat) (fun p => (cz C (60 * k1 + i1 + (2 * p + 1))).toNat) (fun p => hld N ((fun p => (cz C (60 * k1 + i1 + 2 * p)).toNat) p) ((fun p => (cz C (60 * k1 + i1 + (2 * p + 1))).toNat) p) 1) n1 W9)]) rfl ?_
                          refine lv_goto (tgt := 200) hx hb dX11_night_192 (by decide) ?_
                          refine hret _ _ _ _ _ _ _ _ dX11_night_200 hS hw (Nat.zero_le _) (Nat.zero_le _) ?_
                          refine ⟨f2, g2, (up N 0 4 0), C, rfl, ?_⟩
                          rw [sp_night_in (by omega) (by omega) (by omega) (by omega) hag0]
                          rw [if_neg (by omega), if_neg (by rw [hpk]; decide), if_neg (by rw [hpk]; decide)]
                          unfold nightA
                          rw [if_neg (by omega), hf]
                        · refine lv_iload hx hb dX11_night_176 (lv_at hl 0 rfl) ?_
                          refine hret _ _ _ _ _ _ _ _ dX11_night_178 hS hw (Nat.zero_le _) (Nat.zero_le _) ?_
                          refine ⟨f2, g2, (up N 0 4 0), C, rfl, ?_⟩
                          rw [sp_night_in (by omega) (by omega) (by omega) (by omega) hag0]
                          rw [if_neg (by omega), if_neg (by rw [hpk]; decide), if_neg (by rw [hpk]; decide)]
                          unfold nightA
                          rw [if_pos (by omega), hf]; rfl
                      | some px =>
                        rw [hf] at hrr; subst hrr
                        refine W.eq (g2 := F0 m 168 ls [.int (nI px)]) rfl ?_
                        have hpx := fw_lt hf
                        refine lv_istore (lv' := [(8, .int (nI px)), (0, .ref h), (1, .int (nI k1)), (2, .int (nI q1)), (3, .int (nI i1)), (4, .int (nI n1)), (5, .int w2), (7, .int (nI ((60 * k1) + i1)))]) hx hb dX11_night_168 hl (by decide) rfl (fun ls hl => ?_)
                        refine lv_iload hx hb dX11_night_170 (lv_at hl 6 rfl) ?_
                        refine lv_iconst (v := nI 1) hx hb dX11_night_172 (by decide) ?_
                        refine i_icmp_ne (tgt := 179) hx hb hw2 (nT (by decide)) dX11_night_173 (by decide) (fun c_37 => ?_) (fun c_37 => ?_)
                        · refine lv_iload hx hb dX11_night_179 (lv_at hl 0 rfl) ?_
                          refine lv_bipush (v := (-9)) hx hb dX11_night_181 (by decide) ?_
                          refine i_icmp_ne (tgt := 195) hx hb (nT (by omega)) ng9 dX11_night_183 (by decide) (fun c_38 => ?_) (fun c_38 => by omega)
                          refine lv_bipush (v := (-100)) hx hb dX11_night_195 (by decide) ?_
                          refine lv_iload hx hb dX11_night_197 (lv_at hl 0 rfl) ?_
                          refine lv_isub hx hb dX11_night_199 ?_
                          refine hret _ _ _ _ _ _ _ _ dX11_night_200 hS hw (Nat.zero_le _) (Nat.zero_le _) ?_
                          refine ⟨f2, g2, (up N 0 4 0), C, rfl, ?_⟩
                          rw [sp_night_in (by omega) (by omega) (by omega) (by omega) hag0]
                          rw [if_neg (by omega), if_neg (by rw [hpk]; decide), if_neg (by rw [hpk]; decide)]
                          unfold nightA
                          rw [if_neg (by omega), hf]
                        · refine lv_iload hx hb dX11_night_176 (lv_at hl 0 rfl) ?_
                          refine hret _ _ _ _ _ _ _ _ dX11_night_178 hS hw (Nat.zero_le _) (Nat.zero_le _) ?_
                          refine ⟨f2, g2, (up N 0 4 0), C, rfl, ?_⟩
                          rw [sp_night_in (by omega) (by omega) (by omega) (by omega) hag0]
                          rw [if_neg (by omega), if_neg (by rw [hpk]; decide), if_neg (by rw [hpk]; decide)]
                          unfold nightA
                          rw [if_pos (by omega), hf]; rfl
                    · refine lv_aload_n hx hb dX11_night_110 rfl (lv_at hl 0 rfl) ?_
                      refine lv_aload_n hx hb dX11_night_111 rfl (lv_at hl 0 rfl) ?_
                      refine va_get (D := D) (ci := 11) (v := .ref (a 4)) (C := RX11) (T := TX11) (N := 35) hx hb hts inX11 hown hK hw.2.1 0 rfl rfl 4 (by decide) (hts _ wd_678) (fun _ h9 => h9) rfl dX11_night_112 ?_
                      refine lv_iload hx hb dX11_night_115 (lv_at hl 6 rfl) ?_
                      refine lv_iconst (v := nI 2) hx hb dX11_night_117 (by decide) ?_
                      refine lv_iload hx hb dX11_night_118 (lv_at hl 7 rfl) ?_
                      refine n_imul hx hb dX11_night_120 ?_
                      refine n_iadd hx hb dX11_night_121 ?_
                      refine n_iald hx hb hK hw.2.1 3 0 rfl rfl (k := ((60 * k1) + i1) + (2 * pq)) (by omega) (by decide) dX11_night_122 ?_
                      refine W.eq (g2 := F0 m 123 ls [.int (C ((((60 * k1) + i1) + (2 * pq)) / 60) ((((60 * k1) + i1) + (2 * pq)) % 60)), .ref h]) rfl ?_
                      refine vp_callSi (ro_runV (c_X11_isTaker l D ka h a (up N 0 4 0) C f g R (C ((60 * k1 + i1 + 2 * pq) / 60) ((60 * k1 + i1 + 2 * pq) % 60)) _ (show (C ((60 * k1 + i1 + 2 * pq) / 60) ((60 * k1 + i1 + 2 * pq) % 60)).toInt = cz C (60 * k1 + i1 + 2 * pq) from rfl) (WF.up04 (v := 0) hN (by omega))) X wd_836 wd_833 wd_835 ws_11 wd_8 on_X11_isTaker ⟨Nat.le_of_ble_eq_true rfl, Nat.le_of_ble_eq_true rfl⟩ (va_recv hK hw.2.1 (ci := 11) (q0 := 0) rfl rfl) hw.2.1 hl.1 rfl (Nat.le_of_ble_eq_true rfl) ⟨(Nat.zero_le _), (Nat.zero_le _)⟩ dX11_night_123) (fun r_39 hr_39 => ?_)
                      subst hr_39
                      refine W.eq (g2 := F0 m 126 ls [.int (bI (0 ≤ (cz C (60 * k1 + i1 + 2 * pq)) ∧ (cz C (60 * k1 + i1 + 2 * pq)) < ((N 0 1 : Nat) : Int)))]) rfl ?_
                      refine b_if_ne (tgt := 131) hx hb dX11_night_126 (by decide) (fun c_40 => ?_) (fun c_40 => ?_)
                      · refine lv_aload_n hx hb dX11_night_131 rfl (lv_at hl 0 rfl) ?_
                        refine va_get (D := D) (ci := 11) (v := .ref (a 4)) (C := RX11) (T := TX11) (N := 35) hx hb hts inX11 hown hK hw.2.1 0 rfl rfl 4 (by decide) (hts _ wd_678) (fun _ h9 => h9) rfl dX11_night_132 ?_
                        refine lv_iload hx hb dX11_night_135 (lv_at hl 6 rfl) ?_
                        refine lv_iconst (v := nI 2) hx hb dX11_night_137 (by decide) ?_
                        refine lv_iload hx hb dX11_night_138 (lv_at hl 7 rfl) ?_
                        refine n_imul hx hb dX11_night_140 ?_
                        refine n_iadd hx hb dX11_night_141 ?_
                        refine lv_iconst (v := nI 1) hx hb dX11_night_142 (by decide) ?_
                        refine n_iadd hx hb dX11_night_143 ?_
                        refine n_iald hx hb hK hw.2.1 3 0 rfl rfl (k := (((60 * k1) + i1) + (2 * pq)) + 1) (by omega) (by decide) dX11_night_144 ?_
                        refine W.eq (g2 := F0 m 145 ls [.int (C (((((60 * k1) + i1) + (2 * pq)) + 1) / 60) (((((60 * k1) + i1) + (2 * pq)) + 1) % 60))]) rfl ?_
                        refine vp_callSi (ro_runS (c_X11_isMinute l D ka (C ((60 * k1 + i1 + 2 * pq + 1) / 60) ((60 * k1 + i1 + 2 * pq + 1) % 60)) _ (show (C ((60 * k1 + i1 + 2 * pq + 1) / 60) ((60 * k1 + i1 + 2 * pq + 1) % 60)).toInt = cz C (60 * k1 + i1 + (2 * pq + 1)) from rfl)) X wd_875 wd_873 wd_874 wd_8 on_X11_isMinute ⟨Nat.le_of_ble_eq_true rfl, Nat.le_of_ble_eq_true rfl⟩ trivial hl.1 rfl (Nat.le_of_ble_eq_true rfl) ⟨(Nat.zero_le _), (Nat.zero_le _)⟩ dX11_night_145) (fun r_41 hr_41 => ?_)
                        subst hr_41
                        refine b_if_ne (tgt := 154) hx hb dX11_night_148 (by decide) (fun c_42 => ?_) (fun c_42 => ?_)
                        · refine n_iinc (lv' := [(8, .int (nI (pq + 1))), (0, .ref h), (1, .int (nI k1)), (2, .int (nI q1)), (3, .int (nI i1)), (4, .int (nI n1)), (5, .int w2), (7, .int (nI ((60 * k1) + i1)))]) (k := 7) (d := 1) hx hb dX11_night_154 hl rfl rfl (by decide) rfl (fun ls hl => ?_)
                          refine lv_goto (tgt := 103) hx hb dX11_night_157 (by decide) ?_
                          exact ih103 (pq + 1) (by omega) (by omega) (pck_0 hpk (by omega) (by omega)) _ _ hw hS ls (lv_sub hl [1, 2, 3, 4, 5, 6, 7, 0] rfl)
                        · refine lv_bipush (v := (-2)) hx hb dX11_night_151 (by decide) ?_
                          refine hret _ _ _ _ _ _ _ _ dX11_night_153 hS hw (Nat.zero_le _) (Nat.zero_le _) ?_
                          refine ⟨f, g, (up N 0 4 0), C, rfl, ?_⟩
                          rw [sp_night_in (by omega) (by omega) (by omega) (by omega) hag0]
                          rw [if_neg (by omega), if_neg (by rw [pck_bad (pck_2 hpk (by omega) (by omega)) (by decide) n1 (by omega)]; decide), if_pos (pck_bad (pck_2 hpk (by omega) (by omega)) (by decide) n1 (by omega))]
                      · refine lv_iconst (v := (-1)) hx hb dX11_night_129 (by decide) ?_
                        refine hret _ _ _ _ _ _ _ _ dX11_night_130 hS hw (Nat.zero_le _) (Nat.zero_le _) ?_
                        refine ⟨f, g, (up N 0 4 0), C, rfl, ?_⟩
                        rw [sp_night_in (by omega) (by omega) (by omega) (by omega) hag0]
                        rw [if_neg (by omega), if_pos (pck_bad (pck_1 hpk (by omega)) (by decide) n1 (by omega))]
                exact loop103 _ 0 (Nat.lt_succ_self _) (by omega) rfl _ _ hw hS ls (lv_sub hl [2, 3, 4, 5, 6, 7, 1, 0] rfl)
              · refine lv_bipush (v := (-3)) hx hb dX11_night_89 (by decide) ?_
                refine hret _ _ _ _ _ _ _ _ dX11_night_91 hS hw (Nat.zero_le _) (Nat.zero_le _) ?_
                refine ⟨f, g, (up N 0 4 0), C, rfl, ?_⟩
                rw [sp_night_in (by omega) (by omega) (by omega) (by omega) hag0]
                rw [if_pos (by omega)]
            · refine lv_aload_n hx hb dX11_night_75 rfl (lv_at hl 1 rfl) ?_
              refine lv_iload hx hb dX11_night_76 (lv_at hl 0 rfl) ?_
              refine mu_i (mu_runV (c_X11_fails l D ka z h a (up N 0 4 0) C f g R (agst N k1 q1 I9 (2 * (n1 : Int))) (by omega) (WF.up04 (v := 0) hN (by omega))) X wd_800 wd_797 wd_799 ws_3 wd_8 on_X11_fails ⟨Nat.le_of_ble_eq_true rfl, Nat.le_of_ble_eq_true rfl⟩ (va_recv hK hw.2.1 (ci := 11) (q0 := 0) rfl rfl) hw hl.1 rfl (Nat.le_of_ble_eq_true rfl) ⟨Nat.le_of_ble_eq_true rfl, Nat.le_of_ble_eq_true rfl⟩ dX11_night_78) hS (fun r_44 u_43 H locs hp_u_43 hw hS => ?_)
              obtain ⟨rfl, rfl⟩ := hp_u_43
              refine hret _ _ _ _ _ _ _ _ dX11_night_81 hS hw (Nat.zero_le _) (Nat.zero_le _) ?_
              refine ⟨f, g, (up (up N 0 4 0) 0 4 (agst N k1 q1 I9 (2 * (n1 : Int)))), C, rfl, ?_⟩
              unfold sp_night
              rw [if_pos (by omega), if_pos (by omega)]
              rw [if_neg (show ¬ agst N (k1 : Int).toNat (q1 : Int).toNat I9 (2 * (n1 : Int)) = 0 from (show ¬ agst N k1 q1 I9 (2 * (n1 : Int)) = 0 by omega))]
              rfl
          · refine lv_bipush (v := (-2)) hx hb dX11_night_54 (by decide) ?_
            refine hret _ _ _ _ _ _ _ _ dX11_night_56 hS hw (Nat.zero_le _) (Nat.zero_le _) ?_
            refine ⟨f, g, (up N 0 4 0), C, rfl, ?_⟩
            unfold sp_night
            rw [if_pos (by omega), if_neg (by omega)]
  · refine lv_iconst (v := (-1)) hx hb dX11_night_12 (by decide) ?_
    refine hret _ _ _ _ _ _ _ _ dX11_night_13 hS hw (Nat.zero_le _) (Nat.zero_le _) ?_
    refine ⟨f, g, (up N 0 4 0), C, rfl, ?_⟩
    unfold sp_night
    rw [if_neg (by omega)]
