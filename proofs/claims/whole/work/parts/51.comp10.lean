theorem upd_x {f : Nat → Int32} {u : Nat → Int32} {q j : Nat} (hj : j < q + 1) (h : j < q → f j = u j) : upd f q (u q) j = u j := by
  unfold upd
  by_cases e : j = q
  · rw [if_pos e, e]
  · rw [if_neg e]; exact h (by omega)
set_option maxRecDepth 100000 in
set_option maxHeartbeats 4000000 in
theorem c_X0_readPairs (l : Launch) (D : va_G) (ka : Nat → ClassId) (z : Nat) (nb : Nat → Nat) (cn : Int32) (tq bq eq : Nat → Int32) (v ta : Nat → Nat) (N : NN) (wf df : Nat → Int32) (tf : Nat → Option Nat) (hV : VR N ta wf df tf) (hN : WF N) (hL : N 0 5 = 0) (ra ca la n1 : Nat) (C : CC) (k1 i1 n2 : Nat) (hn1 : n1 ≤ 60) (hn2 : n2 ≤ 20) (hin : i1 + 2 * n2 ≤ n1) (R : va_W) : MU l D ka z yX0_readPairs cX0_readPairs 9 (some .int) 3 0 0 [.ref (nb 0), .ref (v 0), .ref ra, .int (nI i1), .int (nI n2)] (([((nb 0), .inr (0, [.ref (nb 1), .ref (nb 2), .ref (nb 3), .int cn])), ((nb 1), .inl (ka 0, 20, .inl (tq))), ((nb 2), .inl (ka 0, 20, .inl (bq))), ((nb 3), .inl (ka 0, 20, .inl (eq)))] : va_W) ++ (kw ka v ta N wf df tf ++ (([(ra, .inr (3, [.int (nI la), .ref ca])), (ca, .inl (ka 0, n1, .inl (rof (C k1))))] : va_W) ++ R))) (Qi D z (fun r w => ∃ (cn' : Int32) (tq' bq' eq' : Nat → Int32), w = ([((nb 0), .inr (0, [.ref (nb 1), .ref (nb 2), .ref (nb 3), .int cn'])), ((nb 1), .inl (ka 0, 20, .inl (tq'))), ((nb 2), .inl (ka 0, 20, .inl (bq'))), ((nb 3), .inl (ka 0, 20, .inl (eq')))] : va_W) ++ (kw ka v ta N wf df tf ++ (([(ra, .inr (3, [.int (nI la), .ref ca])), (ca, .inl (ka 0, n1, .inl (rof (C k1))))] : va_W) ++ R)) ∧ ((pck (N 0 1) (fun j => cz C (60 * k1 + i1 + j)) n2 = 1 ∧ r = -1) ∨ (pck (N 0 1) (fun j => cz C (60 * k1 + i1 + j)) n2 = 2 ∧ r = -2) ∨ (pck (N 0 1) (fun j => cz C (60 * k1 + i1 + j)) n2 = 0 ∧ r = nI 0 ∧ cn' = nI n2 ∧ (∀ p, p < n2 → tq' p = nI (cz C (60 * k1 + i1 + 2 * p)).toNat ∧ bq' p = nI (cz C (60 * k1 + i1 + (2 * p + 1))).toNat ∧ eq' p = nI ((cz C (60 * k1 + i1 + (2 * p + 1))).toNat + hld N (cz C (60 * k1 + i1 + 2 * p)).toNat (cz C (60 * k1 + i1 + (2 * p + 1))).toNat 1)))))) := by
  refine MU.ofI (by decide) (Nat.le_of_ble_eq_true rfl) ?_
  intro p e s m args below meth c Q X hw hS hret ls hl
  obtain ⟨hx, hb, hml, hown, hts, hE⟩ := id X
  have hK := hE.1
  have hz0 := hw.1
  have hl : lv_has ls 9 [(0, .ref (nb 0)), (1, .ref (v 0)), (2, .ref ra), (3, .int (nI i1)), (4, .int (nI n2))] := hl
  have hN1 := hN.1
  refine lv_aload_n hx hb dX0_readPairs_0 rfl (lv_at hl 0 rfl) ?_
  refine lv_iconst (v := nI 0) hx hb dX0_readPairs_1 (by decide) ?_
  refine va_put (D := D) (ci := 0) (v := .int (nI 0)) (ty := .int) (C := RX0) (T := TX0) (N := 4) hx hb hts inX0 tyX0 tyX0_ok nmX0 hown hK hw.2.1 hw.2.2 hS 0 rfl rfl 3 (by decide) (hts _ wd_125) (fun _ h9 => h9) rfl (by decide +kernel) rfl rfl (Nat.le_of_ble_eq_true rfl) dX0_readPairs_2 (fun H locs hP hD hS => ?_)
  have hw : wdH D z (([((nb 0), .inr (0, [.ref (nb 1), .ref (nb 2), .ref (nb 3), .int (nI 0)])), ((nb 1), .inl (ka 0, 20, .inl (tq))), ((nb 2), .inl (ka 0, 20, .inl (bq))), ((nb 3), .inl (ka 0, 20, .inl (eq)))] : va_W) ++ (kw ka v ta N wf df tf ++ (([(ra, .inr (3, [.int (nI la), .ref ca])), (ca, .inl (ka 0, n1, .inl (rof (C k1))))] : va_W) ++ R))) H := ⟨Nat.le_trans hz0 hS.1, hP, hD⟩
  have hP : va_P D vwCl (kw ka v ta N wf df tf) H := hw.2.1.right.left
  have hRw : va_P D vwCl (([(ra, .inr (3, [.int (nI la), .ref ca])), (ca, .inl (ka 0, n1, .inl (rof (C k1))))] : va_W) ++ R) H := hw.2.1.right.right
  refine lv_iconst (v := nI 0) hx hb dX0_readPairs_5 (by decide) ?_
  refine lv_istore (lv' := [(5, .int (nI 0)), (0, .ref (nb 0)), (1, .ref (v 0)), (2, .ref ra), (3, .int (nI i1)), (4, .int (nI n2))]) hx hb dX0_readPairs_6 hl (by decide) rfl (fun ls hl => ?_)
  have loop8 : ∀ (fuel8 : Nat) (pq : Nat) (tq1 : Nat → Int32) (bq1 : Nat → Int32) (eq1 : Nat → Int32), n2 - pq < fuel8 → (pq ≤ n2) → (pck (N 0 1) (fun j => cz C (60 * k1 + i1 + j)) pq = 0) → (∀ p, p < pq → tq1 p = nI (cz C (60 * k1 + i1 + 2 * p)).toNat ∧ bq1 p = nI (cz C (60 * k1 + i1 + (2 * p + 1))).toNat ∧ eq1 p = nI ((cz C (60 * k1 + i1 + (2 * p + 1))).toNat + hld N (cz C (60 * k1 + i1 + 2 * p)).toNat (cz C (60 * k1 + i1 + (2 * p + 1))).toNat 1)) → ∀ (H : Heap) (locs : List Loc), wdH D z (([((nb 0), .inr (0, [.ref (nb 1), .ref (nb 2), .ref (nb 3), .int (nI pq)])), ((nb 1), .inl (ka 0, 20, .inl (tq1))), ((nb 2), .inl (ka 0, 20, .inl (bq1))), ((nb 3), .inl (ka 0, 20, .inl (eq1)))] : va_W) ++ (kw ka v ta N wf df tf ++ (([(ra, .inr (3, [.int (nI la), .ref ca])), (ca, .inl (ka 0, n1, .inl (rof (C k1))))] : va_W) ++ R))) H → va_S (fun q => z ≤ q) s.heap H locs → ∀ ls : Array Slot, lv_has ls 9 [(0, .ref (nb 0)), (1, .ref (v 0)), (2, .ref ra), (3, .int (nI i1)), (4, .int (nI n2)), (5, .int (nI pq))] → W p l e (rmz 3 0 0) s m args below meth c H locs 0 0 Q (F0 m 8 ls []) := by
    intro fuel8
    induction fuel8 with
    | zero => intro pq tq1 bq1 eq1 hfu; exact absurd hfu (Nat.not_lt_zero _)
    | succ fuel8 ih8 =>
      intro pq tq1 bq1 eq1 hfu hpq hck hap H locs hw hS ls hl
      have hP : va_P D vwCl (kw ka v ta N wf df tf) H := hw.2.1.right.left
      have hRw : va_P D vwCl (([(ra, .inr (3, [.int (nI la), .ref ca])), (ca, .inl (ka 0, n1, .inl (rof (C k1))))] : va_W) ++ R) H := hw.2.1.right.right
      refine lv_iload hx hb dX0_readPairs_8 (lv_at hl 5 rfl) ?_
      refine lv_iload hx hb dX0_readPairs_10 (lv_at hl 4 rfl) ?_
      refine i_icmp_ge (tgt := 119) hx hb (nT (by omega)) (nT (by omega)) dX0_readPairs_12 (by decide) (fun c_1 => ?_) (fun c_1 => ?_)
      · refine lv_iconst (v := nI 0) hx hb dX0_readPairs_119 (by decide) ?_
        refine hret _ _ _ _ _ _ _ _ dX0_readPairs_120 hS hw (Nat.zero_le _) (Nat.zero_le _) ?_
        exact ⟨_, _, _, _, rfl, Or.inr (Or.inr ⟨by rw [← show pq = n2 by omega]; exact hck, rfl, by rw [show pq = n2 by omega], fun p hp => hap p (by omega)⟩)⟩
      · refine lv_aload_n hx hb dX0_readPairs_15 rfl (lv_at hl 2 rfl) ?_
        refine va_get (D := D) (ci := 3) (v := .ref ca) (C := RX3) (T := TX3) (N := 2) hx hb hts inX3 hown hK hRw 0 rfl rfl 1 (by decide) (hts _ wd_572) (fun _ h9 => h9) rfl dX0_readPairs_16 ?_
        refine lv_iload_n hx hb dX0_readPairs_19 rfl (lv_at hl 3 rfl) ?_
        refine lv_iconst (v := nI 2) hx hb dX0_readPairs_20 (by decide) ?_
        refine lv_iload hx hb dX0_readPairs_21 (lv_at hl 5 rfl) ?_
        refine n_imul hx hb dX0_readPairs_23 ?_
        refine n_iadd hx hb dX0_readPairs_24 ?_
        refine n_iald hx hb hK hRw 1 0 rfl rfl (k := i1 + (2 * pq)) (by omega) (by omega) dX0_readPairs_25 ?_
        rw [rof_at (f := C k1) (i := i1 + 2 * pq) (by omega)]
        have hcz6 : (C k1 (i1 + 2 * pq)).toInt = cz C (60 * k1 + i1 + 2 * pq) := (cz_at C (by omega) (by omega)).symm
        skip
        refine lv_istore (lv' := [(6, .int (C k1 (i1 + 2 * pq))), (0, .ref (nb 0)), (1, .ref (v 0)), (2, .ref ra), (3, .int (nI i1)), (4, .int (nI n2)), (5, .int (nI pq))]) hx hb dX0_readPairs_26 hl (by decide) rfl (fun ls hl => ?_)
        refine lv_aload_n hx hb dX0_readPairs_28 rfl (lv_at hl 3 rfl) ?_
        refine va_get (D := D) (ci := 3) (v := .ref ca) (C := RX3) (T := TX3) (N := 2) hx hb hts inX3 hown hK hRw 0 rfl rfl 1 (by decide) (hts _ wd_572) (fun _ h9 => h9) rfl dX0_readPairs_29 ?_
        refine lv_iload_n hx hb dX0_readPairs_32 rfl (lv_at hl 4 rfl) ?_
        refine lv_iconst (v := nI 2) hx hb dX0_readPairs_33 (by decide) ?_
        refine lv_iload hx hb dX0_readPairs_34 (lv_at hl 6 rfl) ?_
        refine n_imul hx hb dX0_readPairs_36 ?_
        refine n_iadd hx hb dX0_readPairs_37 ?_
        refine lv_iconst (v := nI 1) hx hb dX0_readPairs_38 (by decide) ?_
        refine n_iadd hx hb dX0_readPairs_39 ?_
        refine n_iald hx hb hK hRw 1 0 rfl rfl (k := (i1 + (2 * pq)) + 1) (by omega) (by omega) dX0_readPairs_40 ?_
        rw [rof_at (f := C k1) (i := i1 + 2 * pq + 1) (by omega)]
        have hcz7 : (C k1 (i1 + 2 * pq + 1)).toInt = cz C (60 * k1 + i1 + (2 * pq + 1)) := (cz_at C (by omega) (by omega)).symm
        skip
        refine lv_istore (lv' := [(7, .int (C k1 (i1 + 2 * pq + 1))), (6, .int (C k1 (i1 + 2 * pq))), (0, .ref (nb 0)), (1, .ref (v 0)), (2, .ref ra), (3, .int (nI i1)), (4, .int (nI n2)), (5, .int (nI pq))]) hx hb dX0_readPairs_41 hl (by decide) rfl (fun ls hl => ?_)
        refine lv_aload_n hx hb dX0_readPairs_43 rfl (lv_at hl 3 rfl) ?_
        refine lv_iload hx hb dX0_readPairs_44 (lv_at hl 1 rfl) ?_
        refine va_csq (ro_runV (c_X8_takerAt l D ka v ta N wf df tf hV hN (C k1 (i1 + 2 * pq)) _ hcz6) X wd_311 wd_435 wd_309 wd_310 wd_3 on_X8_takerAt ⟨Nat.le_of_ble_eq_true rfl, Nat.le_of_ble_eq_true rfl⟩ (va_recv hK hP (ci := 8) (q0 := 0) rfl rfl) hP hl.1 rfl (Nat.le_of_ble_eq_true rfl) ⟨(Nat.zero_le _), (Nat.zero_le _)⟩ dX0_readPairs_46) (fun r_2 hr_2 => ?_)
        subst hr_2
        by_cases ct : 0 ≤ cz C (60 * k1 + i1 + 2 * pq) ∧ cz C (60 * k1 + i1 + 2 * pq) < ((N 0 1 : Nat) : Int)
        · rw [if_pos ct]
          have hjl : (cz C (60 * k1 + i1 + 2 * pq)).toNat < N 0 1 := by omega
          have hnx : C k1 (i1 + 2 * pq) = nI (cz C (60 * k1 + i1 + 2 * pq)).toNat := by rw [← hcz6]; exact nI_toNat (by omega)
          rw [hnx] at hl
          refine W.eq (g2 := F0 m 49 ls [.ref (ta (cz C (60 * k1 + i1 + 2 * pq)).toNat)]) rfl ?_
          refine lv_astore (lv' := [(8, .ref (ta (cz C (60 * k1 + i1 + 2 * pq)).toNat)), (7, .int (C k1 (i1 + 2 * pq + 1))), (6, .int (nI ((cz C (60 * k1 + i1 + 2 * pq)).toNat))), (0, .ref (nb 0)), (1, .ref (v 0)), (2, .ref ra), (3, .int (nI i1)), (4, .int (nI n2)), (5, .int (nI pq))]) hx hb dX0_readPairs_49 hl (by decide) rfl (fun ls hl => ?_)
          refine lv_aload hx hb dX0_readPairs_51 (lv_at hl 0 rfl) ?_
          refine lv_ifnonnull (tgt := 58) hx hb dX0_readPairs_53 (by decide) ?_
          refine lv_iload hx hb dX0_readPairs_58 (lv_at hl 1 rfl) ?_
          refine vp_callSi (ro_runSN (c_X10_isMinute l D ka (C k1 (i1 + 2 * pq + 1)) _ hcz7) X wd_379 (by simp [nestM]) wd_378 wd_1 on_X10_isMinute ⟨Nat.le_of_ble_eq_true rfl, Nat.le_of_ble_eq_true rfl⟩ trivial hl.1 rfl (Nat.le_of_ble_eq_true rfl) ⟨(Nat.zero_le _), (Nat.zero_le _)⟩ dX0_readPairs_60) (fun r_3 hr_3 => ?_)
          subst hr_3
          refine b_if_ne (tgt := 69) hx hb dX0_readPairs_63 (by decide) (fun c_4 => ?_) (fun c_4 => ?_)
          · have hny : C k1 (i1 + 2 * pq + 1) = nI (cz C (60 * k1 + i1 + (2 * pq + 1))).toNat := by rw [← hcz7]; exact nI_toNat (by omega)
            rw [hny] at hl
            have hml9 : (cz C (60 * k1 + i1 + (2 * pq + 1))).toNat < 60 := by omega
            refine lv_aload_n hx hb dX0_readPairs_69 rfl (lv_at hl 3 rfl) ?_
            refine va_get (D := D) (ci := 0) (v := .ref (nb 1)) (C := RX0) (T := TX0) (N := 4) hx hb hts inX0 hown hK hw.2.1 0 rfl rfl 0 (by decide) (hts _ wd_122) (fun _ h9 => h9) rfl dX0_readPairs_70 ?_
            refine lv_iload hx hb dX0_readPairs_73 (lv_at hl 8 rfl) ?_
            refine lv_iload hx hb dX0_readPairs_75 (lv_at hl 2 rfl) ?_
            refine r_iast hx hb hK hw.2.1 hw.2.2 hS 1 0 rfl rfl (k := pq) (by omega) (by decide) dX0_readPairs_77 (fun H locs hP hD hS => ?_)
            have hw : wdH D z (([((nb 0), .inr (0, [.ref (nb 1), .ref (nb 2), .ref (nb 3), .int (nI pq)])), ((nb 1), .inl (ka 0, 20, .inl (upd tq1 pq (nI ((cz C (60 * k1 + i1 + 2 * pq)).toNat))))), ((nb 2), .inl (ka 0, 20, .inl (bq1))), ((nb 3), .inl (ka 0, 20, .inl (eq1)))] : va_W) ++ (kw ka v ta N wf df tf ++ (([(ra, .inr (3, [.int (nI la), .ref ca])), (ca, .inl (ka 0, n1, .inl (rof (C k1))))] : va_W) ++ R))) H := ⟨Nat.le_trans hz0 hS.1, hP, hD⟩
            have hP : va_P D vwCl (kw ka v ta N wf df tf) H := hw.2.1.right.left
            have hRw : va_P D vwCl (([(ra, .inr (3, [.int (nI la), .ref ca])), (ca, .inl (ka 0, n1, .inl (rof (C k1))))] : va_W) ++ R) H := hw.2.1.right.right
            refine lv_aload_n hx hb dX0_readPairs_78 rfl (lv_at hl 3 rfl) ?_
            refine va_get (D := D) (ci := 0) (v := .ref (nb 2)) (C := RX0) (T := TX0) (N := 4) hx hb hts inX0 hown hK hw.2.1 0 rfl rfl 1 (by decide) (hts _ wd_123) (fun _ h9 => h9) rfl dX0_readPairs_79 ?_
            refine lv_iload hx hb dX0_readPairs_82 (lv_at hl 8 rfl) ?_
            refine lv_iload hx hb dX0_readPairs_84 (lv_at hl 1 rfl) ?_
            refine r_iast hx hb hK hw.2.1 hw.2.2 hS 2 0 rfl rfl (k := pq) (by omega) (by decide) dX0_readPairs_86 (fun H locs hP hD hS => ?_)
            have hw : wdH D z (([((nb 0), .inr (0, [.ref (nb 1), .ref (nb 2), .ref (nb 3), .int (nI pq)])), ((nb 1), .inl (ka 0, 20, .inl (upd tq1 pq (nI ((cz C (60 * k1 + i1 + 2 * pq)).toNat))))), ((nb 2), .inl (ka 0, 20, .inl (upd bq1 pq (nI ((cz C (60 * k1 + i1 + (2 * pq + 1))).toNat))))), ((nb 3), .inl (ka 0, 20, .inl (eq1)))] : va_W) ++ (kw ka v ta N wf df tf ++ (([(ra, .inr (3, [.int (nI la), .ref ca])), (ca, .inl (ka 0, n1, .inl (rof (C k1))))] : va_W) ++ R))) H := ⟨Nat.le_trans hz0 hS.1, hP, hD⟩
            have hP : va_P D vwCl (kw ka v ta N wf df tf) H := hw.2.1.right.left
            have hRw : va_P D vwCl (([(ra, .inr (3, [.int (nI la), .ref ca])), (ca, .inl (ka 0, n1, .inl (rof (C k1))))] : va_W) ++ R) H := hw.2.1.right.right
            refine lv_aload_n hx hb dX0_readPairs_87 rfl (lv_at hl 3 rfl) ?_
            refine va_get (D := D) (ci := 0) (v := .ref (nb 3)) (C := RX0) (T := TX0) (N := 4) hx hb hts inX0 hown hK hw.2.1 0 rfl rfl 2 (by decide) (hts _ wd_124) (fun _ h9 => h9) rfl dX0_readPairs_88 ?_
            refine lv_iload hx hb dX0_readPairs_91 (lv_at hl 8 rfl) ?_
            refine lv_iload hx hb dX0_readPairs_93 (lv_at hl 1 rfl) ?_
            refine lv_aload_n hx hb dX0_readPairs_95 rfl (lv_at hl 4 rfl) ?_
            refine lv_aload hx hb dX0_readPairs_96 (lv_at hl 0 rfl) ?_
            refine lv_iload hx hb dX0_readPairs_98 (lv_at hl 1 rfl) ?_
            refine vp_callSi (ro_runV (c_X8_heldAlone l D ka v ta N wf df tf hV hN hL ((cz C (60 * k1 + i1 + 2 * pq)).toNat) ((cz C (60 * k1 + i1 + (2 * pq + 1))).toNat) (by omega) (by omega)) X wd_383 wd_437 wd_381 wd_382 wd_3 on_X8_heldAlone ⟨Nat.le_of_ble_eq_true rfl, Nat.le_of_ble_eq_true rfl⟩ (va_recv hK hP (ci := 8) (q0 := 0) rfl rfl) hP hl.1 rfl (Nat.le_of_ble_eq_true rfl) ⟨(Nat.zero_le _), (Nat.zero_le _)⟩ dX0_readPairs_100) (fun r_6 hr_6 => ?_)
            subst hr_6
            have hb9_5 := hld_le N ((cz C (60 * k1 + i1 + 2 * pq)).toNat) ((cz C (60 * k1 + i1 + (2 * pq + 1))).toNat) 1
            refine n_iadd hx hb dX0_readPairs_103 ?_
            refine r_iast hx hb hK hw.2.1 hw.2.2 hS 3 0 rfl rfl (k := pq) (by omega) (by decide) dX0_readPairs_104 (fun H locs hP hD hS => ?_)
            have hw : wdH D z (([((nb 0), .inr (0, [.ref (nb 1), .ref (nb 2), .ref (nb 3), .int (nI pq)])), ((nb 1), .inl (ka 0, 20, .inl (upd tq1 pq (nI ((cz C (60 * k1 + i1 + 2 * pq)).toNat))))), ((nb 2), .inl (ka 0, 20, .inl (upd bq1 pq (nI ((cz C (60 * k1 + i1 + (2 * pq + 1))).toNat))))), ((nb 3), .inl (ka 0, 20, .inl (upd eq1 pq (nI (((cz C (60 * k1 + i1 + (2 * pq + 1))).toNat) + (hld N ((cz C (60 * k1 + i1 + 2 * pq)).toNat) ((cz C (60 * k1 + i1 + (2 * pq + 1))).toNat) 1))))))] : va_W) ++ (kw ka v ta N wf df tf ++ (([(ra, .inr (3, [.int (nI la), .ref ca])), (ca, .inl (ka 0, n1, .inl (rof (C k1))))] : va_W) ++ R))) H := ⟨Nat.le_trans hz0 hS.1, hP, hD⟩
            have hP : va_P D vwCl (kw ka v ta N wf df tf) H := hw.2.1.right.left
            have hRw : va_P D vwCl (([(ra, .inr (3, [.int (nI la), .ref ca])), (ca, .inl (ka 0, n1, .inl (rof (C k1))))] : va_W) ++ R) H := hw.2.1.right.right
            refine lv_aload_n hx hb dX0_readPairs_105 rfl (lv_at hl 3 rfl) ?_
            refine lv_iload hx hb dX0_readPairs_106 (lv_at hl 8 rfl) ?_
            refine lv_iconst (v := nI 1) hx hb dX0_readPairs_108 (by decide) ?_
            refine n_iadd hx hb dX0_readPairs_109 ?_
            refine va_put (D := D) (ci := 0) (v := .int (nI (pq + 1))) (ty := .int) (C := RX0) (T := TX0) (N := 4) hx hb hts inX0 tyX0 tyX0_ok nmX0 hown hK hw.2.1 hw.2.2 hS 0 rfl rfl 3 (by decide) (hts _ wd_125) (fun _ h9 => h9) rfl (by decide +kernel) rfl rfl (Nat.le_of_ble_eq_true rfl) dX0_readPairs_110 (fun H locs hP hD hS => ?_)
            have hw : wdH D z (([((nb 0), .inr (0, [.ref (nb 1), .ref (nb 2), .ref (nb 3), .int (nI (pq + 1))])), ((nb 1), .inl (ka 0, 20, .inl (upd tq1 pq (nI ((cz C (60 * k1 + i1 + 2 * pq)).toNat))))), ((nb 2), .inl (ka 0, 20, .inl (upd bq1 pq (nI ((cz C (60 * k1 + i1 + (2 * pq + 1))).toNat))))), ((nb 3), .inl (ka 0, 20, .inl (upd eq1 pq (nI (((cz C (60 * k1 + i1 + (2 * pq + 1))).toNat) + (hld N ((cz C (60 * k1 + i1 + 2 * pq)).toNat) ((cz C (60 * k1 + i1 + (2 * pq + 1))).toNat) 1))))))] : va_W) ++ (kw ka v ta N wf df tf ++ (([(ra, .inr (3, [.int (nI la), .ref ca])), (ca, .inl (ka 0, n1, .inl (rof (C k1))))] : va_W) ++ R))) H := ⟨Nat.le_trans hz0 hS.1, hP, hD⟩
            have hP : va_P D vwCl (kw ka v ta N wf df tf) H := hw.2.1.right.left
            have hRw : va_P D vwCl (([(ra, .inr (3, [.int (nI la), .ref ca])), (ca, .inl (ka 0, n1, .inl (rof (C k1))))] : va_W) ++ R) H := hw.2.1.right.right
            refine n_iinc (lv' := [(5, .int (nI (pq + 1))), (8, .ref (ta (cz C (60 * k1 + i1 + 2 * pq)).toNat)), (7, .int (nI ((cz C (60 * k1 + i1 + (2 * pq + 1))).toNat))), (6, .int (nI ((cz C (60 * k1 + i1 + 2 * pq)).toNat))), (0, .ref (nb 0)), (1, .ref (v 0)), (2, .ref ra), (3, .int (nI i1)), (4, .int (nI n2))]) (k := 8) (d := 1) hx hb dX0_readPairs_113 hl rfl rfl (by decide) rfl (fun ls hl => ?_)
            refine lv_goto (tgt := 8) hx hb dX0_readPairs_116 (by decide) ?_
            exact ih8 (pq + 1) (upd tq1 pq (nI ((cz C (60 * k1 + i1 + 2 * pq)).toNat))) (upd bq1 pq (nI ((cz C (60 * k1 + i1 + (2 * pq + 1))).toNat))) (upd eq1 pq (nI (((cz C (60 * k1 + i1 + (2 * pq + 1))).toNat) + (hld N ((cz C (60 * k1 + i1 + 2 * pq)).toNat) ((cz C (60 * k1 + i1 + (2 * pq + 1))).toNat) 1)))) (by omega) (by omega) (pck_0 hck ct (by assumption)) (fun p hp => ⟨upd_x (u := fun p => nI (cz C (60 * k1 + i1 + 2 * p)).toNat) hp (fun q => (hap p q).1), upd_x (u := fun p => nI (cz C (60 * k1 + i1 + (2 * p + 1))).toNat) hp (fun q => (hap p q).2.1), upd_x (u := fun p => nI ((cz C (60 * k1 + i1 + (2 * p + 1))).toNat + hld N (cz C (60 * k1 + i1 + 2 * p)).toNat (cz C (60 * k1 + i1 + (2 * p + 1))).toNat 1)) hp (fun q => (hap p q).2.2)⟩) _ _ hw hS ls (lv_sub hl [4, 5, 6, 7, 8, 0] rfl)
          · refine lv_bipush (v := (-2)) hx hb dX0_readPairs_66 (by decide) ?_
            refine hret _ _ _ _ _ _ _ _ dX0_readPairs_68 hS hw (Nat.zero_le _) (Nat.zero_le _) ?_
            exact ⟨_, _, _, _, rfl, Or.inr (Or.inl ⟨pck_bad (pck_2 hck ct (by assumption)) (by decide) _ (by omega), rfl⟩)⟩
        · rw [if_neg ct]
          refine W.eq (g2 := F0 m 49 ls [.null]) rfl ?_
          refine lv_astoreN (lv' := [(8, .null), (7, .int (C k1 (i1 + 2 * pq + 1))), (6, .int (C k1 (i1 + 2 * pq))), (0, .ref (nb 0)), (1, .ref (v 0)), (2, .ref ra), (3, .int (nI i1)), (4, .int (nI n2)), (5, .int (nI pq))]) hx hb dX0_readPairs_49 hl (by decide) rfl (fun ls hl => ?_)
          refine lv_aloadN hx hb dX0_readPairs_51 (lv_at hl 0 rfl) ?_
          refine lv_ifnonnullN hx hb dX0_readPairs_53 ?_
          refine lv_iconst (v := (-1)) hx hb dX0_readPairs_56 (by decide) ?_
          refine hret _ _ _ _ _ _ _ _ dX0_readPairs_57 hS hw (Nat.zero_le _) (Nat.zero_le _) ?_
          exact ⟨_, _, _, _, rfl, Or.inl ⟨pck_bad (pck_1 hck ct) (by decide) _ (by omega), rfl⟩⟩
  exact loop8 _ 0 tq bq eq (Nat.lt_succ_self _) (by omega) rfl (fun p hp => absurd hp (Nat.not_lt_zero _)) _ _ hw hS ls (lv_sub hl [1, 2, 3, 4, 5, 0] rfl)
set_option maxRecDepth 100000 in
set_option maxHeartbeats 4000000 in
theorem c_X4_weigh (l : Launch) (D : va_G) (ka : Nat → ClassId) (z : Nat) (b mr : Nat → Nat) (Mf : Nat → Nat → Nat) (Gf : Nat → Nat) (hMf : ∀ i j, Mf i j ≤ 1000) (hGf : ∀ i, Gf i < 32) (v ta : Nat → Nat) (N : NN) (wf df : Nat → Int32) (tf : Nat → Option Nat) (hV : VR N ta wf df tf) (hN : WF N) (hL : N 0 5 = 0) (m0 : Nat) (hm0 : m0 < 60) (R : va_W) : MU l D ka z yX4_weigh cX4_weigh 7 none 4 0 0 [.ref (b 0), .ref (v 0), .int (nI m0)] (sdw ka b mr Mf Gf ++ (kw ka v ta N wf df tf ++ R)) (Qv D z (fun w => ∃ Mf' Gf', w = sdw ka b mr Mf' Gf' ++ (kw ka v ta N wf df tf ++ R) ∧ (∀ i j, Mf' i j ≤ 1000) ∧ (∀ i, Gf' i < 32) ∧ wgd (fun a => gts N a m0) (N 5) (N 0 2) (N 0 1) Mf' Gf' 0)) := by
  refine MU.ofV (by decide) (Nat.le_of_ble_eq_true rfl) ?_
  intro p e s m args below meth c Q X hin hw hS hret ls hl
  obtain ⟨hx, hb, hml, hown, hts, hE⟩ := id X
  have hK := hE.1
  have hz0 := hw.1
  have hl : lv_has ls 7 [(0, .ref (b 0)), (1, .ref (v 0)), (2, .int (nI m0))] := hl
  have hN1 := hN.1
  have hP : va_P D vwCl (kw ka v ta N wf df tf) s.heap := hw.2.1.right.left
  have hR9 : va_P D vwCl (sdw ka b mr Mf Gf) s.heap := hw.2.1.left
  refine lv_aload_n hx hb dX4_weigh_0 rfl (lv_at hl 1 rfl) ?_
  refine va_get (D := D) (ci := 8) (v := .int (nI (N 0 1))) (C := RX8) (T := TX8) (N := 6) hx hb hts inX8 hown hK hP 0 rfl rfl 4 (by decide) (hts _ wd_53) (fun _ h9 => h9) rfl dX4_weigh_1 ?_
  refine lv_istore_n (lv' := [(3, .int (nI (N 0 1))), (0, .ref (b 0)), (1, .ref (v 0)), (2, .int (nI m0))]) hx hb dX4_weigh_4 rfl hl (by decide) rfl (fun ls hl => ?_)
  refine lv_iconst (v := nI 0) hx hb dX4_weigh_5 (by decide) ?_
  refine lv_istore (lv' := [(4, .int (nI 0)), (3, .int (nI (N 0 1))), (0, .ref (b 0)), (1, .ref (v 0)), (2, .int (nI m0))]) hx hb dX4_weigh_6 hl (by decide) rfl (fun ls hl => ?_)
  have loop8 : ∀ (fuel8 : Nat) (tq : Nat) (Mf1 : Nat → Nat → Nat), 32 - tq < fuel8 → (tq ≤ 32) → (∀ i j, Mf1 i j ≤ 1000) → (∀ t, t < tq → Mf1 (N 0 1) t = 0) → ∀ (H : Heap) (locs : List Loc), wdH D z (sdw ka b mr Mf1 Gf ++ (kw ka v ta N wf df tf ++ R)) H → va_S (fun q => z ≤ q) s.heap H locs → ∀ ls : Array Slot, lv_has ls 7 [(0, .ref (b 0)), (1, .ref (v 0)), (2, .int (nI m0)), (3, .int (nI (N 0 1))), (4, .int (nI tq))] → W p l e (rmz 4 0 0) s m args below meth c H locs 0 0 Q (F0 m 8 ls []) := by
    intro fuel8
    induction fuel8 with
    | zero => intro tq Mf1 hfu; exact absurd hfu (Nat.not_lt_zero _)
    | succ fuel8 ih8 =>
      intro tq Mf1 hfu htq hM1 hz1 H locs hw hS ls hl
      have hP : va_P D vwCl (kw ka v ta N wf df tf) H := hw.2.1.right.left
      have hR9 : va_P D vwCl (sdw ka b mr Mf1 Gf) H := hw.2.1.left
      refine lv_iload hx hb dX4_weigh_8 (lv_at hl 4 rfl) ?_
      refine lv_bipush (v := nI 32) hx hb dX4_weigh_10 (by decide) ?_
      refine i_icmp_ge (tgt := 31) hx hb (nT (by omega)) (nT (by decide)) dX4_weigh_12 (by decide) (fun c_1 => ?_) (fun c_1 => ?_)
      · refine lv_iload_n hx hb dX4_weigh_31 rfl (lv_at hl 3 rfl) ?_
        refine lv_iconst (v := nI 1) hx hb dX4_weigh_32 (by decide) ?_
        refine lv_isub hx hb dX4_weigh_33 ?_
        refine lv_istore (lv' := [(4, .int (nI (N 0 1) - nI 1)), (0, .ref (b 0)), (1, .ref (v 0)), (2, .int (nI m0)), (3, .int (nI (N 0 1)))]) hx hb dX4_weigh_34 hl (by decide) rfl (fun ls hl => ?_)
        have hW0 : wgd (fun a => gts N a m0) (N 5) (N 0 2) (N 0 1) Mf1 Gf (N 0 1) := ⟨fun i h1 h2 t ht => by
          obtain rfl : i = N 0 1 := by omega
          rw [hz1 t (by omega), Nat.sub_self]
          rfl, fun i h1 h2 => by omega⟩
        have loop36 : ∀ (fuel36 : Nat) (xq : Nat) (Mf2 : Nat → Nat → Nat) (Gf2 : Nat → Nat), xq < fuel36 → (xq ≤ N 0 1) → (∀ i j, Mf2 i j ≤ 1000) → (∀ i, Gf2 i < 32) → (wgd (fun a => gts N a m0) (N 5) (N 0 2) (N 0 1) Mf2 Gf2 xq) → ∀ (H : Heap) (locs : List Loc), wdH D z (sdw ka b mr Mf2 Gf2 ++ (kw ka v ta N wf df tf ++ R)) H → va_S (fun q => z ≤ q) s.heap H locs → ∀ ls : Array Slot, lv_has ls 7 [(0, .ref (b 0)), (1, .ref (v 0)), (2, .int (nI m0)), (3, .int (nI (N 0 1))), (4, .int (nI xq - nI 1))] → W p l e (rmz 4 0 0) s m args below meth c H locs 0 0 Q (F0 m 36 ls []) := by
          intro fuel36
          induction fuel36 with
          | zero => intro xq Mf2 Gf2 hfu; exact absurd hfu (Nat.not_lt_zero _)
          | succ fuel36 ih36 =>
            intro xq Mf2 Gf2 hfu hxq hM2 hG2 hW2 H locs hw hS ls hl
            have hP : va_P D vwCl (kw ka v ta N wf df tf) H := hw.2.1.right.left
            have hR9 : va_P D vwCl (sdw ka b mr Mf2 Gf2) H := hw.2.1.left
            refine lv_iload hx hb dX4_weigh_36 (lv_at hl 4 rfl) ?_
            refine i_if_lt (tgt := 113) hx hb (pk_sub_toInt (a := xq) (b := 1) (by omega) (by omega)) dX4_weigh_38 (by decide) (fun c_2 => ?_) (fun c_2 => ?_)
            · exact hret _ _ _ _ _ _ _ dX4_weigh_113 hS hw (Nat.zero_le _) (Nat.zero_le _) ⟨Mf2, Gf2, rfl, hM2, hG2, by rw [show xq = 0 by omega] at hW2; exact hW2⟩
            · have hx1 : nI xq - nI 1 = nI (xq - 1) := pk_sub (by omega)
              rw [hx1] at hl
              refine lv_aload_n hx hb dX4_weigh_41 rfl (lv_at hl 1 rfl) ?_
              refine lv_iload hx hb dX4_weigh_42 (lv_at hl 4 rfl) ?_
              refine va_csq (ro_runV (c_X8_takerAt l D ka v ta N wf df tf hV hN (nI (xq - 1)) _ (nT (by omega))) X wd_311 wd_487 wd_309 wd_310 wd_3 on_X8_takerAt ⟨Nat.le_of_ble_eq_true rfl, Nat.le_of_ble_eq_true rfl⟩ (va_recv hK hP (ci := 8) (q0 := 0) rfl rfl) hP hl.1 rfl (Nat.le_of_ble_eq_true rfl) ⟨(Nat.zero_le _), (Nat.zero_le _)⟩ dX4_weigh_44) (fun r_3 hr_3 => ?_)
              subst hr_3
              rw [if_pos (by omega)]
              refine W.eq (g2 := F0 m 47 ls [.ref (ta (xq - 1))]) rfl ?_
              refine lv_astore (lv' := [(5, .ref (ta (xq - 1))), (0, .ref (b 0)), (1, .ref (v 0)), (2, .int (nI m0)), (3, .int (nI (N 0 1))), (4, .int (nI (xq - 1)))]) hx hb dX4_weigh_47 hl (by decide) rfl (fun ls hl => ?_)
              refine lv_aload_n hx hb dX4_weigh_49 rfl (lv_at hl 1 rfl) ?_
              refine va_get (D := D) (ci := 4) (v := .ref (b 2)) (C := RX4) (T := TX4) (N := 2) hx hb hts inX4 hown hK hR9 0 rfl rfl 1 (by decide) (hts _ wd_144) (fun _ h9 => h9) rfl dX4_weigh_50 ?_
              refine lv_iload hx hb dX4_weigh_53 (lv_at hl 5 rfl) ?_
              refine lv_aload hx hb dX4_weigh_55 (lv_at hl 0 rfl) ?_
              refine lv_ifnonnull (tgt := 64) hx hb dX4_weigh_57 (by decide) ?_
              refine lv_aload_n hx hb dX4_weigh_64 rfl (lv_at hl 2 rfl) ?_
              refine lv_aload hx hb dX4_weigh_65 (lv_at hl 0 rfl) ?_
              refine lv_iload_n hx hb dX4_weigh_67 rfl (lv_at hl 3 rfl) ?_
              refine vp_callSi (ro_runV (c_X8_goodsGot l D ka v ta N wf df tf hV hN hL (xq - 1) m0 (by omega) (by omega)) X wd_478 wd_488 wd_476 wd_477 wd_3 on_X8_goodsGot ⟨Nat.le_of_ble_eq_true rfl, Nat.le_of_ble_eq_true rfl⟩ (va_recv hK hP (ci := 8) (q0 := 0) rfl rfl) hP hl.1 rfl (Nat.le_of_ble_eq_true rfl) ⟨(Nat.zero_le _), (Nat.zero_le _)⟩ dX4_weigh_68) (fun r_5 hr_5 => ?_)
              subst hr_5
              have hb9_4 := gts_lt N (xq - 1) m0 (by omega)
              refine n_iast hx hb hK hw.2.1 hw.2.2 hS 2 0 (φ := nI) (u := Gf2) (v := gts N (xq - 1) m0) rfl rfl (k := xq - 1) rfl (by omega) (by decide) dX4_weigh_71 (fun H locs hP hD hS => ?_)
              have hw : wdH D z (sdw ka b mr Mf2 (upN Gf2 (xq - 1) (gts N (xq - 1) m0)) ++ (kw ka v ta N wf df tf ++ R)) H := ⟨Nat.le_trans hz0 hS.1, hP, hD⟩
              have hP : va_P D vwCl (kw ka v ta N wf df tf) H := hw.2.1.right.left
              have hR9 : va_P D vwCl (sdw ka b mr Mf2 (upN Gf2 (xq - 1) (gts N (xq - 1) m0))) H := hw.2.1.left
              refine lv_iconst (v := nI 0) hx hb dX4_weigh_72 (by decide) ?_
              refine lv_istore (lv' := [(6, .int (nI 0)), (5, .ref (ta (xq - 1))), (0, .ref (b 0)), (1, .ref (v 0)), (2, .int (nI m0)), (3, .int (nI (N 0 1))), (4, .int (nI (xq - 1)))]) hx hb dX4_weigh_73 hl (by decide) rfl (fun ls hl => ?_)
              have hG3 : ∀ i, upN Gf2 (xq - 1) (gts N (xq - 1) m0) i < 32 := upN_lt (gts_lt N _ _ (by omega)) hG2
              have hg3 : upN Gf2 (xq - 1) (gts N (xq - 1) m0) (xq - 1) = gts N (xq - 1) m0 := if_pos rfl
              have loop75 : ∀ (fuel75 : Nat) (tq : Nat) (Mf3 : Nat → Nat → Nat), 32 - tq < fuel75 → (tq ≤ 32) → (∀ i j, Mf3 i j ≤ 1000) → (∀ i, xq ≤ i → Mf3 i = Mf2 i) → (∀ t, t < tq → Mf3 (xq - 1) t = bsv (fun a => gts N a m0) (N 5) (N 0 2) (N 0 1 - (xq - 1)) (xq - 1) t) → ∀ (H : Heap) (locs : List Loc), wdH D z (sdw ka b mr Mf3 (upN Gf2 (xq - 1) (gts N (xq - 1) m0)) ++ (kw ka v ta N wf df tf ++ R)) H → va_S (fun q => z ≤ q) s.heap H locs → ∀ ls : Array Slot, lv_has ls 7 [(0, .ref (b 0)), (1, .ref (v 0)), (2, .int (nI m0)), (3, .int (nI (N 0 1))), (4, .int (nI (xq - 1))), (5, .ref (ta (xq - 1))), (6, .int (nI tq))] → W p l e (rmz 4 0 0) s m args below meth c H locs 0 0 Q (F0 m 75 ls []) := by
                intro fuel75
                induction fuel75 with
                | zero => intro tq Mf3 hfu; exact absurd hfu (Nat.not_lt_zero _)
                | succ fuel75 ih75 =>
                  intro tq Mf3 hfu htq hM3 hk3 hr3 H locs hw hS ls hl
                  have hP : va_P D vwCl (kw ka v ta N wf df tf) H := hw.2.1.right.left
                  have hR9 : va_P D vwCl (sdw ka b mr Mf3 (upN Gf2 (xq - 1) (gts N (xq - 1) m0))) H := hw.2.1.left
                  refine lv_iload hx hb dX4_weigh_75 (lv_at hl 6 rfl) ?_
                  refine lv_bipush (v := nI 32) hx hb dX4_weigh_77 (by decide) ?_
                  refine i_icmp_ge (tgt := 107) hx hb (nT (by omega)) (nT (by decide)) dX4_weigh_79 (by decide) (fun c_6 => ?_) (fun c_6 => ?_)
                  · refine lv_iinc (v := nI (xq - 1) - nI 1) (lv' := [(4, .int (nI (xq - 1) - nI 1)), (0, .ref (b 0)), (1, .ref (v 0)), (2, .int (nI m0)), (3, .int (nI (N 0 1))), (5, .ref (ta (xq - 1))), (6, .int (nI tq))]) (k := 4) hx hb dX4_weigh_107 hl rfl (sub1_eq _) (by decide) rfl (fun ls hl => ?_)
                    refine lv_goto (tgt := 36) hx hb dX4_weigh_110 (by decide) ?_
                    have hW3 : wgd (fun a => gts N a m0) (N 5) (N 0 2) (N 0 1) Mf3 (upN Gf2 (xq - 1) (gts N (xq - 1) m0)) (xq - 1) := ⟨fun i h1 h2 t ht => by
                      rcases Nat.eq_or_lt_of_le h1 with q | q
                      · rw [← q]; exact hr3 t (by omega)
                      · rw [hk3 i (by omega)]; exact hW2.1 i (by omega) h2 t ht, fun i h1 h2 => by
                      rcases Nat.eq_or_lt_of_le h1 with q | q
                      · rw [← q]; exact hg3
                      · have := hW2.2 i (by omega) h2
                        unfold upN
                        rw [if_neg (by omega)]; exact this⟩
                    exact ih36 (xq - 1) Mf3 (upN Gf2 (xq - 1) (gts N (xq - 1) m0)) (by omega) (by omega) hM3 hG3 hW3 _ _ hw hS ls (lv_sub hl [1, 2, 3, 4, 0] rfl)
                  · refine lv_aload_n hx hb dX4_weigh_82 rfl (lv_at hl 0 rfl) ?_
                    refine va_get (D := D) (ci := 4) (v := .ref (b 1)) (C := RX4) (T := TX4) (N := 2) hx hb hts inX4 hown hK hR9 0 rfl rfl 0 (by decide) (hts _ wd_143) (fun _ h9 => h9) rfl dX4_weigh_83 ?_
                    refine lv_iload hx hb dX4_weigh_86 (lv_at hl 4 rfl) ?_
                    refine n_aaldA hx hb hK hR9 1 3 rfl rfl (k := xq - 1) (by omega) (by decide) dX4_weigh_88 ?_
                    rw [if_pos (show xq - 1 < 6 by omega)]
                    refine W.eq (g2 := F0 m 89 ls [.ref (mr (xq - 1))]) rfl ?_
                    refine lv_iload hx hb dX4_weigh_89 (lv_at hl 6 rfl) ?_
                    refine lv_aload_n hx hb dX4_weigh_91 rfl (lv_at hl 0 rfl) ?_
                    refine lv_aload_n hx hb dX4_weigh_92 rfl (lv_at hl 1 rfl) ?_
                    refine lv_iload hx hb dX4_weigh_93 (lv_at hl 4 rfl) ?_
                    refine lv_iload hx hb dX4_weigh_95 (lv_at hl 6 rfl) ?_
                    refine vp_callSi (ro_runV (c_X4_mostWith l D ka b mr Mf3 (upN Gf2 (xq - 1) (gts N (xq - 1) m0)) hM3 hG3 v ta N wf df tf hV hN (xq - 1) tq (by omega) (by omega)) X wd_492 wd_489 wd_490 wd_491 wd_6 on_X4_mostWith ⟨Nat.le_of_ble_eq_true rfl, Nat.le_of_ble_eq_true rfl⟩ (va_recv hK hR9 (ci := 4) (q0 := 0) rfl rfl) ⟨hR9, hP⟩ hl.1 rfl (Nat.le_of_ble_eq_true rfl) ⟨(Nat.zero_le _), (Nat.zero_le _)⟩ dX4_weigh_97) (fun r_7 hr_7 => ?_)
                    subst hr_7
                    refine n_iast hx hb hK hw.2.1 hw.2.2 hS (3 + (xq - 1)) 0 (φ := nI) (u := Mf3 (xq - 1)) (v := mxg (opt (upN Gf2 (xq - 1) (gts N (xq - 1) m0)) (N 5) (xq - 1) tq (Mf3 (xq - 1 + 1))) (N 0 2) (Mf3 (xq - 1 + 1) tq)) (sdw_atR (a := xq - 1) (by omega)) rfl (k := tq) rfl (by omega) (by decide) dX4_weigh_100 (fun H locs hP hD hS => ?_)
                    rw [sdw_set (by omega)] at hP hD
                    have hw : wdH D z (sdw ka b mr (up Mf3 (xq - 1) tq (mxg (opt (upN Gf2 (xq - 1) (gts N (xq - 1) m0)) (N 5) (xq - 1) tq (Mf3 (xq - 1 + 1))) (N 0 2) (Mf3 (xq - 1 + 1) tq))) (upN Gf2 (xq - 1) (gts N (xq - 1) m0)) ++ (kw ka v ta N wf df tf ++ R)) H := ⟨Nat.le_trans hz0 hS.1, hP, hD⟩
                    have hP : va_P D vwCl (kw ka v ta N wf df tf) H := hw.2.1.right.left
                    have hR9 : va_P D vwCl (sdw ka b mr (up Mf3 (xq - 1) tq (mxg (opt (upN Gf2 (xq - 1) (gts N (xq - 1) m0)) (N 5) (xq - 1) tq (Mf3 (xq - 1 + 1))) (N 0 2) (Mf3 (xq - 1 + 1) tq))) (upN Gf2 (xq - 1) (gts N (xq - 1) m0))) H := hw.2.1.left
                    refine n_iinc (lv' := [(6, .int (nI (tq + 1))), (0, .ref (b 0)), (1, .ref (v 0)), (2, .int (nI m0)), (3, .int (nI (N 0 1))), (4, .int (nI (xq - 1))), (5, .ref (ta (xq - 1)))]) (k := 6) (d := 1) hx hb dX4_weigh_101 hl rfl rfl (by decide) rfl (fun ls hl => ?_)
                    refine lv_goto (tgt := 75) hx hb dX4_weigh_104 (by decide) ?_
                    have hvv : (mxg (opt (upN Gf2 (xq - 1) (gts N (xq - 1) m0)) (N 5) (xq - 1) tq (Mf3 (xq - 1 + 1))) (N 0 2) (Mf3 (xq - 1 + 1) tq)) = bsv (fun a => gts N a m0) (N 5) (N 0 2) (N 0 1 - (xq - 1)) (xq - 1) tq := wgd_row (Gf := upN Gf2 (xq - 1) (gts N (xq - 1) m0)) (Mf := Mf3) (by omega) ⟨fun i h1 h2 t ht => by rw [hk3 i (by omega)]; exact hW2.1 i (by omega) h2 t ht, fun i h1 h2 => by
                      have := hW2.2 i (by omega) h2
                      unfold upN
                      rw [if_neg (by omega)]; exact this⟩ (by omega) hg3 (by omega)
                    have hvl := bsv_le (can := (fun a => gts N a m0)) (dp := N 5) (ng := N 0 2) (c := 9) hN.2.2.2.2.2.1 (N 0 1 - (xq - 1)) (xq - 1) tq
                    exact ih75 (tq + 1) (up Mf3 (xq - 1) tq (mxg (opt (upN Gf2 (xq - 1) (gts N (xq - 1) m0)) (N 5) (xq - 1) tq (Mf3 (xq - 1 + 1))) (N 0 2) (Mf3 (xq - 1 + 1) tq))) (by omega) (by omega) (up_bd hM3 (by rw [hvv]; omega)) (fun i hi => by unfold up; rw [if_neg (by omega)]; exact hk3 i hi) (fun t ht => by
                        show up Mf3 (xq - 1) tq _ (xq - 1) t = _
                        unfold up
                        rw [if_pos rfl]
                        unfold upN
                        by_cases e9 : t = tq
                        · rw [if_pos e9, e9]; exact hvv
                        · rw [if_neg e9]; exact hr3 t (by omega)) _ _ hw hS ls (lv_sub hl [1, 2, 3, 4, 5, 6, 0] rfl)
              exact loop75 _ 0 Mf2 (Nat.lt_succ_self _) (by omega) hM2 (fun i _ => rfl) (fun t ht => absurd ht (Nat.not_lt_zero _)) _ _ hw hS ls (lv_sub hl [2, 3, 4, 5, 6, 1, 0] rfl)
        exact loop36 _ (N 0 1) Mf1 Gf (Nat.lt_succ_self _) (by omega) hM1 hGf hW0 _ _ hw hS ls (lv_sub hl [1, 2, 3, 4, 0] rfl)
      · refine lv_aload_n hx hb dX4_weigh_15 rfl (lv_at hl 0 rfl) ?_
        refine va_get (D := D) (ci := 4) (v := .ref (b 1)) (C := RX4) (T := TX4) (N := 2) hx hb hts inX4 hown hK hR9 0 rfl rfl 0 (by decide) (hts _ wd_143) (fun _ h9 => h9) rfl dX4_weigh_16 ?_
        refine lv_iload_n hx hb dX4_weigh_19 rfl (lv_at hl 3 rfl) ?_
        refine n_aaldA hx hb hK hR9 1 3 rfl rfl (k := N 0 1) (by omega) (by decide) dX4_weigh_20 ?_
        rw [if_pos (show N 0 1 < 6 by omega)]
        refine W.eq (g2 := F0 m 21 ls [.ref (mr (N 0 1))]) rfl ?_
        refine lv_iload hx hb dX4_weigh_21 (lv_at hl 4 rfl) ?_
        refine lv_iconst (v := nI 0) hx hb dX4_weigh_23 (by decide) ?_
        refine n_iast hx hb hK hw.2.1 hw.2.2 hS (3 + (N 0 1)) 0 (φ := nI) (u := Mf1 (N 0 1)) (v := 0) (sdw_atR (a := N 0 1) (by omega)) rfl (k := tq) rfl (by omega) (by decide) dX4_weigh_24 (fun H locs hP hD hS => ?_)
        rw [sdw_set (by omega)] at hP hD
        have hw : wdH D z (sdw ka b mr (up Mf1 (N 0 1) tq 0) Gf ++ (kw ka v ta N wf df tf ++ R)) H := ⟨Nat.le_trans hz0 hS.1, hP, hD⟩
        have hP : va_P D vwCl (kw ka v ta N wf df tf) H := hw.2.1.right.left
        have hR9 : va_P D vwCl (sdw ka b mr (up Mf1 (N 0 1) tq 0) Gf) H := hw.2.1.left
        refine n_iinc (lv' := [(4, .int (nI (tq + 1))), (0, .ref (b 0)), (1, .ref (v 0)), (2, .int (nI m0)), (3, .int (nI (N 0 1)))]) (k := 4) (d := 1) hx hb dX4_weigh_25 hl rfl rfl (by decide) rfl (fun ls hl => ?_)
        refine lv_goto (tgt := 8) hx hb dX4_weigh_28 (by decide) ?_
        exact ih8 (tq + 1) (up Mf1 (N 0 1) tq 0) (by omega) (by omega) (up_bd hM1 (by decide)) (fun t ht => by
            show up Mf1 (N 0 1) tq 0 (N 0 1) t = 0
            unfold up
            rw [if_pos rfl]
            unfold upN
            split
            · rfl
            · exact hz1 t (by omega)) _ _ hw hS ls (lv_sub hl [1, 2, 3, 4, 0] rfl)
  exact loop8 _ 0 Mf (Nat.lt_succ_self _) (by omega) hMf (fun t ht => absurd ht (Nat.not_lt_zero _)) _ _ hw hS ls (lv_sub hl [2, 3, 4, 1, 0] rfl)
