set_option maxRecDepth 100000 in
set_option maxHeartbeats 4000000 in
theorem c_X10_minds (l : Launch) (D : va_G) (ka : Nat → ClassId) (z : Nat) (h : Nat) (A b nb sb : Nat → Nat) (v ta : Nat → Nat) (N : NN) (wf df : Nat → Int32) (tf : Nat → Option Nat) (hV : VR N ta wf df tf) (hN : WF N) (hL : N 0 5 = 0)(k : Int32) (K9 : Int) (hk : k.toInt = K9) (C : CC) (R : va_W) : MU l D ka z yX10_minds cX10_minds 6 (some .int) 4 0 0 [.ref h, .int k] (([(h, .inr (10, [.ref (A 0), .ref (A 1), .ref (b 0), .ref (nb 0), .ref (sb 0), .ref (A 2), .ref (v 0), .int (nI (N 0 4))])), ((b 0), .inr (2, [.ref (b 1), .ref (b 2), .ref (b 3), .int (nI (N 0 3))])), ((b 1), .inl (ka 0, 8, .inl (fun j => nI (N 6 j)))), ((b 2), .inl (ka 0, 8, .inl (fun j => nI (N 7 j)))), ((b 3), .inl (ka 0, 8, .inl (fun j => nI (N 8 j)))), ((v 0), .inr (8, [.ref (v 1), .ref (v 2), .ref (v 3), .int (nI (N 0 0)), .int (nI (N 0 1)), .int (nI (N 0 2))])), ((v 1), .inl (ka 0, 6, .inl (wf))), ((v 2), .inl (ka 2, 5, .inr (.inr (.inr (.inr (tf)))))), ((v 3), .inl (ka 0, 5, .inl (df)))] : va_W) ++ (tkw ta N (N 0 1) ++ R)) (Qi D z (fun r w => ∃ N' C', w = ([(h, .inr (10, [.ref (A 0), .ref (A 1), .ref (b 0), .ref (nb 0), .ref (sb 0), .ref (A 2), .ref (v 0), .int (nI (N' 0 4))])), ((b 0), .inr (2, [.ref (b 1), .ref (b 2), .ref (b 3), .int (nI (N' 0 3))])), ((b 1), .inl (ka 0, 8, .inl (fun j => nI (N' 6 j)))), ((b 2), .inl (ka 0, 8, .inl (fun j => nI (N' 7 j)))), ((b 3), .inl (ka 0, 8, .inl (fun j => nI (N' 8 j))))] : va_W) ++ (vlw ka v (N' 0 0) (N' 0 1) (N' 0 2) wf df tf ++ (tkw ta N' (N' 0 1) ++ R)) ∧ VR N' ta wf df tf ∧ (r, N', C') = sp_minds N C K9)) := by
  refine MU.ofI (by decide) (Nat.le_of_ble_eq_true rfl) ?_
  intro p e s m args below meth c Q X hw hS hret ls hl
  obtain ⟨hx, hb, hml, hown, hts, hE⟩ := id X
  have hK := hE.1
  have hz0 := hw.1
  have hl : lv_has ls 6 [(0, .ref h), (1, .int k)] := hl
  have hN1 := hN.1
  have hP : va_P D vwCl (kw ka v ta N wf df tf) s.heap := kw_of (w := [(h, .inr (10, [.ref (A 0), .ref (A 1), .ref (b 0), .ref (nb 0), .ref (sb 0), .ref (A 2), .ref (v 0), .int (nI (N 0 4))])), ((b 0), .inr (2, [.ref (b 1), .ref (b 2), .ref (b 3), .int (nI (N 0 3))])), ((b 1), .inl (ka 0, 8, .inl (fun j => nI (N 6 j)))), ((b 2), .inl (ka 0, 8, .inl (fun j => nI (N 7 j)))), ((b 3), .inl (ka 0, 8, .inl (fun j => nI (N 8 j))))]) (R := R) hw.2.1
  refine lv_aload_n hx hb dX10_minds_0 rfl (lv_at hl 0 rfl) ?_
  refine va_get (D := D) (ci := 10) (v := .ref (v 0)) (C := RX10) (T := TX10) (N := 8) hx hb hts inX10 hown hK hw.2.1 0 rfl rfl 6 (by decide) (hts _ wd_169) (fun _ h9 => h9) rfl dX10_minds_1 ?_
  refine lv_iload_n hx hb dX10_minds_4 rfl (lv_at hl 1 rfl) ?_
  refine va_csq (ro_runV (c_X8_takerAt l D ka v ta N wf df tf hV hN k _ hk) X wd_311 wd_308 wd_309 wd_310 wd_3 on_X8_takerAt ⟨Nat.le_of_ble_eq_true rfl, Nat.le_of_ble_eq_true rfl⟩ (va_recv hK hP (ci := 8) (q0 := 0) rfl rfl) hP hl.1 rfl (Nat.le_of_ble_eq_true rfl) ⟨(Nat.zero_le _), (Nat.zero_le _)⟩ dX10_minds_5) (fun r_1 hr_1 => ?_)
  subst hr_1
  by_cases ct_2 : 0 ≤ K9 ∧ K9 < ((N 0 1 : Nat) : Int)
  · rw [if_pos ct_2]
    obtain ⟨jq, hlt_jq, rfl, rfl⟩ := nat_ofK (n := N 0 1) hk (by omega) (by omega)
    refine W.eq (g2 := F0 m 8 ls [.ref (ta jq)]) rfl ?_
    refine lv_astore_n (lv' := [(2, .ref (ta jq)), (0, .ref h), (1, .int (nI jq))]) hx hb dX10_minds_8 rfl hl (by decide) rfl (fun ls hl => ?_)
    refine lv_aload_n hx hb dX10_minds_9 rfl (lv_at hl 0 rfl) ?_
    refine lv_ifnonnull (tgt := 15) hx hb dX10_minds_10 (by decide) ?_
    refine lv_aload_n hx hb dX10_minds_15 rfl (lv_at hl 0 rfl) ?_
    refine tk_get X hP (kw_tk (a := jq) (by omega)) (kd := N 2 jq) (hN.2.2.1 jq) 2 (by decide) wd_279 (v := .int (nI (N 4 jq))) rfl dX10_minds_16 ?_
    have hv_3 := hN.2.2.2.2.1 jq
    refine lv_istore_n (lv' := [(3, .int (nI (N 4 jq))), (2, .ref (ta jq)), (0, .ref h), (1, .int (nI jq))]) hx hb dX10_minds_19 rfl hl (by decide) rfl (fun ls hl => ?_)
    refine lv_iconst (v := nI 0) hx hb dX10_minds_20 (by decide) ?_
    refine lv_istore (lv' := [(4, .int (nI 0)), (3, .int (nI (N 4 jq))), (2, .ref (ta jq)), (0, .ref h), (1, .int (nI jq))]) hx hb dX10_minds_21 hl (by decide) rfl (fun ls hl => ?_)
    refine lv_iconst (v := nI 0) hx hb dX10_minds_23 (by decide) ?_
    refine lv_istore (lv' := [(5, .int (nI 0)), (4, .int (nI 0)), (3, .int (nI (N 4 jq))), (2, .ref (ta jq)), (0, .ref h), (1, .int (nI jq))]) hx hb dX10_minds_24 hl (by decide) rfl (fun ls hl => ?_)
    have hw : wdH D z (([(h, .inr (10, [.ref (A 0), .ref (A 1), .ref (b 0), .ref (nb 0), .ref (sb 0), .ref (A 2), .ref (v 0), .int (nI (N 0 4))])), ((b 0), .inr (2, [.ref (b 1), .ref (b 2), .ref (b 3), .int (nI (N 0 3))])), ((b 1), .inl (ka 0, 8, .inl (fun j => nI (N 6 j)))), ((b 2), .inl (ka 0, 8, .inl (fun j => nI (N 7 j)))), ((b 3), .inl (ka 0, 8, .inl (fun j => nI (N 8 j)))), ((v 0), .inr (8, [.ref (v 1), .ref (v 2), .ref (v 3), .int (nI (N 0 0)), .int (nI (N 0 1)), .int (nI (N 0 2))])), ((v 1), .inl (ka 0, 6, .inl (wf))), ((v 2), .inl (ka 2, 5, .inr (.inr (.inr (.inr (tf)))))), ((v 3), .inl (ka 0, 5, .inl (df)))] : va_W) ++ (tkw ta (up N 4 jq (N 4 jq)) (N 0 1) ++ R)) s.heap := by rw [up_self]; exact hw
    have loop26 : ∀ (fuel26 : Nat) (vq : Nat) (se : Nat) (xq : Nat), 10 - vq < fuel26 → (vq ≤ 10) → (se = bset (fun x => soA (up N 4 jq x) (N 0 3)) vq) → ∀ (H : Heap) (locs : List Loc), wdH D z (([(h, .inr (10, [.ref (A 0), .ref (A 1), .ref (b 0), .ref (nb 0), .ref (sb 0), .ref (A 2), .ref (v 0), .int (nI (N 0 4))])), ((b 0), .inr (2, [.ref (b 1), .ref (b 2), .ref (b 3), .int (nI (N 0 3))])), ((b 1), .inl (ka 0, 8, .inl (fun j => nI (N 6 j)))), ((b 2), .inl (ka 0, 8, .inl (fun j => nI (N 7 j)))), ((b 3), .inl (ka 0, 8, .inl (fun j => nI (N 8 j)))), ((v 0), .inr (8, [.ref (v 1), .ref (v 2), .ref (v 3), .int (nI (N 0 0)), .int (nI (N 0 1)), .int (nI (N 0 2))])), ((v 1), .inl (ka 0, 6, .inl (wf))), ((v 2), .inl (ka 2, 5, .inr (.inr (.inr (.inr (tf)))))), ((v 3), .inl (ka 0, 5, .inl (df)))] : va_W) ++ (tkw ta (up N 4 jq xq) (N 0 1) ++ R)) H → va_S (fun q => z ≤ q) s.heap H locs → ∀ ls : Array Slot, lv_has ls 6 [(0, .ref h), (1, .int (nI jq)), (2, .ref (ta jq)), (3, .int (nI (N 4 jq))), (4, .int (nI se)), (5, .int (nI vq))] → W p l e (rmz 4 0 0) s m args below meth c H locs 0 0 Q (F0 m 26 ls []) := by
      intro fuel26
      induction fuel26 with
      | zero => intro vq se xq hfu; exact absurd hfu (Nat.not_lt_zero _)
      | succ fuel26 ih26 =>
        intro vq se xq hfu hvq hse H locs hw hS ls hl
        refine lv_iload hx hb dX10_minds_26 (lv_at hl 5 rfl) ?_
        refine lv_bipush (v := nI 9) hx hb dX10_minds_28 (by decide) ?_
        refine i_icmp_gt (tgt := 68) hx hb (nT (by omega)) (nT (by decide)) dX10_minds_30 (by decide) (fun c_4 => ?_) (fun c_4 => ?_)
        · refine lv_aload_n hx hb dX10_minds_68 rfl (lv_at hl 2 rfl) ?_
          refine lv_iload_n hx hb dX10_minds_69 rfl (lv_at hl 3 rfl) ?_
          refine tk_put X hw.2.1 hw.2.2 hS (q0 := 9 + jq) (kd := (up N 4 jq xq) 2 jq) (tk_atL (L := [(h, .inr (10, [.ref (A 0), .ref (A 1), .ref (b 0), .ref (nb 0), .ref (sb 0), .ref (A 2), .ref (v 0), .int (nI (N 0 4))])), ((b 0), .inr (2, [.ref (b 1), .ref (b 2), .ref (b 3), .int (nI (N 0 3))])), ((b 1), .inl (ka 0, 8, .inl (fun j => nI (N 6 j)))), ((b 2), .inl (ka 0, 8, .inl (fun j => nI (N 7 j)))), ((b 3), .inl (ka 0, 8, .inl (fun j => nI (N 8 j)))), ((v 0), .inr (8, [.ref (v 1), .ref (v 2), .ref (v 3), .int (nI (N 0 0)), .int (nI (N 0 1)), .int (nI (N 0 2))])), ((v 1), .inl (ka 0, 6, .inl (wf))), ((v 2), .inl (ka 2, 5, .inr (.inr (.inr (.inr (tf)))))), ((v 3), .inl (ka 0, 5, .inl (df)))]) (R := R) (j := jq) rfl (by omega)) (hN.2.2.1 jq) 2 (by decide) wd_279 (v := nI (N 4 jq)) (Nat.le_of_ble_eq_true rfl) dX10_minds_70 (fun H locs hP hD hS => ?_)
          have e9 := tk_setL (L := [(h, .inr (10, [.ref (A 0), .ref (A 1), .ref (b 0), .ref (nb 0), .ref (sb 0), .ref (A 2), .ref (v 0), .int (nI (N 0 4))])), ((b 0), .inr (2, [.ref (b 1), .ref (b 2), .ref (b 3), .int (nI (N 0 3))])), ((b 1), .inl (ka 0, 8, .inl (fun j => nI (N 6 j)))), ((b 2), .inl (ka 0, 8, .inl (fun j => nI (N 7 j)))), ((b 3), .inl (ka 0, 8, .inl (fun j => nI (N 8 j)))), ((v 0), .inr (8, [.ref (v 1), .ref (v 2), .ref (v 3), .int (nI (N 0 0)), .int (nI (N 0 1)), .int (nI (N 0 2))])), ((v 1), .inl (ka 0, 6, .inl (wf))), ((v 2), .inl (ka 2, 5, .inr (.inr (.inr (.inr (tf)))))), ((v 3), .inl (ka 0, 5, .inl (df)))]) (R := R) (ta := ta) (ta' := ta) (N := (up N 4 jq xq)) (N' := up N 4 jq (N 4 jq)) (n := N 0 1) (j := jq) (q0 := 9 + jq) (x := (ta jq, .inr (kcl ((up N 4 jq xq) 2 jq), [.int (nI jq), .int (nI ((up N 4 jq xq) 3 jq)), .int (nI (N 4 jq))]))) rfl (by omega) (by simp [tkc, up, upN]) up_rows2
          have hP := (congrArg (fun w9 => va_P D vwCl w9 H) e9).mp hP
          have hD := (congrArg (fun w9 => va_D (fun q => z ≤ q) w9) e9).mp hD
          have hw : wdH D z (([(h, .inr (10, [.ref (A 0), .ref (A 1), .ref (b 0), .ref (nb 0), .ref (sb 0), .ref (A 2), .ref (v 0), .int (nI (N 0 4))])), ((b 0), .inr (2, [.ref (b 1), .ref (b 2), .ref (b 3), .int (nI (N 0 3))])), ((b 1), .inl (ka 0, 8, .inl (fun j => nI (N 6 j)))), ((b 2), .inl (ka 0, 8, .inl (fun j => nI (N 7 j)))), ((b 3), .inl (ka 0, 8, .inl (fun j => nI (N 8 j)))), ((v 0), .inr (8, [.ref (v 1), .ref (v 2), .ref (v 3), .int (nI (N 0 0)), .int (nI (N 0 1)), .int (nI (N 0 2))])), ((v 1), .inl (ka 0, 6, .inl (wf))), ((v 2), .inl (ka 2, 5, .inr (.inr (.inr (.inr (tf)))))), ((v 3), .inl (ka 0, 5, .inl (df)))] : va_W) ++ (tkw ta (up N 4 jq (N 4 jq)) (N 0 1) ++ R)) H := ⟨Nat.le_trans hz0 hS.1, hP, hD⟩
          have hP : va_P D vwCl (kw ka v ta (up N 4 jq (N 4 jq)) wf df tf) H := kw_of (w := [(h, .inr (10, [.ref (A 0), .ref (A 1), .ref (b 0), .ref (nb 0), .ref (sb 0), .ref (A 2), .ref (v 0), .int (nI (N 0 4))])), ((b 0), .inr (2, [.ref (b 1), .ref (b 2), .ref (b 3), .int (nI (N 0 3))])), ((b 1), .inl (ka 0, 8, .inl (fun j => nI (N 6 j)))), ((b 2), .inl (ka 0, 8, .inl (fun j => nI (N 7 j)))), ((b 3), .inl (ka 0, 8, .inl (fun j => nI (N 8 j))))]) (R := R) hw.2.1
          refine lv_iload hx hb dX10_minds_73 (lv_at hl 4 rfl) ?_
          rw [up_self] at hw
          refine hret _ _ _ _ _ _ _ _ dX10_minds_75 hS hw (Nat.zero_le _) (Nat.zero_le _) ⟨N, C, rfl, hV, ?_⟩
          unfold sp_minds
          rw [if_pos (by omega), hse, show vq = 10 by omega]; rfl
        · refine lv_aload_n hx hb dX10_minds_33 rfl (lv_at hl 2 rfl) ?_
          refine lv_iload hx hb dX10_minds_34 (lv_at hl 5 rfl) ?_
          refine tk_put X hw.2.1 hw.2.2 hS (q0 := 9 + jq) (kd := (up N 4 jq xq) 2 jq) (tk_atL (L := [(h, .inr (10, [.ref (A 0), .ref (A 1), .ref (b 0), .ref (nb 0), .ref (sb 0), .ref (A 2), .ref (v 0), .int (nI (N 0 4))])), ((b 0), .inr (2, [.ref (b 1), .ref (b 2), .ref (b 3), .int (nI (N 0 3))])), ((b 1), .inl (ka 0, 8, .inl (fun j => nI (N 6 j)))), ((b 2), .inl (ka 0, 8, .inl (fun j => nI (N 7 j)))), ((b 3), .inl (ka 0, 8, .inl (fun j => nI (N 8 j)))), ((v 0), .inr (8, [.ref (v 1), .ref (v 2), .ref (v 3), .int (nI (N 0 0)), .int (nI (N 0 1)), .int (nI (N 0 2))])), ((v 1), .inl (ka 0, 6, .inl (wf))), ((v 2), .inl (ka 2, 5, .inr (.inr (.inr (.inr (tf)))))), ((v 3), .inl (ka 0, 5, .inl (df)))]) (R := R) (j := jq) rfl (by omega)) (hN.2.2.1 jq) 2 (by decide) wd_279 (v := nI vq) (Nat.le_of_ble_eq_true rfl) dX10_minds_36 (fun H locs hP hD hS => ?_)
          have e9 := tk_setL (L := [(h, .inr (10, [.ref (A 0), .ref (A 1), .ref (b 0), .ref (nb 0), .ref (sb 0), .ref (A 2), .ref (v 0), .int (nI (N 0 4))])), ((b 0), .inr (2, [.ref (b 1), .ref (b 2), .ref (b 3), .int (nI (N 0 3))])), ((b 1), .inl (ka 0, 8, .inl (fun j => nI (N 6 j)))), ((b 2), .inl (ka 0, 8, .inl (fun j => nI (N 7 j)))), ((b 3), .inl (ka 0, 8, .inl (fun j => nI (N 8 j)))), ((v 0), .inr (8, [.ref (v 1), .ref (v 2), .ref (v 3), .int (nI (N 0 0)), .int (nI (N 0 1)), .int (nI (N 0 2))])), ((v 1), .inl (ka 0, 6, .inl (wf))), ((v 2), .inl (ka 2, 5, .inr (.inr (.inr (.inr (tf)))))), ((v 3), .inl (ka 0, 5, .inl (df)))]) (R := R) (ta := ta) (ta' := ta) (N := (up N 4 jq xq)) (N' := up N 4 jq vq) (n := N 0 1) (j := jq) (q0 := 9 + jq) (x := (ta jq, .inr (kcl ((up N 4 jq xq) 2 jq), [.int (nI jq), .int (nI ((up N 4 jq xq) 3 jq)), .int (nI vq)]))) rfl (by omega) (by simp [tkc, up, upN]) up_rows2
          have hP := (congrArg (fun w9 => va_P D vwCl w9 H) e9).mp hP
          have hD := (congrArg (fun w9 => va_D (fun q => z ≤ q) w9) e9).mp hD
          have hw : wdH D z (([(h, .inr (10, [.ref (A 0), .ref (A 1), .ref (b 0), .ref (nb 0), .ref (sb 0), .ref (A 2), .ref (v 0), .int (nI (N 0 4))])), ((b 0), .inr (2, [.ref (b 1), .ref (b 2), .ref (b 3), .int (nI (N 0 3))])), ((b 1), .inl (ka 0, 8, .inl (fun j => nI (N 6 j)))), ((b 2), .inl (ka 0, 8, .inl (fun j => nI (N 7 j)))), ((b 3), .inl (ka 0, 8, .inl (fun j => nI (N 8 j)))), ((v 0), .inr (8, [.ref (v 1), .ref (v 2), .ref (v 3), .int (nI (N 0 0)), .int (nI (N 0 1)), .int (nI (N 0 2))])), ((v 1), .inl (ka 0, 6, .inl (wf))), ((v 2), .inl (ka 2, 5, .inr (.inr (.inr (.inr (tf)))))), ((v 3), .inl (ka 0, 5, .inl (df)))] : va_W) ++ (tkw ta (up N 4 jq vq) (N 0 1) ++ R)) H := ⟨Nat.le_trans hz0 hS.1, hP, hD⟩
          have hP : va_P D vwCl (kw ka v ta (up N 4 jq vq) wf df tf) H := kw_of (w := [(h, .inr (10, [.ref (A 0), .ref (A 1), .ref (b 0), .ref (nb 0), .ref (sb 0), .ref (A 2), .ref (v 0), .int (nI (N 0 4))])), ((b 0), .inr (2, [.ref (b 1), .ref (b 2), .ref (b 3), .int (nI (N 0 3))])), ((b 1), .inl (ka 0, 8, .inl (fun j => nI (N 6 j)))), ((b 2), .inl (ka 0, 8, .inl (fun j => nI (N 7 j)))), ((b 3), .inl (ka 0, 8, .inl (fun j => nI (N 8 j))))]) (R := R) hw.2.1
          refine lv_aload_n hx hb dX10_minds_39 rfl (lv_at hl 0 rfl) ?_
          refine va_get (D := D) (ci := 10) (v := .ref (b 0)) (C := RX10) (T := TX10) (N := 8) hx hb hts inX10 hown hK hw.2.1 0 rfl rfl 2 (by decide) (hts _ wd_165) (fun _ h9 => h9) rfl dX10_minds_40 ?_
          refine lv_aload_n hx hb dX10_minds_43 rfl (lv_at hl 0 rfl) ?_
          refine va_get (D := D) (ci := 10) (v := .ref (v 0)) (C := RX10) (T := TX10) (N := 8) hx hb hts inX10 hown hK hw.2.1 0 rfl rfl 6 (by decide) (hts _ wd_169) (fun _ h9 => h9) rfl dX10_minds_44 ?_
          have hRs := rd_of (w := [(h, .inr (10, [.ref (A 0), .ref (A 1), .ref (b 0), .ref (nb 0), .ref (sb 0), .ref (A 2), .ref (v 0), .int (nI (N 0 4))]))]) (X := ([((v 0), .inr (8, [.ref (v 1), .ref (v 2), .ref (v 3), .int (nI (N 0 0)), .int (nI (N 0 1)), .int (nI (N 0 2))])), ((v 1), .inl (ka 0, 6, .inl (wf))), ((v 2), .inl (ka 2, 5, .inr (.inr (.inr (.inr (tf)))))), ((v 3), .inl (ka 0, 5, .inl (df)))] : va_W) ++ (tkw ta (up N 4 jq vq) (N 0 1) ++ R)) (ka := ka) (b := b) (N := (up N 4 jq vq)) hw.2.1
          refine vp_callSi (ro_runV (c_X2_allAreSo l D ka b v ta (up N 4 jq vq) wf df tf hV (WF.up4 hN (by omega)) hL) X wd_533 wd_530 wd_531 wd_532 wd_4 on_X2_allAreSo ⟨Nat.le_of_ble_eq_true rfl, Nat.le_of_ble_eq_true rfl⟩ (va_recv hK hw.2.1 (ci := 2) (q0 := 1) rfl rfl) ⟨hRs, hP⟩ hl.1 rfl (Nat.le_of_ble_eq_true rfl) ⟨(Nat.zero_le _), (Nat.zero_le _)⟩ dX10_minds_47) (fun r_5 hr_5 => ?_)
          subst hr_5
          refine W.eq (g2 := F0 m 50 ls [.int (bI (soA (up N 4 jq vq) (N 0 3) = true))]) rfl ?_
          refine b_if_eq (tgt := 62) hx hb dX10_minds_50 (by decide) (fun c_6 => ?_) (fun c_6 => ?_)
          · refine n_iinc (lv' := [(5, .int (nI (vq + 1))), (0, .ref h), (1, .int (nI jq)), (2, .ref (ta jq)), (3, .int (nI (N 4 jq))), (4, .int (nI se))]) (k := 5) (d := 1) hx hb dX10_minds_62 hl rfl rfl (by decide) rfl (fun ls hl => ?_)
            refine lv_goto (tgt := 26) hx hb dX10_minds_65 (by decide) ?_
            exact ih26 (vq + 1) se vq (by omega) (by omega) (by rw [hse]; first | exact bset_t (by assumption) | exact bset_f (by assumption)) _ _ hw hS ls (lv_sub hl [1, 2, 3, 4, 5, 0] rfl)
          · refine lv_iload hx hb dX10_minds_53 (lv_at hl 4 rfl) ?_
            refine lv_iconst (v := nI 1) hx hb dX10_minds_55 (by decide) ?_
            refine lv_iload hx hb dX10_minds_56 (lv_at hl 5 rfl) ?_
            refine lv_ishl hx hb dX10_minds_58 ?_
            rw [n_shl (a := 1) (k := vq) (by omega) (Nat.lt_of_le_of_lt (by rw [Nat.one_mul]; exact Nat.pow_le_pow_right (by decide) (show vq ≤ 31 by omega)) (by decide))]
            refine lv_ior hx hb dX10_minds_59 ?_
            rw [n_or se (1 * 2 ^ vq)]
            refine lv_istore (lv' := [(4, .int (nI (se ||| (1 * 2 ^ vq)))), (0, .ref h), (1, .int (nI jq)), (2, .ref (ta jq)), (3, .int (nI (N 4 jq))), (5, .int (nI vq))]) hx hb dX10_minds_60 hl (by decide) rfl (fun ls hl => ?_)
            refine n_iinc (lv' := [(5, .int (nI (vq + 1))), (4, .int (nI (se ||| (1 * 2 ^ vq)))), (0, .ref h), (1, .int (nI jq)), (2, .ref (ta jq)), (3, .int (nI (N 4 jq)))]) (k := 5) (d := 1) hx hb dX10_minds_62 hl rfl rfl (by decide) rfl (fun ls hl => ?_)
            refine lv_goto (tgt := 26) hx hb dX10_minds_65 (by decide) ?_
            exact ih26 (vq + 1) (se ||| (1 * 2 ^ vq)) vq (by omega) (by omega) (by rw [hse]; first | exact bset_t (by assumption) | exact bset_f (by assumption)) _ _ hw hS ls (lv_sub hl [2, 3, 4, 5, 1, 0] rfl)
    exact loop26 _ 0 0 (N 4 jq) (Nat.lt_succ_self _) (by omega) rfl _ _ hw hS ls (lv_sub hl [4, 5, 3, 2, 1, 0] rfl)
  · rw [if_neg ct_2]
    refine W.eq (g2 := F0 m 8 ls [.null]) rfl ?_
    refine lv_astore_nN (lv' := [(2, .null), (0, .ref h), (1, .int k)]) hx hb dX10_minds_8 rfl hl (by decide) rfl (fun ls hl => ?_)
    refine lv_aload_nN hx hb dX10_minds_9 rfl (lv_at hl 0 rfl) ?_
    refine lv_ifnonnullN hx hb dX10_minds_10 ?_
    refine lv_iconst (v := (-1)) hx hb dX10_minds_13 (by decide) ?_
    refine hret _ _ _ _ _ _ _ _ dX10_minds_14 hS hw (Nat.zero_le _) (Nat.zero_le _) ⟨N, C, rfl, hV, ?_⟩
    unfold sp_minds
    rw [if_neg (by omega)]
set_option maxRecDepth 100000 in
set_option maxHeartbeats 4000000 in
theorem c_X10_glooms (l : Launch) (D : va_G) (ka : Nat → ClassId) (z : Nat) (h : Nat) (A b nb sb : Nat → Nat) (v ta : Nat → Nat) (N : NN) (wf df : Nat → Int32) (tf : Nat → Option Nat) (hV : VR N ta wf df tf) (hN : WF N) (hL : N 0 5 = 0)(k : Int32) (K9 : Int) (hk : k.toInt = K9) (C : CC) (R : va_W) : MU l D ka z yX10_glooms cX10_glooms 5 (some .int) 4 0 0 [.ref h, .int k] (([(h, .inr (10, [.ref (A 0), .ref (A 1), .ref (b 0), .ref (nb 0), .ref (sb 0), .ref (A 2), .ref (v 0), .int (nI (N 0 4))])), ((b 0), .inr (2, [.ref (b 1), .ref (b 2), .ref (b 3), .int (nI (N 0 3))])), ((b 1), .inl (ka 0, 8, .inl (fun j => nI (N 6 j)))), ((b 2), .inl (ka 0, 8, .inl (fun j => nI (N 7 j)))), ((b 3), .inl (ka 0, 8, .inl (fun j => nI (N 8 j)))), ((v 0), .inr (8, [.ref (v 1), .ref (v 2), .ref (v 3), .int (nI (N 0 0)), .int (nI (N 0 1)), .int (nI (N 0 2))])), ((v 1), .inl (ka 0, 6, .inl (wf))), ((v 2), .inl (ka 2, 5, .inr (.inr (.inr (.inr (tf)))))), ((v 3), .inl (ka 0, 5, .inl (df)))] : va_W) ++ (tkw ta N (N 0 1) ++ R)) (Qi D z (fun r w => ∃ N' C' wf', w = ([(h, .inr (10, [.ref (A 0), .ref (A 1), .ref (b 0), .ref (nb 0), .ref (sb 0), .ref (A 2), .ref (v 0), .int (nI (N' 0 4))])), ((b 0), .inr (2, [.ref (b 1), .ref (b 2), .ref (b 3), .int (nI (N' 0 3))])), ((b 1), .inl (ka 0, 8, .inl (fun j => nI (N' 6 j)))), ((b 2), .inl (ka 0, 8, .inl (fun j => nI (N' 7 j)))), ((b 3), .inl (ka 0, 8, .inl (fun j => nI (N' 8 j))))] : va_W) ++ (vlw ka v (N' 0 0) (N' 0 1) (N' 0 2) wf' df tf ++ (tkw ta N' (N' 0 1) ++ R)) ∧ VR N' ta wf' df tf ∧ (r, N', C') = sp_glooms N C K9)) := by
  refine MU.ofI (by decide) (Nat.le_of_ble_eq_true rfl) ?_
  intro p e s m args below meth c Q X hw hS hret ls hl
  obtain ⟨hx, hb, hml, hown, hts, hE⟩ := id X
  have hK := hE.1
  have hz0 := hw.1
  have hl : lv_has ls 5 [(0, .ref h), (1, .int k)] := hl
  have hN1 := hN.1
  have hP : va_P D vwCl (kw ka v ta N wf df tf) s.heap := kw_of (w := [(h, .inr (10, [.ref (A 0), .ref (A 1), .ref (b 0), .ref (nb 0), .ref (sb 0), .ref (A 2), .ref (v 0), .int (nI (N 0 4))])), ((b 0), .inr (2, [.ref (b 1), .ref (b 2), .ref (b 3), .int (nI (N 0 3))])), ((b 1), .inl (ka 0, 8, .inl (fun j => nI (N 6 j)))), ((b 2), .inl (ka 0, 8, .inl (fun j => nI (N 7 j)))), ((b 3), .inl (ka 0, 8, .inl (fun j => nI (N 8 j))))]) (R := R) hw.2.1
  refine lv_aload_n hx hb dX10_glooms_0 rfl (lv_at hl 0 rfl) ?_
  refine va_get (D := D) (ci := 10) (v := .ref (v 0)) (C := RX10) (T := TX10) (N := 8) hx hb hts inX10 hown hK hw.2.1 0 rfl rfl 6 (by decide) (hts _ wd_169) (fun _ h9 => h9) rfl dX10_glooms_1 ?_
  refine lv_iload_n hx hb dX10_glooms_4 rfl (lv_at hl 1 rfl) ?_
  refine vp_callSi (ro_runV (c_X8_isPlace l D ka v ta N wf df tf hV hN k _ hk) X wd_338 wd_335 wd_336 wd_337 wd_3 on_X8_isPlace ⟨Nat.le_of_ble_eq_true rfl, Nat.le_of_ble_eq_true rfl⟩ (va_recv hK hP (ci := 8) (q0 := 0) rfl rfl) hP hl.1 rfl (Nat.le_of_ble_eq_true rfl) ⟨(Nat.zero_le _), (Nat.zero_le _)⟩ dX10_glooms_5) (fun r_1 hr_1 => ?_)
  subst hr_1
  refine b_if_ne (tgt := 13) hx hb dX10_glooms_8 (by decide) (fun c_2 => ?_) (fun c_2 => ?_)
  · obtain ⟨jq, hlt_jq, rfl, rfl⟩ := nat_ofK (n := N 0 0) hk (by omega) (by omega)
    refine lv_aload_n hx hb dX10_glooms_13 rfl (lv_at hl 0 rfl) ?_
    refine va_get (D := D) (ci := 10) (v := .ref (v 0)) (C := RX10) (T := TX10) (N := 8) hx hb hts inX10 hown hK hw.2.1 0 rfl rfl 6 (by decide) (hts _ wd_169) (fun _ h9 => h9) rfl dX10_glooms_14 ?_
    refine va_get (D := D) (ci := 8) (v := .ref (v 1)) (C := RX8) (T := TX8) (N := 6) hx hb hts inX8 hown hK hw.2.1 5 rfl rfl 0 (by decide) (hts _ wd_40) (fun _ h9 => h9) rfl dX10_glooms_17 ?_
    refine lv_iload_n hx hb dX10_glooms_20 rfl (lv_at hl 1 rfl) ?_
    refine n_iald hx hb hK hP 1 0 rfl rfl (k := jq) (by omega) (by decide) dX10_glooms_21 ?_
    rw [hV.1 jq (by omega)]
    have hv_3 := hN.2.1 jq
    refine lv_istore_n (lv' := [(2, .int (nI (N 1 jq))), (0, .ref h), (1, .int (nI jq))]) hx hb dX10_glooms_22 rfl hl (by decide) rfl (fun ls hl => ?_)
    refine lv_iconst (v := nI 0) hx hb dX10_glooms_23 (by decide) ?_
    refine lv_istore_n (lv' := [(3, .int (nI 0)), (2, .int (nI (N 1 jq))), (0, .ref h), (1, .int (nI jq))]) hx hb dX10_glooms_24 rfl hl (by decide) rfl (fun ls hl => ?_)
    refine lv_iconst (v := nI 0) hx hb dX10_glooms_25 (by decide) ?_
    refine lv_istore (lv' := [(4, .int (nI 0)), (3, .int (nI 0)), (2, .int (nI (N 1 jq))), (0, .ref h), (1, .int (nI jq))]) hx hb dX10_glooms_26 hl (by decide) rfl (fun ls hl => ?_)
    have loop28 : ∀ (fuel28 : Nat) (vq : Nat) (se : Nat) (wf1 : Nat → Int32), 10 - vq < fuel28 → (vq ≤ 10) → (se = bset (fun x => soA (up N 1 jq x) (N 0 3)) vq) → (∀ x, VR (up N 1 jq x) ta (upd wf1 jq (nI x)) df tf) → ∀ (H : Heap) (locs : List Loc), wdH D z (([(h, .inr (10, [.ref (A 0), .ref (A 1), .ref (b 0), .ref (nb 0), .ref (sb 0), .ref (A 2), .ref (v 0), .int (nI (N 0 4))])), ((b 0), .inr (2, [.ref (b 1), .ref (b 2), .ref (b 3), .int (nI (N 0 3))])), ((b 1), .inl (ka 0, 8, .inl (fun j => nI (N 6 j)))), ((b 2), .inl (ka 0, 8, .inl (fun j => nI (N 7 j)))), ((b 3), .inl (ka 0, 8, .inl (fun j => nI (N 8 j)))), ((v 0), .inr (8, [.ref (v 1), .ref (v 2), .ref (v 3), .int (nI (N 0 0)), .int (nI (N 0 1)), .int (nI (N 0 2))])), ((v 1), .inl (ka 0, 6, .inl (wf1))), ((v 2), .inl (ka 2, 5, .inr (.inr (.inr (.inr (tf)))))), ((v 3), .inl (ka 0, 5, .inl (df)))] : va_W) ++ (tkw ta N (N 0 1) ++ R)) H → va_S (fun q => z ≤ q) s.heap H locs → ∀ ls : Array Slot, lv_has ls 5 [(0, .ref h), (1, .int (nI jq)), (2, .int (nI (N 1 jq))), (3, .int (nI se)), (4, .int (nI vq))] → W p l e (rmz 4 0 0) s m args below meth c H locs 0 0 Q (F0 m 28 ls []) := by
      intro fuel28
      induction fuel28 with
      | zero => intro vq se wf1 hfu; exact absurd hfu (Nat.not_lt_zero _)
      | succ fuel28 ih28 =>
        intro vq se wf1 hfu hvq hse hV1 H locs hw hS ls hl
        refine lv_iload hx hb dX10_glooms_28 (lv_at hl 4 rfl) ?_
        refine lv_bipush (v := nI 9) hx hb dX10_glooms_30 (by decide) ?_
        refine i_icmp_gt (tgt := 73) hx hb (nT (by omega)) (nT (by decide)) dX10_glooms_32 (by decide) (fun c_4 => ?_) (fun c_4 => ?_)
        · refine lv_aload_n hx hb dX10_glooms_73 rfl (lv_at hl 0 rfl) ?_
          refine va_get (D := D) (ci := 10) (v := .ref (v 0)) (C := RX10) (T := TX10) (N := 8) hx hb hts inX10 hown hK hw.2.1 0 rfl rfl 6 (by decide) (hts _ wd_169) (fun _ h9 => h9) rfl dX10_glooms_74 ?_
          refine va_get (D := D) (ci := 8) (v := .ref (v 1)) (C := RX8) (T := TX8) (N := 6) hx hb hts inX8 hown hK hw.2.1 5 rfl rfl 0 (by decide) (hts _ wd_40) (fun _ h9 => h9) rfl dX10_glooms_77 ?_
          refine lv_iload_n hx hb dX10_glooms_80 rfl (lv_at hl 1 rfl) ?_
          refine lv_iload_n hx hb dX10_glooms_81 rfl (lv_at hl 2 rfl) ?_
          refine r_iast hx hb hK hw.2.1 hw.2.2 hS 6 0 rfl rfl (k := jq) (by omega) (by decide) dX10_glooms_82 (fun H locs hP hD hS => ?_)
          have hw : wdH D z (([(h, .inr (10, [.ref (A 0), .ref (A 1), .ref (b 0), .ref (nb 0), .ref (sb 0), .ref (A 2), .ref (v 0), .int (nI (N 0 4))])), ((b 0), .inr (2, [.ref (b 1), .ref (b 2), .ref (b 3), .int (nI (N 0 3))])), ((b 1), .inl (ka 0, 8, .inl (fun j => nI (N 6 j)))), ((b 2), .inl (ka 0, 8, .inl (fun j => nI (N 7 j)))), ((b 3), .inl (ka 0, 8, .inl (fun j => nI (N 8 j)))), ((v 0), .inr (8, [.ref (v 1), .ref (v 2), .ref (v 3), .int (nI (N 0 0)), .int (nI (N 0 1)), .int (nI (N 0 2))])), ((v 1), .inl (ka 0, 6, .inl (upd wf1 jq (nI (N 1 jq))))), ((v 2), .inl (ka 2, 5, .inr (.inr (.inr (.inr (tf)))))), ((v 3), .inl (ka 0, 5, .inl (df)))] : va_W) ++ (tkw ta N (N 0 1) ++ R)) H := ⟨Nat.le_trans hz0 hS.1, hP, hD⟩
          have hP : va_P D vwCl (kw ka v ta N (upd wf1 jq (nI (N 1 jq))) df tf) H := kw_of (w := [(h, .inr (10, [.ref (A 0), .ref (A 1), .ref (b 0), .ref (nb 0), .ref (sb 0), .ref (A 2), .ref (v 0), .int (nI (N 0 4))])), ((b 0), .inr (2, [.ref (b 1), .ref (b 2), .ref (b 3), .int (nI (N 0 3))])), ((b 1), .inl (ka 0, 8, .inl (fun j => nI (N 6 j)))), ((b 2), .inl (ka 0, 8, .inl (fun j => nI (N 7 j)))), ((b 3), .inl (ka 0, 8, .inl (fun j => nI (N 8 j))))]) (R := R) hw.2.1
          refine lv_iload_n hx hb dX10_glooms_83 rfl (lv_at hl 3 rfl) ?_
          have hV2 := hV1 (N 1 jq)
          rw [up_self] at hV2
          refine hret _ _ _ _ _ _ _ _ dX10_glooms_84 hS hw (Nat.zero_le _) (Nat.zero_le _) ⟨N, C, upd wf1 jq (nI (N 1 jq)), rfl, hV2, ?_⟩
          unfold sp_glooms
          rw [if_pos (by omega), hse, show vq = 10 by omega]; rfl
        · refine lv_aload_n hx hb dX10_glooms_35 rfl (lv_at hl 0 rfl) ?_
          refine va_get (D := D) (ci := 10) (v := .ref (v 0)) (C := RX10) (T := TX10) (N := 8) hx hb hts inX10 hown hK hw.2.1 0 rfl rfl 6 (by decide) (hts _ wd_169) (fun _ h9 => h9) rfl dX10_glooms_36 ?_
          refine va_get (D := D) (ci := 8) (v := .ref (v 1)) (C := RX8) (T := TX8) (N := 6) hx hb hts inX8 hown hK hw.2.1 5 rfl rfl 0 (by decide) (hts _ wd_40) (fun _ h9 => h9) rfl dX10_glooms_39 ?_
          refine lv_iload_n hx hb dX10_glooms_42 rfl (lv_at hl 1 rfl) ?_
          refine lv_iload hx hb dX10_glooms_43 (lv_at hl 4 rfl) ?_
          refine r_iast hx hb hK hw.2.1 hw.2.2 hS 6 0 rfl rfl (k := jq) (by omega) (by decide) dX10_glooms_45 (fun H locs hP hD hS => ?_)
          have hw : wdH D z (([(h, .inr (10, [.ref (A 0), .ref (A 1), .ref (b 0), .ref (nb 0), .ref (sb 0), .ref (A 2), .ref (v 0), .int (nI (N 0 4))])), ((b 0), .inr (2, [.ref (b 1), .ref (b 2), .ref (b 3), .int (nI (N 0 3))])), ((b 1), .inl (ka 0, 8, .inl (fun j => nI (N 6 j)))), ((b 2), .inl (ka 0, 8, .inl (fun j => nI (N 7 j)))), ((b 3), .inl (ka 0, 8, .inl (fun j => nI (N 8 j)))), ((v 0), .inr (8, [.ref (v 1), .ref (v 2), .ref (v 3), .int (nI (N 0 0)), .int (nI (N 0 1)), .int (nI (N 0 2))])), ((v 1), .inl (ka 0, 6, .inl (upd wf1 jq (nI vq)))), ((v 2), .inl (ka 2, 5, .inr (.inr (.inr (.inr (tf)))))), ((v 3), .inl (ka 0, 5, .inl (df)))] : va_W) ++ (tkw ta N (N 0 1) ++ R)) H := ⟨Nat.le_trans hz0 hS.1, hP, hD⟩
          have hP : va_P D vwCl (kw ka v ta N (upd wf1 jq (nI vq)) df tf) H := kw_of (w := [(h, .inr (10, [.ref (A 0), .ref (A 1), .ref (b 0), .ref (nb 0), .ref (sb 0), .ref (A 2), .ref (v 0), .int (nI (N 0 4))])), ((b 0), .inr (2, [.ref (b 1), .ref (b 2), .ref (b 3), .int (nI (N 0 3))])), ((b 1), .inl (ka 0, 8, .inl (fun j => nI (N 6 j)))), ((b 2), .inl (ka 0, 8, .inl (fun j => nI (N 7 j)))), ((b 3), .inl (ka 0, 8, .inl (fun j => nI (N 8 j))))]) (R := R) hw.2.1
          refine lv_aload_n hx hb dX10_glooms_46 rfl (lv_at hl 0 rfl) ?_
          refine va_get (D := D) (ci := 10) (v := .ref (b 0)) (C := RX10) (T := TX10) (N := 8) hx hb hts inX10 hown hK hw.2.1 0 rfl rfl 2 (by decide) (hts _ wd_165) (fun _ h9 => h9) rfl dX10_glooms_47 ?_
          refine lv_aload_n hx hb dX10_glooms_50 rfl (lv_at hl 0 rfl) ?_
          refine va_get (D := D) (ci := 10) (v := .ref (v 0)) (C := RX10) (T := TX10) (N := 8) hx hb hts inX10 hown hK hw.2.1 0 rfl rfl 6 (by decide) (hts _ wd_169) (fun _ h9 => h9) rfl dX10_glooms_51 ?_
          have hRs := rd_of (w := [(h, .inr (10, [.ref (A 0), .ref (A 1), .ref (b 0), .ref (nb 0), .ref (sb 0), .ref (A 2), .ref (v 0), .int (nI (N 0 4))]))]) (X := ([((v 0), .inr (8, [.ref (v 1), .ref (v 2), .ref (v 3), .int (nI (N 0 0)), .int (nI (N 0 1)), .int (nI (N 0 2))])), ((v 1), .inl (ka 0, 6, .inl (upd wf1 jq (nI vq)))), ((v 2), .inl (ka 2, 5, .inr (.inr (.inr (.inr (tf)))))), ((v 3), .inl (ka 0, 5, .inl (df)))] : va_W) ++ (tkw ta N (N 0 1) ++ R)) (ka := ka) (b := b) (N := (up N 1 jq vq)) hw.2.1
          refine vp_callSi (ro_runV (c_X2_allAreSo l D ka b v ta (up N 1 jq vq) (upd wf1 jq (nI vq)) df tf (hV1 vq) (WF.up1 hN (by omega)) hL) X wd_533 wd_530 wd_531 wd_532 wd_4 on_X2_allAreSo ⟨Nat.le_of_ble_eq_true rfl, Nat.le_of_ble_eq_true rfl⟩ (va_recv hK hw.2.1 (ci := 2) (q0 := 1) rfl rfl) ⟨hRs, hP⟩ hl.1 rfl (Nat.le_of_ble_eq_true rfl) ⟨(Nat.zero_le _), (Nat.zero_le _)⟩ dX10_glooms_54) (fun r_5 hr_5 => ?_)
          subst hr_5
          refine W.eq (g2 := F0 m 57 ls [.int (bI (soA (up N 1 jq vq) (N 0 3) = true))]) rfl ?_
          refine b_if_eq (tgt := 67) hx hb dX10_glooms_57 (by decide) (fun c_6 => ?_) (fun c_6 => ?_)
          · refine n_iinc (lv' := [(4, .int (nI (vq + 1))), (0, .ref h), (1, .int (nI jq)), (2, .int (nI (N 1 jq))), (3, .int (nI se))]) (k := 4) (d := 1) hx hb dX10_glooms_67 hl rfl rfl (by decide) rfl (fun ls hl => ?_)
            refine lv_goto (tgt := 28) hx hb dX10_glooms_70 (by decide) ?_
            exact ih28 (vq + 1) se (upd wf1 jq (nI vq)) (by omega) (by omega) (by rw [hse]; first | exact bset_t (by assumption) | exact bset_f (by assumption)) (fun x => by rw [upd_upd]; exact hV1 x) _ _ hw hS ls (lv_sub hl [1, 2, 3, 4, 0] rfl)
          · refine lv_iload_n hx hb dX10_glooms_60 rfl (lv_at hl 3 rfl) ?_
            refine lv_iconst (v := nI 1) hx hb dX10_glooms_61 (by decide) ?_
            refine lv_iload hx hb dX10_glooms_62 (lv_at hl 4 rfl) ?_
            refine lv_ishl hx hb dX10_glooms_64 ?_
            rw [n_shl (a := 1) (k := vq) (by omega) (Nat.lt_of_le_of_lt (by rw [Nat.one_mul]; exact Nat.pow_le_pow_right (by decide) (show vq ≤ 31 by omega)) (by decide))]
            refine lv_ior hx hb dX10_glooms_65 ?_
            rw [n_or se (1 * 2 ^ vq)]
            refine lv_istore_n (lv' := [(3, .int (nI (se ||| (1 * 2 ^ vq)))), (0, .ref h), (1, .int (nI jq)), (2, .int (nI (N 1 jq))), (4, .int (nI vq))]) hx hb dX10_glooms_66 rfl hl (by decide) rfl (fun ls hl => ?_)
            refine n_iinc (lv' := [(4, .int (nI (vq + 1))), (3, .int (nI (se ||| (1 * 2 ^ vq)))), (0, .ref h), (1, .int (nI jq)), (2, .int (nI (N 1 jq)))]) (k := 4) (d := 1) hx hb dX10_glooms_67 hl rfl rfl (by decide) rfl (fun ls hl => ?_)
            refine lv_goto (tgt := 28) hx hb dX10_glooms_70 (by decide) ?_
            exact ih28 (vq + 1) (se ||| (1 * 2 ^ vq)) (upd wf1 jq (nI vq)) (by omega) (by omega) (by rw [hse]; first | exact bset_t (by assumption) | exact bset_f (by assumption)) (fun x => by rw [upd_upd]; exact hV1 x) _ _ hw hS ls (lv_sub hl [2, 3, 4, 1, 0] rfl)
    exact loop28 _ 0 0 wf (Nat.lt_succ_self _) (by omega) rfl (fun x => hV.up1) _ _ hw hS ls (lv_sub hl [3, 4, 2, 1, 0] rfl)
  · refine lv_iconst (v := (-1)) hx hb dX10_glooms_11 (by decide) ?_
    refine hret _ _ _ _ _ _ _ _ dX10_glooms_12 hS hw (Nat.zero_le _) (Nat.zero_le _) ⟨N, C, wf, rfl, hV, ?_⟩
    unfold sp_glooms
    rw [if_neg (by omega)]
set_option maxRecDepth 100000 in
set_option maxHeartbeats 4000000 in
theorem c_X10_kinds (l : Launch) (D : va_G) (ka : Nat → ClassId) (z : Nat) (h : Nat) (A b nb sb : Nat → Nat) (v ta : Nat → Nat) (N : NN) (wf df : Nat → Int32) (tf : Nat → Option Nat) (hV : VR N ta wf df tf) (hN : WF N) (hL : N 0 5 = 0)(k : Int32) (K9 : Int) (hk : k.toInt = K9) (C : CC) (R : va_W) : MU l D ka z yX10_kinds cX10_kinds 5 (some .int) 5 3 9 [.ref h, .int k] (([(h, .inr (10, [.ref (A 0), .ref (A 1), .ref (b 0), .ref (nb 0), .ref (sb 0), .ref (A 2), .ref (v 0), .int (nI (N 0 4))])), ((b 0), .inr (2, [.ref (b 1), .ref (b 2), .ref (b 3), .int (nI (N 0 3))])), ((b 1), .inl (ka 0, 8, .inl (fun j => nI (N 6 j)))), ((b 2), .inl (ka 0, 8, .inl (fun j => nI (N 7 j)))), ((b 3), .inl (ka 0, 8, .inl (fun j => nI (N 8 j)))), ((v 0), .inr (8, [.ref (v 1), .ref (v 2), .ref (v 3), .int (nI (N 0 0)), .int (nI (N 0 1)), .int (nI (N 0 2))])), ((v 1), .inl (ka 0, 6, .inl (wf))), ((v 2), .inl (ka 2, 5, .inr (.inr (.inr (.inr (tf)))))), ((v 3), .inl (ka 0, 5, .inl (df)))] : va_W) ++ (tkw ta N (N 0 1) ++ R)) (Qi D z (fun r w => ∃ N' C' tf', w = ([(h, .inr (10, [.ref (A 0), .ref (A 1), .ref (b 0), .ref (nb 0), .ref (sb 0), .ref (A 2), .ref (v 0), .int (nI (N' 0 4))])), ((b 0), .inr (2, [.ref (b 1), .ref (b 2), .ref (b 3), .int (nI (N' 0 3))])), ((b 1), .inl (ka 0, 8, .inl (fun j => nI (N' 6 j)))), ((b 2), .inl (ka 0, 8, .inl (fun j => nI (N' 7 j)))), ((b 3), .inl (ka 0, 8, .inl (fun j => nI (N' 8 j))))] : va_W) ++ (vlw ka v (N' 0 0) (N' 0 1) (N' 0 2) wf df tf' ++ (tkw ta N' (N' 0 1) ++ R)) ∧ VR N' ta wf df tf' ∧ (r, N', C') = sp_kinds N C K9)) := by
  refine MU.ofI (by decide) (Nat.le_of_ble_eq_true rfl) ?_
  intro p e s m args below meth c Q X hw hS hret ls hl
  obtain ⟨hx, hb, hml, hown, hts, hE⟩ := id X
  have hK := hE.1
  have hz0 := hw.1
  have hl : lv_has ls 5 [(0, .ref h), (1, .int k)] := hl
  have hN1 := hN.1
  have hP : va_P D vwCl (kw ka v ta N wf df tf) s.heap := kw_of (w := [(h, .inr (10, [.ref (A 0), .ref (A 1), .ref (b 0), .ref (nb 0), .ref (sb 0), .ref (A 2), .ref (v 0), .int (nI (N 0 4))])), ((b 0), .inr (2, [.ref (b 1), .ref (b 2), .ref (b 3), .int (nI (N 0 3))])), ((b 1), .inl (ka 0, 8, .inl (fun j => nI (N 6 j)))), ((b 2), .inl (ka 0, 8, .inl (fun j => nI (N 7 j)))), ((b 3), .inl (ka 0, 8, .inl (fun j => nI (N 8 j))))]) (R := R) hw.2.1
  refine lv_aload_n hx hb dX10_kinds_0 rfl (lv_at hl 0 rfl) ?_
  refine va_get (D := D) (ci := 10) (v := .ref (v 0)) (C := RX10) (T := TX10) (N := 8) hx hb hts inX10 hown hK hw.2.1 0 rfl rfl 6 (by decide) (hts _ wd_169) (fun _ h9 => h9) rfl dX10_kinds_1 ?_
  refine lv_iload_n hx hb dX10_kinds_4 rfl (lv_at hl 1 rfl) ?_
  refine va_csq (ro_runV (c_X8_takerAt l D ka v ta N wf df tf hV hN k _ hk) X wd_311 wd_308 wd_309 wd_310 wd_3 on_X8_takerAt ⟨Nat.le_of_ble_eq_true rfl, Nat.le_of_ble_eq_true rfl⟩ (va_recv hK hP (ci := 8) (q0 := 0) rfl rfl) hP hl.1 rfl (Nat.le_of_ble_eq_true rfl) ⟨(Nat.zero_le _), (Nat.zero_le _)⟩ dX10_kinds_5) (fun r_1 hr_1 => ?_)
  subst hr_1
  by_cases ct_2 : 0 ≤ K9 ∧ K9 < ((N 0 1 : Nat) : Int)
  · rw [if_pos ct_2]
    obtain ⟨jq, hlt_jq, rfl, rfl⟩ := nat_ofK (n := N 0 1) hk (by omega) (by omega)
    refine W.eq (g2 := F0 m 8 ls [.ref (ta jq)]) rfl ?_
    refine lv_astore_n (lv' := [(2, .ref (ta jq)), (0, .ref h), (1, .int (nI jq))]) hx hb dX10_kinds_8 rfl hl (by decide) rfl (fun ls hl => ?_)
    refine lv_aload_n hx hb dX10_kinds_9 rfl (lv_at hl 0 rfl) ?_
    refine lv_ifnonnull (tgt := 15) hx hb dX10_kinds_10 (by decide) ?_
    refine lv_iconst (v := nI 0) hx hb dX10_kinds_15 (by decide) ?_
    refine lv_istore_n (lv' := [(3, .int (nI 0)), (2, .ref (ta jq)), (0, .ref h), (1, .int (nI jq))]) hx hb dX10_kinds_16 rfl hl (by decide) rfl (fun ls hl => ?_)
    refine lv_iconst (v := nI 0) hx hb dX10_kinds_17 (by decide) ?_
    refine lv_istore (lv' := [(4, .int (nI 0)), (3, .int (nI 0)), (2, .ref (ta jq)), (0, .ref h), (1, .int (nI jq))]) hx hb dX10_kinds_18 hl (by decide) rfl (fun ls hl => ?_)
    have hw : wdH D z (([(h, .inr (10, [.ref (A 0), .ref (A 1), .ref (b 0), .ref (nb 0), .ref (sb 0), .ref (A 2), .ref (v 0), .int (nI (N 0 4))])), ((b 0), .inr (2, [.ref (b 1), .ref (b 2), .ref (b 3), .int (nI (N 0 3))])), ((b 1), .inl (ka 0, 8, .inl (fun j => nI (N 6 j)))), ((b 2), .inl (ka 0, 8, .inl (fun j => nI (N 7 j)))), ((b 3), .inl (ka 0, 8, .inl (fun j => nI (N 8 j)))), ((v 0), .inr (8, [.ref (v 1), .ref (v 2), .ref (v 3), .int (nI (N 0 0)), .int (nI (N 0 1)), .int (nI (N 0 2))])), ((v 1), .inl (ka 0, 6, .inl (wf))), ((v 2), .inl (ka 2, 5, .inr (.inr (.inr (.inr (tf)))))), ((v 3), .inl (ka 0, 5, .inl (df)))] : va_W) ++ ((tkc ta N jq :: (tkw ta N (N 0 1)).eraseIdx jq) ++ R)) s.heap := hw.perm (List.Perm.append_left [(h, .inr (10, [.ref (A 0), .ref (A 1), .ref (b 0), .ref (nb 0), .ref (sb 0), .ref (A 2), .ref (v 0), .int (nI (N 0 4))])), ((b 0), .inr (2, [.ref (b 1), .ref (b 2), .ref (b 3), .int (nI (N 0 3))])), ((b 1), .inl (ka 0, 8, .inl (fun j => nI (N 6 j)))), ((b 2), .inl (ka 0, 8, .inl (fun j => nI (N 7 j)))), ((b 3), .inl (ka 0, 8, .inl (fun j => nI (N 8 j)))), ((v 0), .inr (8, [.ref (v 1), .ref (v 2), .ref (v 3), .int (nI (N 0 0)), .int (nI (N 0 1)), .int (nI (N 0 2))])), ((v 1), .inl (ka 0, 6, .inl (wf))), ((v 2), .inl (ka 2, 5, .inr (.inr (.inr (.inr (tf)))))), ((v 3), .inl (ka 0, 5, .inl (df)))] ((perm_at (tkw_at (by omega))).append_right R))
    have loop20 : ∀ (fuel20 : Nat) (kq : Nat) (se : Nat) (tf1 : Nat → Option Nat), 3 - kq < fuel20 → (kq ≤ 3) → (se = bset (fun x => soA (up N 2 jq x) (N 0 3)) kq) → (∀ j, j < N 0 1 → j ≠ jq → tf1 j = some (ta j)) → ∀ (H : Heap) (locs : List Loc), wdH D z (([(h, .inr (10, [.ref (A 0), .ref (A 1), .ref (b 0), .ref (nb 0), .ref (sb 0), .ref (A 2), .ref (v 0), .int (nI (N 0 4))])), ((b 0), .inr (2, [.ref (b 1), .ref (b 2), .ref (b 3), .int (nI (N 0 3))])), ((b 1), .inl (ka 0, 8, .inl (fun j => nI (N 6 j)))), ((b 2), .inl (ka 0, 8, .inl (fun j => nI (N 7 j)))), ((b 3), .inl (ka 0, 8, .inl (fun j => nI (N 8 j)))), ((v 0), .inr (8, [.ref (v 1), .ref (v 2), .ref (v 3), .int (nI (N 0 0)), .int (nI (N 0 1)), .int (nI (N 0 2))])), ((v 1), .inl (ka 0, 6, .inl (wf))), ((v 2), .inl (ka 2, 5, .inr (.inr (.inr (.inr (tf1)))))), ((v 3), .inl (ka 0, 5, .inl (df)))] : va_W) ++ ((tkc ta N jq :: (tkw ta N (N 0 1)).eraseIdx jq) ++ R)) H → va_S (fun q => z ≤ q) s.heap H locs → ∀ ls : Array Slot, lv_has ls 5 [(0, .ref h), (1, .int (nI jq)), (2, .ref (ta jq)), (3, .int (nI se)), (4, .int (nI kq))] → W p l e (rmz 5 3 9) s m args below meth c H locs kq (3 * kq) Q (F0 m 20 ls []) := by
      intro fuel20
      induction fuel20 with
      | zero => intro kq se tf1 hfu; exact absurd hfu (Nat.not_lt_zero _)
      | succ fuel20 ih20 =>
        intro kq se tf1 hfu hkq hse htf H locs hw hS ls hl
        refine lv_iload hx hb dX10_kinds_20 (lv_at hl 4 rfl) ?_
        refine lv_iconst (v := nI 2) hx hb dX10_kinds_22 (by decide) ?_
        refine i_icmp_gt (tgt := 76) hx hb (nT (by omega)) (nT (by decide)) dX10_kinds_23 (by decide) (fun c_3 => ?_) (fun c_3 => ?_)
        · refine lv_aload_n hx hb dX10_kinds_76 rfl (lv_at hl 0 rfl) ?_
          refine va_get (D := D) (ci := 10) (v := .ref (v 0)) (C := RX10) (T := TX10) (N := 8) hx hb hts inX10 hown hK hw.2.1 0 rfl rfl 6 (by decide) (hts _ wd_169) (fun _ h9 => h9) rfl dX10_kinds_77 ?_
          refine va_get (D := D) (ci := 8) (v := .ref (v 2)) (C := RX8) (T := TX8) (N := 6) hx hb hts inX8 hown hK hw.2.1 5 rfl rfl 1 (by decide) (hts _ wd_44) (fun _ h9 => h9) rfl dX10_kinds_80 ?_
          refine lv_iload_n hx hb dX10_kinds_83 rfl (lv_at hl 1 rfl) ?_
          refine lv_aload_n hx hb dX10_kinds_84 rfl (lv_at hl 2 rfl) ?_
          refine n_aastT X hw.2.1 hw.2.2 hS 7 9 (v := ta jq) (kd := N 2 jq) rfl rfl (hN.2.2.1 jq) (k := jq) (by omega) (by decide) dX10_kinds_85 (fun H locs hP hD hS => ?_)
          have hw : wdH D z (([(h, .inr (10, [.ref (A 0), .ref (A 1), .ref (b 0), .ref (nb 0), .ref (sb 0), .ref (A 2), .ref (v 0), .int (nI (N 0 4))])), ((b 0), .inr (2, [.ref (b 1), .ref (b 2), .ref (b 3), .int (nI (N 0 3))])), ((b 1), .inl (ka 0, 8, .inl (fun j => nI (N 6 j)))), ((b 2), .inl (ka 0, 8, .inl (fun j => nI (N 7 j)))), ((b 3), .inl (ka 0, 8, .inl (fun j => nI (N 8 j)))), ((v 0), .inr (8, [.ref (v 1), .ref (v 2), .ref (v 3), .int (nI (N 0 0)), .int (nI (N 0 1)), .int (nI (N 0 2))])), ((v 1), .inl (ka 0, 6, .inl (wf))), ((v 2), .inl (ka 2, 5, .inr (.inr (.inr (.inr (va_up tf1 jq (some (ta jq)))))))), ((v 3), .inl (ka 0, 5, .inl (df)))] : va_W) ++ ((tkc ta N jq :: (tkw ta N (N 0 1)).eraseIdx jq) ++ R)) H := ⟨Nat.le_trans hz0 hS.1, hP, hD⟩
          have hw : wdH D z (([(h, .inr (10, [.ref (A 0), .ref (A 1), .ref (b 0), .ref (nb 0), .ref (sb 0), .ref (A 2), .ref (v 0), .int (nI (N 0 4))])), ((b 0), .inr (2, [.ref (b 1), .ref (b 2), .ref (b 3), .int (nI (N 0 3))])), ((b 1), .inl (ka 0, 8, .inl (fun j => nI (N 6 j)))), ((b 2), .inl (ka 0, 8, .inl (fun j => nI (N 7 j)))), ((b 3), .inl (ka 0, 8, .inl (fun j => nI (N 8 j)))), ((v 0), .inr (8, [.ref (v 1), .ref (v 2), .ref (v 3), .int (nI (N 0 0)), .int (nI (N 0 1)), .int (nI (N 0 2))])), ((v 1), .inl (ka 0, 6, .inl (wf))), ((v 2), .inl (ka 2, 5, .inr (.inr (.inr (.inr (va_up tf1 jq (some (ta jq)))))))), ((v 3), .inl (ka 0, 5, .inl (df)))] : va_W) ++ (tkw ta N (N 0 1) ++ R)) H := hw.perm (List.Perm.append_left [(h, .inr (10, [.ref (A 0), .ref (A 1), .ref (b 0), .ref (nb 0), .ref (sb 0), .ref (A 2), .ref (v 0), .int (nI (N 0 4))])), ((b 0), .inr (2, [.ref (b 1), .ref (b 2), .ref (b 3), .int (nI (N 0 3))])), ((b 1), .inl (ka 0, 8, .inl (fun j => nI (N 6 j)))), ((b 2), .inl (ka 0, 8, .inl (fun j => nI (N 7 j)))), ((b 3), .inl (ka 0, 8, .inl (fun j => nI (N 8 j)))), ((v 0), .inr (8, [.ref (v 1), .ref (v 2), .ref (v 3), .int (nI (N 0 0)), .int (nI (N 0 1)), .int (nI (N 0 2))])), ((v 1), .inl (ka 0, 6, .inl (wf))), ((v 2), .inl (ka 2, 5, .inr (.inr (.inr (.inr (va_up tf1 jq (some (ta jq)))))))), ((v 3), .inl (ka 0, 5, .inl (df)))] (((perm_at (tkw_at (by omega))).symm).append_right R))
          refine lv_iload_n hx hb dX10_kinds_86 rfl (lv_at hl 3 rfl) ?_
          refine hret _ _ _ _ _ _ _ _ dX10_kinds_87 hS hw (by omega) (by omega) ⟨N, C, va_up tf1 jq (some (ta jq)), rfl, ⟨hV.1, hV.2.1, fun j hj => ?_⟩, ?_⟩
          · show (if j = jq then some (ta jq) else tf1 j) = some (ta j)
            by_cases e9 : j = jq
            · rw [if_pos e9, e9]
            · rw [if_neg e9]; exact htf j hj e9
          · unfold sp_kinds
            rw [if_pos (by omega), hse, show kq = 3 by omega]; rfl
        · refine lv_aload_n hx hb dX10_kinds_26 rfl (lv_at hl 0 rfl) ?_
          refine va_get (D := D) (ci := 10) (v := .ref (v 0)) (C := RX10) (T := TX10) (N := 8) hx hb hts inX10 hown hK hw.2.1 0 rfl rfl 6 (by decide) (hts _ wd_169) (fun _ h9 => h9) rfl dX10_kinds_27 ?_
          refine va_get (D := D) (ci := 8) (v := .ref (v 2)) (C := RX8) (T := TX8) (N := 6) hx hb hts inX8 hown hK hw.2.1 5 rfl rfl 1 (by decide) (hts _ wd_44) (fun _ h9 => h9) rfl dX10_kinds_30 ?_
          refine lv_iload_n hx hb dX10_kinds_33 rfl (lv_at hl 1 rfl) ?_
          refine lv_iload hx hb dX10_kinds_34 (lv_at hl 4 rfl) ?_
          refine lv_iload_n hx hb dX10_kinds_36 rfl (lv_at hl 1 rfl) ?_
          refine lv_aload_n hx hb dX10_kinds_37 rfl (lv_at hl 2 rfl) ?_
          refine tk_get X hw.2.1 (q0 := 9) rfl (kd := N 2 jq) (hN.2.2.1 jq) 1 (by decide) wd_272 (v := .int (nI (N 3 jq))) rfl dX10_kinds_38 ?_
          refine lv_aload_n hx hb dX10_kinds_41 rfl (lv_at hl 2 rfl) ?_
          refine tk_get X hw.2.1 (q0 := 9) rfl (kd := N 2 jq) (hN.2.2.1 jq) 2 (by decide) wd_279 (v := .int (nI (N 4 jq))) rfl dX10_kinds_42 ?_
          refine mu_r (mu_runS (c_X10_newTaker l D ka z kq jq (N 3 jq) (N 4 jq) (([(h, .inr (10, [.ref (A 0), .ref (A 1), .ref (b 0), .ref (nb 0), .ref (sb 0), .ref (A 2), .ref (v 0), .int (nI (N 0 4))])), ((b 0), .inr (2, [.ref (b 1), .ref (b 2), .ref (b 3), .int (nI (N 0 3))])), ((b 1), .inl (ka 0, 8, .inl (fun j => nI (N 6 j)))), ((b 2), .inl (ka 0, 8, .inl (fun j => nI (N 7 j)))), ((b 3), .inl (ka 0, 8, .inl (fun j => nI (N 8 j)))), ((v 0), .inr (8, [.ref (v 1), .ref (v 2), .ref (v 3), .int (nI (N 0 0)), .int (nI (N 0 1)), .int (nI (N 0 2))])), ((v 1), .inl (ka 0, 6, .inl (wf))), ((v 2), .inl (ka 2, 5, .inr (.inr (.inr (.inr (tf1)))))), ((v 3), .inl (ka 0, 5, .inl (df)))] : va_W) ++ ((tkc ta N jq :: (tkw ta N (N 0 1)).eraseIdx jq) ++ R)) (by omega)) X wd_259 wd_540 wd_258 wd_1 on_X10_newTaker ⟨Nat.le_of_ble_eq_true rfl, Nat.le_of_ble_eq_true rfl⟩ hw hl.1 rfl (Nat.le_of_ble_eq_true rfl) ⟨by show kq + 1 ≤ 3; omega, by show 3 * kq + 3 ≤ 9; omega⟩ dX10_kinds_45) hS (fun u_4 ra_5 H locs hp_u_4 hw hS => ?_)
          subst hp_u_4
          have hw : wdH D z (([(ra_5, .inr (kcl kq, [.int (nI jq), .int (nI (N 3 jq)), .int (nI (N 4 jq))])), (h, .inr (10, [.ref (A 0), .ref (A 1), .ref (b 0), .ref (nb 0), .ref (sb 0), .ref (A 2), .ref (v 0), .int (nI (N 0 4))])), ((b 0), .inr (2, [.ref (b 1), .ref (b 2), .ref (b 3), .int (nI (N 0 3))])), ((b 1), .inl (ka 0, 8, .inl (fun j => nI (N 6 j)))), ((b 2), .inl (ka 0, 8, .inl (fun j => nI (N 7 j)))), ((b 3), .inl (ka 0, 8, .inl (fun j => nI (N 8 j)))), ((v 0), .inr (8, [.ref (v 1), .ref (v 2), .ref (v 3), .int (nI (N 0 0)), .int (nI (N 0 1)), .int (nI (N 0 2))])), ((v 1), .inl (ka 0, 6, .inl (wf))), ((v 2), .inl (ka 2, 5, .inr (.inr (.inr (.inr (tf1)))))), ((v 3), .inl (ka 0, 5, .inl (df)))] : va_W) ++ ((tkc ta N jq :: (tkw ta N (N 0 1)).eraseIdx jq) ++ R)) H := hw
          refine n_aastT X hw.2.1 hw.2.2 hS 8 0 (kd := kq) rfl rfl (by omega) (k := jq) (by omega) (by decide) dX10_kinds_48 (fun H locs hP hD hS => ?_)
          have hw : wdH D z (([(ra_5, .inr (kcl kq, [.int (nI jq), .int (nI (N 3 jq)), .int (nI (N 4 jq))])), (h, .inr (10, [.ref (A 0), .ref (A 1), .ref (b 0), .ref (nb 0), .ref (sb 0), .ref (A 2), .ref (v 0), .int (nI (N 0 4))])), ((b 0), .inr (2, [.ref (b 1), .ref (b 2), .ref (b 3), .int (nI (N 0 3))])), ((b 1), .inl (ka 0, 8, .inl (fun j => nI (N 6 j)))), ((b 2), .inl (ka 0, 8, .inl (fun j => nI (N 7 j)))), ((b 3), .inl (ka 0, 8, .inl (fun j => nI (N 8 j)))), ((v 0), .inr (8, [.ref (v 1), .ref (v 2), .ref (v 3), .int (nI (N 0 0)), .int (nI (N 0 1)), .int (nI (N 0 2))])), ((v 1), .inl (ka 0, 6, .inl (wf))), ((v 2), .inl (ka 2, 5, .inr (.inr (.inr (.inr (va_up tf1 jq (some ra_5))))))), ((v 3), .inl (ka 0, 5, .inl (df)))] : va_W) ++ ((tkc ta N jq :: (tkw ta N (N 0 1)).eraseIdx jq) ++ R)) H := ⟨Nat.le_trans hz0 hS.1, hP, hD⟩
          have hT := kinds_T (ta := ta) (N := N) (n := N 0 1) (j := jq) (ra := ra_5) (kq := kq) (by omega)
          have hw : wdH D z (([(h, .inr (10, [.ref (A 0), .ref (A 1), .ref (b 0), .ref (nb 0), .ref (sb 0), .ref (A 2), .ref (v 0), .int (nI (N 0 4))])), ((b 0), .inr (2, [.ref (b 1), .ref (b 2), .ref (b 3), .int (nI (N 0 3))])), ((b 1), .inl (ka 0, 8, .inl (fun j => nI (N 6 j)))), ((b 2), .inl (ka 0, 8, .inl (fun j => nI (N 7 j)))), ((b 3), .inl (ka 0, 8, .inl (fun j => nI (N 8 j)))), ((v 0), .inr (8, [.ref (v 1), .ref (v 2), .ref (v 3), .int (nI (N 0 0)), .int (nI (N 0 1)), .int (nI (N 0 2))])), ((v 1), .inl (ka 0, 6, .inl (wf))), ((v 2), .inl (ka 2, 5, .inr (.inr (.inr (.inr (va_up tf1 jq (some ra_5))))))), ((v 3), .inl (ka 0, 5, .inl (df)))] : va_W) ++ (tkw (fun j => if j = jq then ra_5 else ta j) (up N 2 jq kq) (N 0 1) ++ (tkc ta N jq :: R))) H := kinds_in hT hw
          have hP : va_P D vwCl (kw ka v (fun j => if j = jq then ra_5 else ta j) (up N 2 jq kq) wf df (va_up tf1 jq (some ra_5))) H := kw_of (w := [(h, .inr (10, [.ref (A 0), .ref (A 1), .ref (b 0), .ref (nb 0), .ref (sb 0), .ref (A 2), .ref (v 0), .int (nI (N 0 4))])), ((b 0), .inr (2, [.ref (b 1), .ref (b 2), .ref (b 3), .int (nI (N 0 3))])), ((b 1), .inl (ka 0, 8, .inl (fun j => nI (N 6 j)))), ((b 2), .inl (ka 0, 8, .inl (fun j => nI (N 7 j)))), ((b 3), .inl (ka 0, 8, .inl (fun j => nI (N 8 j))))]) (R := tkc ta N jq :: R) hw.2.1
          have hV2 : VR (up N 2 jq kq) (fun j => if j = jq then ra_5 else ta j) wf df (va_up tf1 jq (some ra_5)) := ⟨hV.1, hV.2.1, fun j hj => by
            show (if j = jq then some ra_5 else tf1 j) = some (if j = jq then ra_5 else ta j)
            by_cases e9 : j = jq
            · rw [if_pos e9, if_pos e9]
            · rw [if_neg e9, if_neg e9]; exact htf j hj e9⟩
          refine lv_aload_n hx hb dX10_kinds_49 rfl (lv_at hl 0 rfl) ?_
          refine va_get (D := D) (ci := 10) (v := .ref (b 0)) (C := RX10) (T := TX10) (N := 8) hx hb hts inX10 hown hK hw.2.1 0 rfl rfl 2 (by decide) (hts _ wd_165) (fun _ h9 => h9) rfl dX10_kinds_50 ?_
          refine lv_aload_n hx hb dX10_kinds_53 rfl (lv_at hl 0 rfl) ?_
          refine va_get (D := D) (ci := 10) (v := .ref (v 0)) (C := RX10) (T := TX10) (N := 8) hx hb hts inX10 hown hK hw.2.1 0 rfl rfl 6 (by decide) (hts _ wd_169) (fun _ h9 => h9) rfl dX10_kinds_54 ?_
          have hRs := rd_of (w := [(h, .inr (10, [.ref (A 0), .ref (A 1), .ref (b 0), .ref (nb 0), .ref (sb 0), .ref (A 2), .ref (v 0), .int (nI (N 0 4))]))]) (X := ([((v 0), .inr (8, [.ref (v 1), .ref (v 2), .ref (v 3), .int (nI (N 0 0)), .int (nI (N 0 1)), .int (nI (N 0 2))])), ((v 1), .inl (ka 0, 6, .inl (wf))), ((v 2), .inl (ka 2, 5, .inr (.inr (.inr (.inr (va_up tf1 jq (some ra_5))))))), ((v 3), .inl (ka 0, 5, .inl (df)))] : va_W) ++ (tkw (fun j => if j = jq then ra_5 else ta j) (up N 2 jq kq) (N 0 1) ++ (tkc ta N jq :: R))) (ka := ka) (b := b) (N := (up N 2 jq kq)) hw.2.1
          refine vp_callSi (ro_runV (c_X2_allAreSo l D ka b v (fun j => if j = jq then ra_5 else ta j) (up N 2 jq kq) wf df (va_up tf1 jq (some ra_5)) hV2 (WF.up2 hN (by omega)) hL) X wd_533 wd_530 wd_531 wd_532 wd_4 on_X2_allAreSo ⟨Nat.le_of_ble_eq_true rfl, Nat.le_of_ble_eq_true rfl⟩ (va_recv hK hw.2.1 (ci := 2) (q0 := 1) rfl rfl) ⟨hRs, hP⟩ hl.1 rfl (Nat.le_of_ble_eq_true rfl) ⟨(by show kq + 1 ≤ 3; omega), (by show 3 * kq + 3 ≤ 9; omega)⟩ dX10_kinds_57) (fun r_6 hr_6 => ?_)
          subst hr_6
          refine W.eq (g2 := F0 m 60 ls [.int (bI (soA (up N 2 jq kq) (N 0 3) = true))]) rfl ?_
          have hw : wdH D z (([(h, .inr (10, [.ref (A 0), .ref (A 1), .ref (b 0), .ref (nb 0), .ref (sb 0), .ref (A 2), .ref (v 0), .int (nI (N 0 4))])), ((b 0), .inr (2, [.ref (b 1), .ref (b 2), .ref (b 3), .int (nI (N 0 3))])), ((b 1), .inl (ka 0, 8, .inl (fun j => nI (N 6 j)))), ((b 2), .inl (ka 0, 8, .inl (fun j => nI (N 7 j)))), ((b 3), .inl (ka 0, 8, .inl (fun j => nI (N 8 j)))), ((v 0), .inr (8, [.ref (v 1), .ref (v 2), .ref (v 3), .int (nI (N 0 0)), .int (nI (N 0 1)), .int (nI (N 0 2))])), ((v 1), .inl (ka 0, 6, .inl (wf))), ((v 2), .inl (ka 2, 5, .inr (.inr (.inr (.inr (va_up tf1 jq (some ra_5))))))), ((v 3), .inl (ka 0, 5, .inl (df)))] : va_W) ++ ((tkc ta N jq :: (tkw ta N (N 0 1)).eraseIdx jq) ++ R)) H := kinds_out hT hw
          refine b_if_eq (tgt := 70) hx hb dX10_kinds_60 (by decide) (fun c_7 => ?_) (fun c_7 => ?_)
          · refine n_iinc (lv' := [(4, .int (nI (kq + 1))), (0, .ref h), (1, .int (nI jq)), (2, .ref (ta jq)), (3, .int (nI se))]) (k := 4) (d := 1) hx hb dX10_kinds_70 hl rfl rfl (by decide) rfl (fun ls hl => ?_)
            refine lv_goto (tgt := 20) hx hb dX10_kinds_73 (by decide) ?_
            exact ih20 (kq + 1) se (va_up tf1 jq (some ra_5)) (by omega) (by omega) (by rw [hse]; first | exact bset_t (by assumption) | exact bset_f (by assumption)) (fun j hj hn => by unfold va_up; rw [if_neg hn]; exact htf j hj hn) _ _ hw hS ls (lv_sub hl [1, 2, 3, 4, 0] rfl)
          · refine lv_iload_n hx hb dX10_kinds_63 rfl (lv_at hl 3 rfl) ?_
            refine lv_iconst (v := nI 1) hx hb dX10_kinds_64 (by decide) ?_
            refine lv_iload hx hb dX10_kinds_65 (lv_at hl 4 rfl) ?_
            refine lv_ishl hx hb dX10_kinds_67 ?_
            rw [n_shl (a := 1) (k := kq) (by omega) (Nat.lt_of_le_of_lt (by rw [Nat.one_mul]; exact Nat.pow_le_pow_right (by decide) (show kq ≤ 31 by omega)) (by decide))]
            refine lv_ior hx hb dX10_kinds_68 ?_
            rw [n_or se (1 * 2 ^ kq)]
            refine lv_istore_n (lv' := [(3, .int (nI (se ||| (1 * 2 ^ kq)))), (0, .ref h), (1, .int (nI jq)), (2, .ref (ta jq)), (4, .int (nI kq))]) hx hb dX10_kinds_69 rfl hl (by decide) rfl (fun ls hl => ?_)
            refine n_iinc (lv' := [(4, .int (nI (kq + 1))), (3, .int (nI (se ||| (1 * 2 ^ kq)))), (0, .ref h), (1, .int (nI jq)), (2, .ref (ta jq))]) (k := 4) (d := 1) hx hb dX10_kinds_70 hl rfl rfl (by decide) rfl (fun ls hl => ?_)
            refine lv_goto (tgt := 20) hx hb dX10_kinds_73 (by decide) ?_
            exact ih20 (kq + 1) (se ||| (1 * 2 ^ kq)) (va_up tf1 jq (some ra_5)) (by omega) (by omega) (by rw [hse]; first | exact bset_t (by assumption) | exact bset_f (by assumption)) (fun j hj hn => by unfold va_up; rw [if_neg hn]; exact htf j hj hn) _ _ hw hS ls (lv_sub hl [2, 3, 4, 1, 0] rfl)
    exact loop20 _ 0 0 tf (Nat.lt_succ_self _) (by omega) rfl (fun j hj _ => hV.2.2 j hj) _ _ hw hS ls (lv_sub hl [3, 4, 2, 1, 0] rfl)
  · rw [if_neg ct_2]
    refine W.eq (g2 := F0 m 8 ls [.null]) rfl ?_
    refine lv_astore_nN (lv' := [(2, .null), (0, .ref h), (1, .int k)]) hx hb dX10_kinds_8 rfl hl (by decide) rfl (fun ls hl => ?_)
    refine lv_aload_nN hx hb dX10_kinds_9 rfl (lv_at hl 0 rfl) ?_
    refine lv_ifnonnullN hx hb dX10_kinds_10 ?_
    refine lv_iconst (v := (-1)) hx hb dX10_kinds_13 (by decide) ?_
    refine hret _ _ _ _ _ _ _ _ dX10_kinds_14 hS hw (Nat.zero_le _) (Nat.zero_le _) ⟨N, C, tf, rfl, hV, ?_⟩
    unfold sp_kinds
    rw [if_neg (by omega)]
set_option maxRecDepth 100000 in
set_option maxHeartbeats 4000000 in
theorem c_X10_tell (l : Launch) (D : va_G) (ka : Nat → ClassId) (z : Nat) (h : Nat) (A b nb sb : Nat → Nat) (v ta : Nat → Nat) (N : NN) (wf df : Nat → Int32) (tf : Nat → Option Nat) (hV : VR N ta wf df tf) (hN : WF N) (hL : N 0 5 = 0)(k : Int32) (K9 : Int) (hk : k.toInt = K9) (C : CC) (R : va_W) : MU l D ka z yX10_tell cX10_tell 3 (some .int) 4 0 0 [.ref h, .int k] (([(h, .inr (10, [.ref (A 0), .ref (A 1), .ref (b 0), .ref (nb 0), .ref (sb 0), .ref (A 2), .ref (v 0), .int (nI (N 0 4))])), ((A 2), .inr (7, [.int (C 4 60)])), ((v 0), .inr (8, [.ref (v 1), .ref (v 2), .ref (v 3), .int (nI (N 0 0)), .int (nI (N 0 1)), .int (nI (N 0 2))])), ((v 1), .inl (ka 0, 6, .inl (wf))), ((v 2), .inl (ka 2, 5, .inr (.inr (.inr (.inr (tf)))))), ((v 3), .inl (ka 0, 5, .inl (df)))] : va_W) ++ (tkw ta N (N 0 1) ++ R)) (Qi D z (fun r w => ∃ N' C', w = ([(h, .inr (10, [.ref (A 0), .ref (A 1), .ref (b 0), .ref (nb 0), .ref (sb 0), .ref (A 2), .ref (v 0), .int (nI (N' 0 4))])), ((A 2), .inr (7, [.int (C' 4 60)]))] : va_W) ++ (vlw ka v (N' 0 0) (N' 0 1) (N' 0 2) wf df tf ++ (tkw ta N' (N' 0 1) ++ R)) ∧ VR N' ta wf df tf ∧ (r, N', C') = sp_tell N C K9)) := by
  refine MU.ofI (by decide) (Nat.le_of_ble_eq_true rfl) ?_
  intro p e s m args below meth c Q X hw hS hret ls hl
  obtain ⟨hx, hb, hml, hown, hts, hE⟩ := id X
  have hK := hE.1
  have hz0 := hw.1
  have hl : lv_has ls 3 [(0, .ref h), (1, .int k)] := hl
  have hN1 := hN.1
  have hP : va_P D vwCl (kw ka v ta N wf df tf) s.heap := kw_of (w := [(h, .inr (10, [.ref (A 0), .ref (A 1), .ref (b 0), .ref (nb 0), .ref (sb 0), .ref (A 2), .ref (v 0), .int (nI (N 0 4))])), ((A 2), .inr (7, [.int (C 4 60)]))]) (R := R) hw.2.1
  refine lv_aload_n hx hb dX10_tell_0 rfl (lv_at hl 0 rfl) ?_
  refine va_get (D := D) (ci := 10) (v := .ref (v 0)) (C := RX10) (T := TX10) (N := 8) hx hb hts inX10 hown hK hw.2.1 0 rfl rfl 6 (by decide) (hts _ wd_169) (fun _ h9 => h9) rfl dX10_tell_1 ?_
  refine lv_iload_n hx hb dX10_tell_4 rfl (lv_at hl 1 rfl) ?_
  refine va_csq (ro_runV (c_X8_takerAt l D ka v ta N wf df tf hV hN k _ hk) X wd_311 wd_308 wd_309 wd_310 wd_3 on_X8_takerAt ⟨Nat.le_of_ble_eq_true rfl, Nat.le_of_ble_eq_true rfl⟩ (va_recv hK hP (ci := 8) (q0 := 0) rfl rfl) hP hl.1 rfl (Nat.le_of_ble_eq_true rfl) ⟨(Nat.zero_le _), (Nat.zero_le _)⟩ dX10_tell_5) (fun r_1 hr_1 => ?_)
  subst hr_1
  by_cases ct_2 : 0 ≤ K9 ∧ K9 < ((N 0 1 : Nat) : Int)
  · rw [if_pos ct_2]
    obtain ⟨jq, hlt_jq, rfl, rfl⟩ := nat_ofK (n := N 0 1) hk (by omega) (by omega)
    refine W.eq (g2 := F0 m 8 ls [.ref (ta jq)]) rfl ?_
    refine lv_astore_n (lv' := [(2, .ref (ta jq)), (0, .ref h), (1, .int (nI jq))]) hx hb dX10_tell_8 rfl hl (by decide) rfl (fun ls hl => ?_)
    refine lv_aload_n hx hb dX10_tell_9 rfl (lv_at hl 0 rfl) ?_
    refine lv_ifnonnull (tgt := 17) hx hb dX10_tell_10 (by decide) ?_
    refine lv_aload_n hx hb dX10_tell_17 rfl (lv_at hl 0 rfl) ?_
    refine lv_aload_n hx hb dX10_tell_18 rfl (lv_at hl 1 rfl) ?_
    refine va_get (D := D) (ci := 10) (v := .ref (A 2)) (C := RX10) (T := TX10) (N := 8) hx hb hts inX10 hown hK hw.2.1 0 rfl rfl 5 (by decide) (hts _ wd_168) (fun _ h9 => h9) rfl dX10_tell_19 ?_
    have hat : (([(h, .inr (10, [.ref (A 0), .ref (A 1), .ref (b 0), .ref (nb 0), .ref (sb 0), .ref (A 2), .ref (v 0), .int (nI (N 0 4))])), ((v 0), .inr (8, [.ref (v 1), .ref (v 2), .ref (v 3), .int (nI (N 0 0)), .int (nI (N 0 1)), .int (nI (N 0 2))])), ((v 1), .inl (ka 0, 6, .inl (wf))), ((v 2), .inl (ka 2, 5, .inr (.inr (.inr (.inr (tf)))))), ((v 3), .inl (ka 0, 5, .inl (df)))] : va_W) ++ (tkw ta N (N 0 1) ++ R))[5 + jq]? = some (tkc ta N jq) := tk_atL (L := [(h, .inr (10, [.ref (A 0), .ref (A 1), .ref (b 0), .ref (nb 0), .ref (sb 0), .ref (A 2), .ref (v 0), .int (nI (N 0 4))])), ((v 0), .inr (8, [.ref (v 1), .ref (v 2), .ref (v 3), .int (nI (N 0 0)), .int (nI (N 0 1)), .int (nI (N 0 2))])), ((v 1), .inl (ka 0, 6, .inl (wf))), ((v 2), .inl (ka 2, 5, .inr (.inr (.inr (.inr (tf)))))), ((v 3), .inl (ka 0, 5, .inl (df)))]) (R := R) rfl (by omega)
    have hw : wdH D z (([((A 2), .inr (7, [.int (C 4 60)])), tkc ta N jq] : va_W) ++ (([(h, .inr (10, [.ref (A 0), .ref (A 1), .ref (b 0), .ref (nb 0), .ref (sb 0), .ref (A 2), .ref (v 0), .int (nI (N 0 4))])), ((v 0), .inr (8, [.ref (v 1), .ref (v 2), .ref (v 3), .int (nI (N 0 0)), .int (nI (N 0 1)), .int (nI (N 0 2))])), ((v 1), .inl (ka 0, 6, .inl (wf))), ((v 2), .inl (ka 2, 5, .inr (.inr (.inr (.inr (tf)))))), ((v 3), .inl (ka 0, 5, .inl (df)))] : va_W) ++ (tkw ta N (N 0 1) ++ R)).eraseIdx (5 + jq)) s.heap := hw.perm ((perm_at (i := 1) rfl).trans ((perm_at hat).cons _))
    refine tk_telling X wd_610 (kd := N 2 jq) (nu := nI jq) (nv := N 3 jq) (mi := N 4 jq) (hN.2.2.1 jq) (hN.2.2.2.1 jq) hw hS ⟨Nat.le_of_ble_eq_true rfl, Nat.le_of_ble_eq_true rfl⟩ hl.1 (Nat.le_of_ble_eq_true rfl) ⟨Nat.le_of_ble_eq_true rfl, Nat.le_of_ble_eq_true rfl⟩ dX10_tell_22 (fun H locs hw hS => ?_)
    have hw : wdH D z (([(h, .inr (10, [.ref (A 0), .ref (A 1), .ref (b 0), .ref (nb 0), .ref (sb 0), .ref (A 2), .ref (v 0), .int (nI (N 0 4))])), ((A 2), .inr (7, [.int (tlv (N 2 jq) (C 4 60))])), ((v 0), .inr (8, [.ref (v 1), .ref (v 2), .ref (v 3), .int (nI (N 0 0)), .int (nI (N 0 1)), .int (nI (N 0 2))])), ((v 1), .inl (ka 0, 6, .inl (wf))), ((v 2), .inl (ka 2, 5, .inr (.inr (.inr (.inr (tf)))))), ((v 3), .inl (ka 0, 5, .inl (df)))] : va_W) ++ (tkw ta N (N 0 1) ++ R)) H := hw.perm (((perm_at hat).symm.cons _).trans (List.Perm.swap _ _ _))
    have h2k := hN.2.2.1 jq
    rcases (show N 2 jq = 0 ∨ N 2 jq = 1 ∨ N 2 jq = 2 by omega) with e2 | e2 | e2
    · rw [e2] at hw
      refine hret _ _ _ _ _ _ _ _ dX10_tell_25 hS hw (Nat.zero_le _) (Nat.zero_le _) ⟨N, tC C 1, rfl, hV, ?_⟩
      unfold sp_tell
      rw [if_pos (by omega)]
      show _ = (if N 2 jq = 1 then (nI (N 3 jq + 100), N, tC (tC C 2) 1) else if N 2 jq = 2 then (nI (2 * N 3 jq + 100), N, tC (tC (tC (tC C 3) 2) 1) 1) else (nI (N 3 jq), N, tC C 1))
      rw [e2]; rfl
    · rw [e2] at hw
      refine hret _ _ _ _ _ _ _ _ dX10_tell_25 hS hw (Nat.zero_le _) (Nat.zero_le _) ⟨N, tC (tC C 2) 1, rfl, hV, ?_⟩
      unfold sp_tell
      rw [if_pos (by omega)]
      show _ = (if N 2 jq = 1 then (nI (N 3 jq + 100), N, tC (tC C 2) 1) else if N 2 jq = 2 then (nI (2 * N 3 jq + 100), N, tC (tC (tC (tC C 3) 2) 1) 1) else (nI (N 3 jq), N, tC C 1))
      rw [e2]; rfl
    · rw [e2] at hw
      refine hret _ _ _ _ _ _ _ _ dX10_tell_25 hS hw (Nat.zero_le _) (Nat.zero_le _) ⟨N, tC (tC (tC (tC C 3) 2) 1) 1, rfl, hV, ?_⟩
      unfold sp_tell
      rw [if_pos (by omega)]
      show _ = (if N 2 jq = 1 then (nI (N 3 jq + 100), N, tC (tC C 2) 1) else if N 2 jq = 2 then (nI (2 * N 3 jq + 100), N, tC (tC (tC (tC C 3) 2) 1) 1) else (nI (N 3 jq), N, tC C 1))
      rw [e2]; rfl
  · rw [if_neg ct_2]
    refine W.eq (g2 := F0 m 8 ls [.null]) rfl ?_
    refine lv_astore_nN (lv' := [(2, .null), (0, .ref h), (1, .int k)]) hx hb dX10_tell_8 rfl hl (by decide) rfl (fun ls hl => ?_)
    refine lv_aload_nN hx hb dX10_tell_9 rfl (lv_at hl 0 rfl) ?_
    refine lv_ifnonnullN hx hb dX10_tell_10 ?_
    refine lv_iconst (v := (-1)) hx hb dX10_tell_13 (by decide) ?_
    refine lv_goto (tgt := 25) hx hb dX10_tell_14 (by decide) ?_
    refine hret _ _ _ _ _ _ _ _ dX10_tell_25 hS hw (Nat.zero_le _) (Nat.zero_le _) ⟨N, C, rfl, hV, ?_⟩
    unfold sp_tell
    rw [if_neg (by omega)]
set_option maxRecDepth 100000 in
set_option maxHeartbeats 4000000 in
theorem c_X10_ring (l : Launch) (D : va_G) (ka : Nat → ClassId) (z : Nat) (h : Nat) (A b nb sb : Nat → Nat) (v ta : Nat → Nat) (N : NN) (wf df : Nat → Int32) (tf : Nat → Option Nat) (hV : VR N ta wf df tf) (hN : WF N) (hL : N 0 5 = 0)(k : Int32) (K9 : Int) (hk : k.toInt = K9) (C : CC) (R : va_W) : MU l D ka z yX10_ring cX10_ring 3 (some .int) 4 0 0 [.ref h, .int k] (([(h, .inr (10, [.ref (A 0), .ref (A 1), .ref (b 0), .ref (nb 0), .ref (sb 0), .ref (A 2), .ref (v 0), .int (nI (N 0 4))])), ((A 2), .inr (7, [.int (C 4 60)])), ((v 0), .inr (8, [.ref (v 1), .ref (v 2), .ref (v 3), .int (nI (N 0 0)), .int (nI (N 0 1)), .int (nI (N 0 2))])), ((v 1), .inl (ka 0, 6, .inl (wf))), ((v 2), .inl (ka 2, 5, .inr (.inr (.inr (.inr (tf)))))), ((v 3), .inl (ka 0, 5, .inl (df)))] : va_W) ++ (tkw ta N (N 0 1) ++ R)) (Qi D z (fun r w => ∃ N' C', w = ([(h, .inr (10, [.ref (A 0), .ref (A 1), .ref (b 0), .ref (nb 0), .ref (sb 0), .ref (A 2), .ref (v 0), .int (nI (N' 0 4))])), ((A 2), .inr (7, [.int (C' 4 60)]))] : va_W) ++ (vlw ka v (N' 0 0) (N' 0 1) (N' 0 2) wf df tf ++ (tkw ta N' (N' 0 1) ++ R)) ∧ VR N' ta wf df tf ∧ (r, N', C') = sp_ring N C K9)) := by
  refine MU.ofI (by decide) (Nat.le_of_ble_eq_true rfl) ?_
  intro p e s m args below meth c Q X hw hS hret ls hl
  obtain ⟨hx, hb, hml, hown, hts, hE⟩ := id X
  have hK := hE.1
  have hz0 := hw.1
  have hl : lv_has ls 3 [(0, .ref h), (1, .int k)] := hl
  have hN1 := hN.1
  have hP : va_P D vwCl (kw ka v ta N wf df tf) s.heap := kw_of (w := [(h, .inr (10, [.ref (A 0), .ref (A 1), .ref (b 0), .ref (nb 0), .ref (sb 0), .ref (A 2), .ref (v 0), .int (nI (N 0 4))])), ((A 2), .inr (7, [.int (C 4 60)]))]) (R := R) hw.2.1
  refine lv_aload_n hx hb dX10_ring_0 rfl (lv_at hl 0 rfl) ?_
  refine va_get (D := D) (ci := 10) (v := .ref (v 0)) (C := RX10) (T := TX10) (N := 8) hx hb hts inX10 hown hK hw.2.1 0 rfl rfl 6 (by decide) (hts _ wd_169) (fun _ h9 => h9) rfl dX10_ring_1 ?_
  refine lv_iload_n hx hb dX10_ring_4 rfl (lv_at hl 1 rfl) ?_
  refine va_csq (ro_runV (c_X8_takerAt l D ka v ta N wf df tf hV hN k _ hk) X wd_311 wd_308 wd_309 wd_310 wd_3 on_X8_takerAt ⟨Nat.le_of_ble_eq_true rfl, Nat.le_of_ble_eq_true rfl⟩ (va_recv hK hP (ci := 8) (q0 := 0) rfl rfl) hP hl.1 rfl (Nat.le_of_ble_eq_true rfl) ⟨(Nat.zero_le _), (Nat.zero_le _)⟩ dX10_ring_5) (fun r_1 hr_1 => ?_)
  subst hr_1
  by_cases ct_2 : 0 ≤ K9 ∧ K9 < ((N 0 1 : Nat) : Int)
  · rw [if_pos ct_2]
    obtain ⟨jq, hlt_jq, rfl, rfl⟩ := nat_ofK (n := N 0 1) hk (by omega) (by omega)
    refine W.eq (g2 := F0 m 8 ls [.ref (ta jq)]) rfl ?_
    refine lv_astore_n (lv' := [(2, .ref (ta jq)), (0, .ref h), (1, .int (nI jq))]) hx hb dX10_ring_8 rfl hl (by decide) rfl (fun ls hl => ?_)
    refine lv_aload_n hx hb dX10_ring_9 rfl (lv_at hl 0 rfl) ?_
    refine lv_ifnonnull (tgt := 17) hx hb dX10_ring_10 (by decide) ?_
    refine lv_aload_n hx hb dX10_ring_17 rfl (lv_at hl 0 rfl) ?_
    refine lv_aload_n hx hb dX10_ring_18 rfl (lv_at hl 1 rfl) ?_
    refine va_get (D := D) (ci := 10) (v := .ref (A 2)) (C := RX10) (T := TX10) (N := 8) hx hb hts inX10 hown hK hw.2.1 0 rfl rfl 5 (by decide) (hts _ wd_168) (fun _ h9 => h9) rfl dX10_ring_19 ?_
    have hat : (([(h, .inr (10, [.ref (A 0), .ref (A 1), .ref (b 0), .ref (nb 0), .ref (sb 0), .ref (A 2), .ref (v 0), .int (nI (N 0 4))])), ((v 0), .inr (8, [.ref (v 1), .ref (v 2), .ref (v 3), .int (nI (N 0 0)), .int (nI (N 0 1)), .int (nI (N 0 2))])), ((v 1), .inl (ka 0, 6, .inl (wf))), ((v 2), .inl (ka 2, 5, .inr (.inr (.inr (.inr (tf)))))), ((v 3), .inl (ka 0, 5, .inl (df)))] : va_W) ++ (tkw ta N (N 0 1) ++ R))[5 + jq]? = some (tkc ta N jq) := tk_atL (L := [(h, .inr (10, [.ref (A 0), .ref (A 1), .ref (b 0), .ref (nb 0), .ref (sb 0), .ref (A 2), .ref (v 0), .int (nI (N 0 4))])), ((v 0), .inr (8, [.ref (v 1), .ref (v 2), .ref (v 3), .int (nI (N 0 0)), .int (nI (N 0 1)), .int (nI (N 0 2))])), ((v 1), .inl (ka 0, 6, .inl (wf))), ((v 2), .inl (ka 2, 5, .inr (.inr (.inr (.inr (tf)))))), ((v 3), .inl (ka 0, 5, .inl (df)))]) (R := R) rfl (by omega)
    have hw : wdH D z (([((A 2), .inr (7, [.int (C 4 60)])), tkc ta N jq] : va_W) ++ (([(h, .inr (10, [.ref (A 0), .ref (A 1), .ref (b 0), .ref (nb 0), .ref (sb 0), .ref (A 2), .ref (v 0), .int (nI (N 0 4))])), ((v 0), .inr (8, [.ref (v 1), .ref (v 2), .ref (v 3), .int (nI (N 0 0)), .int (nI (N 0 1)), .int (nI (N 0 2))])), ((v 1), .inl (ka 0, 6, .inl (wf))), ((v 2), .inl (ka 2, 5, .inr (.inr (.inr (.inr (tf)))))), ((v 3), .inl (ka 0, 5, .inl (df)))] : va_W) ++ (tkw ta N (N 0 1) ++ R)).eraseIdx (5 + jq)) s.heap := hw.perm ((perm_at (i := 1) rfl).trans ((perm_at hat).cons _))
    refine tk_rung X wd_643 (kd := N 2 jq) (nu := nI jq) (nv := N 3 jq) (mi := N 4 jq) (hN.2.2.1 jq) (hN.2.2.2.1 jq) hw hS ⟨Nat.le_of_ble_eq_true rfl, Nat.le_of_ble_eq_true rfl⟩ hl.1 (Nat.le_of_ble_eq_true rfl) ⟨Nat.le_of_ble_eq_true rfl, Nat.le_of_ble_eq_true rfl⟩ dX10_ring_22 (fun H locs hw hS => ?_)
    have hw : wdH D z (([(h, .inr (10, [.ref (A 0), .ref (A 1), .ref (b 0), .ref (nb 0), .ref (sb 0), .ref (A 2), .ref (v 0), .int (nI (N 0 4))])), ((A 2), .inr (7, [.int (rgv (N 2 jq) (C 4 60))])), ((v 0), .inr (8, [.ref (v 1), .ref (v 2), .ref (v 3), .int (nI (N 0 0)), .int (nI (N 0 1)), .int (nI (N 0 2))])), ((v 1), .inl (ka 0, 6, .inl (wf))), ((v 2), .inl (ka 2, 5, .inr (.inr (.inr (.inr (tf)))))), ((v 3), .inl (ka 0, 5, .inl (df)))] : va_W) ++ (tkw ta N (N 0 1) ++ R)) H := hw.perm (((perm_at hat).symm.cons _).trans (List.Perm.swap _ _ _))
    have h2k := hN.2.2.1 jq
    rcases (show N 2 jq = 0 ∨ N 2 jq = 1 ∨ N 2 jq = 2 by omega) with e2 | e2 | e2
    · rw [e2] at hw
      refine hret _ _ _ _ _ _ _ _ dX10_ring_25 hS hw (Nat.zero_le _) (Nat.zero_le _) ⟨N, tC C 4, rfl, hV, ?_⟩
      unfold sp_ring
      rw [if_pos (by omega)]
      show _ = (if N 2 jq = 2 then (nI 40, N, tC C 5) else (nI jq, N, tC C 4))
      rw [e2]; rfl
    · rw [e2] at hw
      refine hret _ _ _ _ _ _ _ _ dX10_ring_25 hS hw (Nat.zero_le _) (Nat.zero_le _) ⟨N, tC C 4, rfl, hV, ?_⟩
      unfold sp_ring
      rw [if_pos (by omega)]
      show _ = (if N 2 jq = 2 then (nI 40, N, tC C 5) else (nI jq, N, tC C 4))
      rw [e2]; rfl
    · rw [e2] at hw
      refine hret _ _ _ _ _ _ _ _ dX10_ring_25 hS hw (Nat.zero_le _) (Nat.zero_le _) ⟨N, tC C 5, rfl, hV, ?_⟩
      unfold sp_ring
      rw [if_pos (by omega)]
      show _ = (if N 2 jq = 2 then (nI 40, N, tC C 5) else (nI jq, N, tC C 4))
      rw [e2]; rfl
  · rw [if_neg ct_2]
    refine W.eq (g2 := F0 m 8 ls [.null]) rfl ?_
    refine lv_astore_nN (lv' := [(2, .null), (0, .ref h), (1, .int k)]) hx hb dX10_ring_8 rfl hl (by decide) rfl (fun ls hl => ?_)
    refine lv_aload_nN hx hb dX10_ring_9 rfl (lv_at hl 0 rfl) ?_
    refine lv_ifnonnullN hx hb dX10_ring_10 ?_
    refine lv_iconst (v := (-1)) hx hb dX10_ring_13 (by decide) ?_
    refine lv_goto (tgt := 25) hx hb dX10_ring_14 (by decide) ?_
    refine hret _ _ _ _ _ _ _ _ dX10_ring_25 hS hw (Nat.zero_le _) (Nat.zero_le _) ⟨N, C, rfl, hV, ?_⟩
    unfold sp_ring
    rw [if_neg (by omega)]
set_option maxRecDepth 100000 in
set_option maxHeartbeats 4000000 in
theorem c_X10_send (l : Launch) (D : va_G) (ka : Nat → ClassId) (z : Nat) (h : Nat) (A rb nb b mr : Nat → Nat) (Mf : Nat → Nat → Nat) (Gf : Nat → Nat) (hMf : ∀ i j, Mf i j ≤ 1000) (hGf : ∀ i, Gf i < 32) (v ta : Nat → Nat) (N : NN) (wf df : Nat → Int32) (tf : Nat → Option Nat) (hV : VR N ta wf df tf) (hN : WF N) (hL : N 0 5 = 0)(q : Int32) (Q9 : Int) (hq : q.toInt = Q9)(k : Int32) (K9 : Int) (hk : k.toInt = K9) (C : CC) (R : va_W) : MU l D ka z yX10_send cX10_send 3 (some .int) 5 0 0 [.ref h, .int q, .int k] (sdw ka b mr Mf Gf ++ (kw ka v ta N wf df tf ++ (([(h, .inr (10, [.ref (A 0), .ref (A 1), .ref (rb 0), .ref (nb 0), .ref (b 0), .ref (A 2), .ref (v 0), .int (nI (N 0 4))]))] : va_W) ++ R))) (Qi D z (fun r w => ∃ Mf' Gf', w = sdw ka b mr Mf' Gf' ++ (kw ka v ta N wf df tf ++ (([(h, .inr (10, [.ref (A 0), .ref (A 1), .ref (rb 0), .ref (nb 0), .ref (b 0), .ref (A 2), .ref (v 0), .int (nI (N 0 4))]))] : va_W) ++ R)) ∧ (∀ i j, Mf' i j ≤ 1000) ∧ (∀ i, Gf' i < 32) ∧ (r, N, C) = sp_send N C Q9 K9)) := by
  refine MU.ofI (by decide) (Nat.le_of_ble_eq_true rfl) ?_
  intro p e s m args below meth c Q X hw hS hret ls hl
  obtain ⟨hx, hb, hml, hown, hts, hE⟩ := id X
  have hK := hE.1
  have hz0 := hw.1
  have hl : lv_has ls 3 [(0, .ref h), (1, .int q), (2, .int k)] := hl
  have hN1 := hN.1
  have hP : va_P D vwCl (kw ka v ta N wf df tf) s.heap := hw.2.1.right.left
  have hR9 : va_P D vwCl (sdw ka b mr Mf Gf) s.heap := hw.2.1.left
  have hFv : va_P D vwCl (([(h, .inr (10, [.ref (A 0), .ref (A 1), .ref (rb 0), .ref (nb 0), .ref (b 0), .ref (A 2), .ref (v 0), .int (nI (N 0 4))]))] : va_W) ++ R) s.heap := hw.2.1.right.right
  refine lv_iload_n hx hb dX10_send_0 rfl (lv_at hl 1 rfl) ?_
  refine vp_callSi (ro_runS (c_X10_isMinute l D ka q _ hq) X wd_379 wd_377 wd_378 wd_1 on_X10_isMinute ⟨Nat.le_of_ble_eq_true rfl, Nat.le_of_ble_eq_true rfl⟩ trivial hl.1 rfl (Nat.le_of_ble_eq_true rfl) ⟨(Nat.zero_le _), (Nat.zero_le _)⟩ dX10_send_1) (fun r_1 hr_1 => ?_)
  subst hr_1
  refine b_if_eq (tgt := 17) hx hb dX10_send_4 (by decide) (fun c_2 => ?_) (fun c_2 => ?_)
  · refine lv_bipush (v := (-2)) hx hb dX10_send_17 (by decide) ?_
    refine hret _ _ _ _ _ _ _ _ dX10_send_19 hS hw (Nat.zero_le _) (Nat.zero_le _) ⟨Mf, Gf, rfl, hMf, hGf, ?_⟩
    unfold sp_send
    rw [if_neg (by omega)]
  · refine lv_iload_n hx hb dX10_send_7 rfl (lv_at hl 2 rfl) ?_
    refine lv_iconst (v := (-1)) hx hb dX10_send_8 (by decide) ?_
    refine i_icmp_lt (tgt := 17) hx hb hk ng1 dX10_send_9 (by decide) (fun c_3 => ?_) (fun c_3 => ?_)
    · refine lv_bipush (v := (-2)) hx hb dX10_send_17 (by decide) ?_
      refine hret _ _ _ _ _ _ _ _ dX10_send_19 hS hw (Nat.zero_le _) (Nat.zero_le _) ⟨Mf, Gf, rfl, hMf, hGf, ?_⟩
      unfold sp_send
      rw [if_neg (by omega)]
    · refine lv_iload_n hx hb dX10_send_12 rfl (lv_at hl 2 rfl) ?_
      refine lv_iconst (v := nI 5) hx hb dX10_send_13 (by decide) ?_
      refine i_icmp_lt (tgt := 20) hx hb hk (nT (by decide)) dX10_send_14 (by decide) (fun c_4 => ?_) (fun c_4 => ?_)
      · refine lv_aload_n hx hb dX10_send_20 rfl (lv_at hl 0 rfl) ?_
        refine va_get (D := D) (ci := 10) (v := .ref (v 0)) (C := RX10) (T := TX10) (N := 8) hx hb hts inX10 hown hK hFv 0 rfl rfl 6 (by decide) (hts _ wd_169) (fun _ h9 => h9) rfl dX10_send_21 ?_
        refine vp_callSi (ro_runV (c_X8_stands l D ka v ta N wf df tf hV hN) X wd_430 wd_427 wd_428 wd_429 wd_3 on_X8_stands ⟨Nat.le_of_ble_eq_true rfl, Nat.le_of_ble_eq_true rfl⟩ (va_recv hK hP (ci := 8) (q0 := 0) rfl rfl) hP hl.1 rfl (Nat.le_of_ble_eq_true rfl) ⟨(Nat.zero_le _), (Nat.zero_le _)⟩ dX10_send_24) (fun r_5 hr_5 => ?_)
        subst hr_5
        refine b_if_ne (tgt := 33) hx hb dX10_send_27 (by decide) (fun c_6 => ?_) (fun c_6 => ?_)
        · obtain ⟨mq, hlt_mq, rfl, rfl⟩ := nat_ofK (n := 60) hq (by omega) (by omega)
          refine lv_aload_n hx hb dX10_send_33 rfl (lv_at hl 0 rfl) ?_
          refine va_get (D := D) (ci := 10) (v := .ref (b 0)) (C := RX10) (T := TX10) (N := 8) hx hb hts inX10 hown hK hFv 0 rfl rfl 4 (by decide) (hts _ wd_167) (fun _ h9 => h9) rfl dX10_send_34 ?_
          refine lv_aload_n hx hb dX10_send_37 rfl (lv_at hl 0 rfl) ?_
          refine va_get (D := D) (ci := 10) (v := .ref (v 0)) (C := RX10) (T := TX10) (N := 8) hx hb hts inX10 hown hK hFv 0 rfl rfl 6 (by decide) (hts _ wd_169) (fun _ h9 => h9) rfl dX10_send_38 ?_
          refine lv_iload_n hx hb dX10_send_41 rfl (lv_at hl 1 rfl) ?_
          refine mu_v (mu_runV (c_X4_weigh l D ka z b mr Mf Gf hMf hGf v ta N wf df tf hV hN hL mq (by omega) (([(h, .inr (10, [.ref (A 0), .ref (A 1), .ref (rb 0), .ref (nb 0), .ref (b 0), .ref (A 2), .ref (v 0), .int (nI (N 0 4))]))] : va_W) ++ R)) X wd_486 wd_483 wd_484 wd_485 wd_6 on_X4_weigh ⟨Nat.le_of_ble_eq_true rfl, Nat.le_of_ble_eq_true rfl⟩ (va_recv hK hw.2.1 (ci := 4) (q0 := 0) rfl rfl) hw hl.1 rfl (Nat.le_of_ble_eq_true rfl) ⟨Nat.le_of_ble_eq_true rfl, Nat.le_of_ble_eq_true rfl⟩ dX10_send_42) hS (fun u_7 H locs hp_u_7 hw hS => ?_)
          obtain ⟨Mf1, Gf1, rfl, hM1, hG1, hW1⟩ := hp_u_7
          have hP : va_P D vwCl (kw ka v ta N wf df tf) H := hw.2.1.right.left
          have hR9 : va_P D vwCl (sdw ka b mr Mf1 Gf1) H := hw.2.1.left
          have hFv : va_P D vwCl (([(h, .inr (10, [.ref (A 0), .ref (A 1), .ref (rb 0), .ref (nb 0), .ref (b 0), .ref (A 2), .ref (v 0), .int (nI (N 0 4))]))] : va_W) ++ R) H := hw.2.1.right.right
          refine lv_iload_n hx hb dX10_send_45 rfl (lv_at hl 2 rfl) ?_
          refine lv_iconst (v := (-1)) hx hb dX10_send_46 (by decide) ?_
          refine i_icmp_ne (tgt := 60) hx hb hk ng1 dX10_send_47 (by decide) (fun c_8 => ?_) (fun c_8 => ?_)
          · obtain ⟨kq, hlt_kq, rfl, rfl⟩ := nat_ofK (n := 5) hk (by omega) (by omega)
            refine lv_aload_n hx hb dX10_send_60 rfl (lv_at hl 0 rfl) ?_
            refine va_get (D := D) (ci := 10) (v := .ref (b 0)) (C := RX10) (T := TX10) (N := 8) hx hb hts inX10 hown hK hFv 0 rfl rfl 4 (by decide) (hts _ wd_167) (fun _ h9 => h9) rfl dX10_send_61 ?_
            refine lv_aload_n hx hb dX10_send_64 rfl (lv_at hl 0 rfl) ?_
            refine va_get (D := D) (ci := 10) (v := .ref (v 0)) (C := RX10) (T := TX10) (N := 8) hx hb hts inX10 hown hK hFv 0 rfl rfl 6 (by decide) (hts _ wd_169) (fun _ h9 => h9) rfl dX10_send_65 ?_
            refine lv_iload_n hx hb dX10_send_68 rfl (lv_at hl 2 rfl) ?_
            refine vp_callSi (ro_runV (c_X4_goodOf l D ka b mr Mf1 Gf1 hM1 hG1 v ta N wf df tf hV hN kq (by omega)) X wd_509 wd_506 wd_507 wd_508 wd_6 on_X4_goodOf ⟨Nat.le_of_ble_eq_true rfl, Nat.le_of_ble_eq_true rfl⟩ (va_recv hK hR9 (ci := 4) (q0 := 0) rfl rfl) ⟨hR9, hP⟩ hl.1 rfl (Nat.le_of_ble_eq_true rfl) ⟨(Nat.zero_le _), (Nat.zero_le _)⟩ dX10_send_69) (fun r_9 hr_9 => ?_)
            subst hr_9
            refine hret _ _ _ _ _ _ _ _ dX10_send_72 hS hw (Nat.zero_le _) (Nat.zero_le _) ⟨Mf1, Gf1, rfl, hM1, hG1, ?_⟩
            unfold sp_send
            rw [if_pos (by omega), if_neg (by omega)]
            rw [gdo_snd (by omega) hW1]
            show (_, N, C) = (sndA N mq ((kq : Nat) : Int), N, C)
            unfold sndA
            rw [if_neg (show ¬ ((kq : Nat) : Int) = -1 by omega)]; rfl
          · refine lv_aload_n hx hb dX10_send_50 rfl (lv_at hl 0 rfl) ?_
            refine va_get (D := D) (ci := 10) (v := .ref (b 0)) (C := RX10) (T := TX10) (N := 8) hx hb hts inX10 hown hK hFv 0 rfl rfl 4 (by decide) (hts _ wd_167) (fun _ h9 => h9) rfl dX10_send_51 ?_
            refine vp_callSi (ro_runV (c_X4_most l D ka b mr Mf1 Gf1 hM1 hG1) X wd_505 wd_502 wd_503 wd_504 wd_6 on_X4_most ⟨Nat.le_of_ble_eq_true rfl, Nat.le_of_ble_eq_true rfl⟩ (va_recv hK hR9 (ci := 4) (q0 := 0) rfl rfl) hR9 hl.1 rfl (Nat.le_of_ble_eq_true rfl) ⟨(Nat.zero_le _), (Nat.zero_le _)⟩ dX10_send_54) (fun r_10 hr_10 => ?_)
            subst hr_10
            refine lv_goto (tgt := 72) hx hb dX10_send_57 (by decide) ?_
            refine hret _ _ _ _ _ _ _ _ dX10_send_72 hS hw (Nat.zero_le _) (Nat.zero_le _) ⟨Mf1, Gf1, rfl, hM1, hG1, ?_⟩
            unfold sp_send
            rw [if_pos (by omega), if_neg (by omega)]
            rw [hW1.1 0 (Nat.le_refl _) (Nat.zero_le _) 0 (by decide)]
            show (_, N, C) = (sndA N mq K9, N, C)
            unfold sndA
            rw [if_pos (by omega)]; rfl
        · refine lv_bipush (v := (-3)) hx hb dX10_send_30 (by decide) ?_
          refine hret _ _ _ _ _ _ _ _ dX10_send_32 hS hw (Nat.zero_le _) (Nat.zero_le _) ⟨Mf, Gf, rfl, hMf, hGf, ?_⟩
          unfold sp_send
          rw [if_pos (by omega), if_pos (by omega)]
      · refine lv_bipush (v := (-2)) hx hb dX10_send_17 (by decide) ?_
        refine hret _ _ _ _ _ _ _ _ dX10_send_19 hS hw (Nat.zero_le _) (Nat.zero_le _) ⟨Mf, Gf, rfl, hMf, hGf, ?_⟩
        unfold sp_send
        rw [if_neg (by omega)]
