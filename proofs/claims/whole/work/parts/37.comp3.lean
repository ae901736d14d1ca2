set_option maxRecDepth 100000 in
set_option maxHeartbeats 4000000 in
theorem c_X8_bestPlace (l : Launch) (D : va_G) (ka : Nat → ClassId) (v ta : Nat → Nat) (N : NN) (wf df : Nat → Int32) (tf : Nat → Option Nat) (hV : VR N ta wf df tf) (hN : WF N) (hL : N 0 5 = 0) (jq : Nat) (hj : jq < N 0 1) : RO l D ka yX8_bestPlace cX8_bestPlace 6 (some .int) 3 [.ref (v 0), .ref (ta jq)] (fun H => va_P D vwCl (kw ka v ta N wf df tf) H) (vp_Si (fun r => r = nI (bst N jq))) := by
  refine RO.ofI (by decide) (Nat.le_of_ble_eq_true rfl) ?_
  intro p e s m args below meth c Q X hP hret ls hl
  obtain ⟨hx, hb, hml, hown, hts, hE⟩ := id X
  have hK := hE.1
  have hl : lv_has ls 6 [(0, .ref (v 0)), (1, .ref (ta jq))] := hl
  have hN1 := hN.1
  refine lv_iconst (v := nI 0) hx hb dX8_bestPlace_0 (by decide) ?_
  refine lv_istore_n (lv' := [(2, .int (nI 0)), (0, .ref (v 0)), (1, .ref (ta jq))]) hx hb dX8_bestPlace_1 rfl hl (by decide) rfl (fun ls hl => ?_)
  refine lv_iconst (v := (-1)) hx hb dX8_bestPlace_2 (by decide) ?_
  refine lv_istore_n (lv' := [(3, .int (-1)), (2, .int (nI 0)), (0, .ref (v 0)), (1, .ref (ta jq))]) hx hb dX8_bestPlace_3 rfl hl (by decide) rfl (fun ls hl => ?_)
  refine lv_iconst (v := nI 0) hx hb dX8_bestPlace_4 (by decide) ?_
  refine lv_istore (lv' := [(4, .int (nI 0)), (3, .int (-1)), (2, .int (nI 0)), (0, .ref (v 0)), (1, .ref (ta jq))]) hx hb dX8_bestPlace_5 hl (by decide) rfl (fun ls hl => ?_)
  have loop7 : ∀ (fuel7 : Nat) (kq : Nat) (bq : Nat) (mq : Int32), N 0 0 - kq < fuel7 → (kq ≤ N 0 0) → (bq = bstA (fun k => hld N jq k 1) (kq - 1)) → (mq.toInt = (if kq = 0 then (-1 : Int) else ((hld N jq bq 1 : Nat) : Int))) → ∀ ls : Array Slot, lv_has ls 6 [(0, .ref (v 0)), (1, .ref (ta jq)), (2, .int (nI bq)), (3, .int mq), (4, .int (nI kq))] → W p l e (rmz 3 0 0) s m args below meth c s.heap [] 0 0 Q (F0 m 7 ls []) := by
    intro fuel7
    induction fuel7 with
    | zero => intro kq bq mq hfu; exact absurd hfu (Nat.not_lt_zero _)
    | succ fuel7 ih7 =>
      intro kq bq mq hfu hkq hbq hmq ls hl
      have hbl := hld_le N jq bq 1
      refine lv_iload hx hb dX8_bestPlace_7 (lv_at hl 4 rfl) ?_
      refine lv_aload_n hx hb dX8_bestPlace_9 rfl (lv_at hl 0 rfl) ?_
      refine va_get (D := D) (ci := 8) (v := .int (nI (N 0 0))) (C := RX8) (T := TX8) (N := 6) hx hb hts inX8 hown hK hP 0 rfl rfl 3 (by decide) (hts _ wd_49) (fun _ h9 => h9) rfl dX8_bestPlace_10 ?_
      refine i_icmp_ge (tgt := 43) hx hb (nT (by omega)) (nT (by omega)) dX8_bestPlace_13 (by decide) (fun c_1 => ?_) (fun c_1 => ?_)
      · refine lv_iload_n hx hb dX8_bestPlace_43 rfl (lv_at hl 2 rfl) ?_
        refine hret _ _ _ dX8_bestPlace_44 ?_
        rw [hbq, show kq = N 0 0 by omega]; rfl
      · refine lv_aload_n hx hb dX8_bestPlace_16 rfl (lv_at hl 0 rfl) ?_
        refine lv_aload_n hx hb dX8_bestPlace_17 rfl (lv_at hl 1 rfl) ?_
        refine lv_iload hx hb dX8_bestPlace_18 (lv_at hl 4 rfl) ?_
        refine vp_callSi (ro_runV (c_X8_heldAlone l D ka v ta N wf df tf hV hN hL jq kq (by omega) (by omega)) X wd_383 wd_394 wd_381 wd_382 wd_3 on_X8_heldAlone ⟨Nat.le_of_ble_eq_true rfl, Nat.le_of_ble_eq_true rfl⟩ (va_recv hK hP (ci := 8) (q0 := 0) rfl rfl) hP hl.1 rfl (Nat.le_of_ble_eq_true rfl) ⟨(Nat.zero_le _), (Nat.zero_le _)⟩ dX8_bestPlace_20) (fun r_3 hr_3 => ?_)
        subst hr_3
        have hb9_2 := hld_le N jq kq 1
        refine lv_istore (lv' := [(5, .int (nI (hld N jq kq 1))), (0, .ref (v 0)), (1, .ref (ta jq)), (2, .int (nI bq)), (3, .int mq), (4, .int (nI kq))]) hx hb dX8_bestPlace_23 hl (by decide) rfl (fun ls hl => ?_)
        refine lv_iload hx hb dX8_bestPlace_25 (lv_at hl 0 rfl) ?_
        refine lv_iload_n hx hb dX8_bestPlace_27 rfl (lv_at hl 4 rfl) ?_
        refine i_icmp_le (tgt := 37) hx hb (nT (by omega)) hmq dX8_bestPlace_28 (by decide) (fun c_4 => ?_) (fun c_4 => ?_)
        · refine n_iinc (lv' := [(4, .int (nI (kq + 1))), (5, .int (nI (hld N jq kq 1))), (0, .ref (v 0)), (1, .ref (ta jq)), (2, .int (nI bq)), (3, .int mq)]) (k := 5) (d := 1) hx hb dX8_bestPlace_37 hl rfl rfl (by decide) rfl (fun ls hl => ?_)
          refine lv_goto (tgt := 7) hx hb dX8_bestPlace_40 (by decide) ?_
          exact ih7 (kq + 1) bq mq (by omega) (by omega) (by
                rcases Nat.eq_zero_or_pos kq with hz | hz
                · first | (exfalso; omega) | (subst hz; rfl)
                · rw [show kq + 1 - 1 = (kq - 1) + 1 by omega, bstA, ← hbq, show kq - 1 + 1 = kq by omega]; first | rw [if_pos (by omega)] | rw [if_neg (by omega)]) (by first | (rw [if_neg (by omega)]; exact nT (by omega)) | (rw [hmq, if_neg (by omega), if_neg (by omega)])) ls (lv_sub hl [2, 3, 4, 5, 0] rfl)
        · refine lv_iload hx hb dX8_bestPlace_31 (lv_at hl 0 rfl) ?_
          refine lv_istore_n (lv' := [(3, .int (nI (hld N jq kq 1))), (5, .int (nI (hld N jq kq 1))), (0, .ref (v 0)), (1, .ref (ta jq)), (2, .int (nI bq)), (4, .int (nI kq))]) hx hb dX8_bestPlace_33 rfl hl (by decide) rfl (fun ls hl => ?_)
          refine lv_iload hx hb dX8_bestPlace_34 (lv_at hl 5 rfl) ?_
          refine lv_istore_n (lv' := [(2, .int (nI kq)), (3, .int (nI (hld N jq kq 1))), (5, .int (nI (hld N jq kq 1))), (0, .ref (v 0)), (1, .ref (ta jq)), (4, .int (nI kq))]) hx hb dX8_bestPlace_36 rfl hl (by decide) rfl (fun ls hl => ?_)
          refine n_iinc (lv' := [(4, .int (nI (kq + 1))), (2, .int (nI kq)), (3, .int (nI (hld N jq kq 1))), (5, .int (nI (hld N jq kq 1))), (0, .ref (v 0)), (1, .ref (ta jq))]) (k := 5) (d := 1) hx hb dX8_bestPlace_37 hl rfl rfl (by decide) rfl (fun ls hl => ?_)
          refine lv_goto (tgt := 7) hx hb dX8_bestPlace_40 (by decide) ?_
          exact ih7 (kq + 1) kq (nI (hld N jq kq 1)) (by omega) (by omega) (by
                rcases Nat.eq_zero_or_pos kq with hz | hz
                · first | (exfalso; omega) | (subst hz; rfl)
                · rw [show kq + 1 - 1 = (kq - 1) + 1 by omega, bstA, ← hbq, show kq - 1 + 1 = kq by omega]; first | rw [if_pos (by omega)] | rw [if_neg (by omega)]) (by first | (rw [if_neg (by omega)]; exact nT (by omega)) | (rw [hmq, if_neg (by omega), if_neg (by omega)])) ls (lv_sub hl [4, 5, 1, 2, 0] rfl)
  exact loop7 _ 0 0 (-1) (Nat.lt_succ_self _) (by omega) rfl ng1 ls (lv_sub hl [3, 4, 2, 1, 0] rfl)
set_option maxRecDepth 100000 in
set_option maxHeartbeats 4000000 in
theorem c_X8_bestFriend (l : Launch) (D : va_G) (ka : Nat → ClassId) (v ta : Nat → Nat) (N : NN) (wf df : Nat → Int32) (tf : Nat → Option Nat) (hV : VR N ta wf df tf) (hN : WF N) (hL : N 0 5 = 0) (jq m0 : Nat) (hj : jq < N 0 1) (hm : m0 < 60) : RO l D ka yX8_bestFriend cX8_bestFriend 8 (some .int) 4 [.ref (v 0), .ref (ta jq), .int (nI m0)] (fun H => va_P D vwCl (kw ka v ta N wf df tf) H) (vp_Si (fun r => r = fno (frd (fun b => bth N jq b m0) jq (N 0 1)))) := by
  refine RO.ofI (by decide) (Nat.le_of_ble_eq_true rfl) ?_
  intro p e s m args below meth c Q X hP hret ls hl
  obtain ⟨hx, hb, hml, hown, hts, hE⟩ := id X
  have hK := hE.1
  have hl : lv_has ls 8 [(0, .ref (v 0)), (1, .ref (ta jq)), (2, .int (nI m0))] := hl
  have hN1 := hN.1
  refine lv_bipush (v := (-9)) hx hb dX8_bestFriend_0 (by decide) ?_
  refine lv_istore_n (lv' := [(3, .int (-9)), (0, .ref (v 0)), (1, .ref (ta jq)), (2, .int (nI m0))]) hx hb dX8_bestFriend_2 rfl hl (by decide) rfl (fun ls hl => ?_)
  refine lv_iconst (v := (-1)) hx hb dX8_bestFriend_3 (by decide) ?_
  refine lv_istore (lv' := [(4, .int (-1)), (3, .int (-9)), (0, .ref (v 0)), (1, .ref (ta jq)), (2, .int (nI m0))]) hx hb dX8_bestFriend_4 hl (by decide) rfl (fun ls hl => ?_)
  refine lv_iconst (v := nI 0) hx hb dX8_bestFriend_6 (by decide) ?_
  refine lv_istore (lv' := [(5, .int (nI 0)), (4, .int (-1)), (3, .int (-9)), (0, .ref (v 0)), (1, .ref (ta jq)), (2, .int (nI m0))]) hx hb dX8_bestFriend_7 hl (by decide) rfl (fun ls hl => ?_)
  have loop9 : ∀ (fuel9 : Nat) (bq : Nat) (oq : Int32) (mq : Int32), N 0 1 - bq < fuel9 → (bq ≤ N 0 1) → (oq = fno (frd (fun b => bth N jq b m0) jq bq)) → (mq.toInt = mno (fun b => bth N jq b m0) (frd (fun b => bth N jq b m0) jq bq)) → ∀ ls : Array Slot, lv_has ls 8 [(0, .ref (v 0)), (1, .ref (ta jq)), (2, .int (nI m0)), (3, .int oq), (4, .int mq), (5, .int (nI bq))] → W p l e (rmz 4 0 0) s m args below meth c s.heap [] 0 0 Q (F0 m 9 ls []) := by
    intro fuel9
    induction fuel9 with
    | zero => intro bq oq mq hfu; exact absurd hfu (Nat.not_lt_zero _)
    | succ fuel9 ih9 =>
      intro bq oq mq hfu hbq ho hm9 ls hl
      refine lv_iload hx hb dX8_bestFriend_9 (lv_at hl 5 rfl) ?_
      refine lv_aload_n hx hb dX8_bestFriend_11 rfl (lv_at hl 0 rfl) ?_
      refine va_get (D := D) (ci := 8) (v := .int (nI (N 0 1))) (C := RX8) (T := TX8) (N := 6) hx hb hts inX8 hown hK hP 0 rfl rfl 4 (by decide) (hts _ wd_52) (fun _ h9 => h9) rfl dX8_bestFriend_12 ?_
      refine i_icmp_ge (tgt := 74) hx hb (nT (by omega)) (nT (by omega)) dX8_bestFriend_15 (by decide) (fun c_1 => ?_) (fun c_1 => ?_)
      · refine lv_iload_n hx hb dX8_bestFriend_74 rfl (lv_at hl 3 rfl) ?_
        refine hret _ _ _ dX8_bestFriend_75 ?_
        rw [ho, show bq = N 0 1 by omega]
      · refine lv_aload_n hx hb dX8_bestFriend_18 rfl (lv_at hl 0 rfl) ?_
        refine lv_iload hx hb dX8_bestFriend_19 (lv_at hl 5 rfl) ?_
        refine va_csq (ro_runV (c_X8_takerAt l D ka v ta N wf df tf hV hN (nI bq) _ (nT (by omega))) X wd_311 wd_418 wd_309 wd_310 wd_3 on_X8_takerAt ⟨Nat.le_of_ble_eq_true rfl, Nat.le_of_ble_eq_true rfl⟩ (va_recv hK hP (ci := 8) (q0 := 0) rfl rfl) hP hl.1 rfl (Nat.le_of_ble_eq_true rfl) ⟨(Nat.zero_le _), (Nat.zero_le _)⟩ dX8_bestFriend_21) (fun r_2 hr_2 => ?_)
        subst hr_2
        rw [if_pos (by omega)]
        refine W.eq (g2 := F0 m 24 ls [.ref (ta bq)]) rfl ?_
        refine lv_astore (lv' := [(6, .ref (ta bq)), (0, .ref (v 0)), (1, .ref (ta jq)), (2, .int (nI m0)), (3, .int oq), (4, .int mq), (5, .int (nI bq))]) hx hb dX8_bestFriend_24 hl (by decide) rfl (fun ls hl => ?_)
        refine lv_aload hx hb dX8_bestFriend_26 (lv_at hl 0 rfl) ?_
        refine lv_ifnull hx hb dX8_bestFriend_28 ?_
        refine lv_iload hx hb dX8_bestFriend_31 (lv_at hl 6 rfl) ?_
        refine lv_aload_n hx hb dX8_bestFriend_33 rfl (lv_at hl 2 rfl) ?_
        refine tk_get X hP (kw_tk (a := jq) (by omega)) (kd := N 2 jq) (hN.2.2.1 jq) 0 (by decide) wd_270 (v := .int (nI jq)) rfl dX8_bestFriend_34 ?_
        refine i_icmp_ne (tgt := 44) hx hb (nT (by omega)) (nT (by omega)) dX8_bestFriend_37 (by decide) (fun c_3 => ?_) (fun c_3 => ?_)
        · refine lv_aload_n hx hb dX8_bestFriend_44 rfl (lv_at hl 1 rfl) ?_
          refine lv_aload_n hx hb dX8_bestFriend_45 rfl (lv_at hl 2 rfl) ?_
          refine lv_aload hx hb dX8_bestFriend_46 (lv_at hl 0 rfl) ?_
          refine lv_iload_n hx hb dX8_bestFriend_48 rfl (lv_at hl 3 rfl) ?_
          refine vp_callSi (ro_runV (c_X8_heldByTwo l D ka v ta N wf df tf hV hN hL jq bq m0 (by omega) (by omega) (by omega)) X wd_402 wd_419 wd_400 wd_401 wd_3 on_X8_heldByTwo ⟨Nat.le_of_ble_eq_true rfl, Nat.le_of_ble_eq_true rfl⟩ (va_recv hK hP (ci := 8) (q0 := 0) rfl rfl) hP hl.1 rfl (Nat.le_of_ble_eq_true rfl) ⟨(Nat.zero_le _), (Nat.zero_le _)⟩ dX8_bestFriend_49) (fun r_5 hr_5 => ?_)
          subst hr_5
          have hb9_4 := bth_le N jq bq m0
          refine lv_istore (lv' := [(7, .int (nI (bth N jq bq m0))), (6, .ref (ta bq)), (0, .ref (v 0)), (1, .ref (ta jq)), (2, .int (nI m0)), (3, .int oq), (4, .int mq), (5, .int (nI bq))]) hx hb dX8_bestFriend_52 hl (by decide) rfl (fun ls hl => ?_)
          cases hf : frd (fun b => bth N jq b m0) jq bq with
          | none =>
            rw [hf] at ho hm9; subst ho
            have hm9 : mq.toInt = (-1) := hm9
            have hl : lv_has ls 8 [(7, .int (nI (bth N jq bq m0))), (6, .ref (ta bq)), (0, .ref (v 0)), (1, .ref (ta jq)), (2, .int (nI m0)), (3, .int (-9)), (4, .int mq), (5, .int (nI bq))] := hl
            refine lv_iload hx hb dX8_bestFriend_54 (lv_at hl 0 rfl) ?_
            refine lv_iload hx hb dX8_bestFriend_56 (lv_at hl 6 rfl) ?_
            refine i_icmp_le (tgt := 68) hx hb (nT (by omega)) hm9 dX8_bestFriend_58 (by decide) (fun c_6 => ?_) (fun c_6 => ?_)
            · refine n_iinc (lv' := [(5, .int (nI (bq + 1))), (7, .int (nI (bth N jq bq m0))), (6, .ref (ta bq)), (0, .ref (v 0)), (1, .ref (ta jq)), (2, .int (nI m0)), (3, .int (-9)), (4, .int mq)]) (k := 7) (d := 1) hx hb dX8_bestFriend_68 hl rfl rfl (by decide) rfl (fun ls hl => ?_)
              refine lv_goto (tgt := 9) hx hb dX8_bestFriend_71 (by decide) ?_
              exact ih9 (bq + 1) (-9) mq (by omega) (by omega) (by first | (exfalso; omega) | (rw [frd]; first | (rw [if_pos (by omega), hf]; rfl) | (rw [if_neg (by omega), hf]; first | rfl | (simp only []; first | (rw [if_pos (by omega)]; rfl) | (rw [if_neg (by omega)]; rfl))))) (by first | (exfalso; omega) | (rw [frd]; first | (rw [if_pos (by omega), hf]; first | exact hm9 | rfl) | (rw [if_neg (by omega), hf]; first | exact nT (by omega) | (simp only []; first | (rw [if_pos (by omega)]; exact nT (by omega)) | (rw [if_neg (by omega)]; exact hm9))))) ls (lv_sub hl [3, 4, 5, 6, 7, 0] rfl)
            · refine lv_iload hx hb dX8_bestFriend_61 (lv_at hl 0 rfl) ?_
              refine lv_istore (lv' := [(4, .int (nI (bth N jq bq m0))), (7, .int (nI (bth N jq bq m0))), (6, .ref (ta bq)), (0, .ref (v 0)), (1, .ref (ta jq)), (2, .int (nI m0)), (3, .int (-9)), (5, .int (nI bq))]) hx hb dX8_bestFriend_63 hl (by decide) rfl (fun ls hl => ?_)
              refine lv_iload hx hb dX8_bestFriend_65 (lv_at hl 7 rfl) ?_
              refine lv_istore_n (lv' := [(3, .int (nI bq)), (4, .int (nI (bth N jq bq m0))), (7, .int (nI (bth N jq bq m0))), (6, .ref (ta bq)), (0, .ref (v 0)), (1, .ref (ta jq)), (2, .int (nI m0)), (5, .int (nI bq))]) hx hb dX8_bestFriend_67 rfl hl (by decide) rfl (fun ls hl => ?_)
              refine n_iinc (lv' := [(5, .int (nI (bq + 1))), (3, .int (nI bq)), (4, .int (nI (bth N jq bq m0))), (7, .int (nI (bth N jq bq m0))), (6, .ref (ta bq)), (0, .ref (v 0)), (1, .ref (ta jq)), (2, .int (nI m0))]) (k := 7) (d := 1) hx hb dX8_bestFriend_68 hl rfl rfl (by decide) rfl (fun ls hl => ?_)
              refine lv_goto (tgt := 9) hx hb dX8_bestFriend_71 (by decide) ?_
              exact ih9 (bq + 1) (nI bq) (nI (bth N jq bq m0)) (by omega) (by omega) (by first | (exfalso; omega) | (rw [frd]; first | (rw [if_pos (by omega), hf]; rfl) | (rw [if_neg (by omega), hf]; first | rfl | (simp only []; first | (rw [if_pos (by omega)]; rfl) | (rw [if_neg (by omega)]; rfl))))) (by first | (exfalso; omega) | (rw [frd]; first | (rw [if_pos (by omega), hf]; first | exact hm9 | rfl) | (rw [if_neg (by omega), hf]; first | exact nT (by omega) | (simp only []; first | (rw [if_pos (by omega)]; exact nT (by omega)) | (rw [if_neg (by omega)]; exact hm9))))) ls (lv_sub hl [5, 6, 7, 1, 2, 0] rfl)
          | some rq =>
            rw [hf] at ho hm9; subst ho
            have hm9 : mq.toInt = ((bth N jq rq m0 : Nat) : Int) := hm9
            have hl : lv_has ls 8 [(7, .int (nI (bth N jq bq m0))), (6, .ref (ta bq)), (0, .ref (v 0)), (1, .ref (ta jq)), (2, .int (nI m0)), (3, .int (nI rq)), (4, .int mq), (5, .int (nI bq))] := hl
            have hrq := frd_lt hf
            have hrb := bth_le N jq rq m0
            refine lv_iload hx hb dX8_bestFriend_54 (lv_at hl 0 rfl) ?_
            refine lv_iload hx hb dX8_bestFriend_56 (lv_at hl 6 rfl) ?_
            refine i_icmp_le (tgt := 68) hx hb (nT (by omega)) hm9 dX8_bestFriend_58 (by decide) (fun c_7 => ?_) (fun c_7 => ?_)
            · refine n_iinc (lv' := [(5, .int (nI (bq + 1))), (7, .int (nI (bth N jq bq m0))), (6, .ref (ta bq)), (0, .ref (v 0)), (1, .ref (ta jq)), (2, .int (nI m0)), (3, .int (nI rq)), (4, .int mq)]) (k := 7) (d := 1) hx hb dX8_bestFriend_68 hl rfl rfl (by decide) rfl (fun ls hl => ?_)
              refine lv_goto (tgt := 9) hx hb dX8_bestFriend_71 (by decide) ?_
              exact ih9 (bq + 1) (nI rq) mq (by omega) (by omega) (by first | (exfalso; omega) | (rw [frd]; first | (rw [if_pos (by omega), hf]; rfl) | (rw [if_neg (by omega), hf]; first | rfl | (simp only []; first | (rw [if_pos (by omega)]; rfl) | (rw [if_neg (by omega)]; rfl))))) (by first | (exfalso; omega) | (rw [frd]; first | (rw [if_pos (by omega), hf]; first | exact hm9 | rfl) | (rw [if_neg (by omega), hf]; first | exact nT (by omega) | (simp only []; first | (rw [if_pos (by omega)]; exact nT (by omega)) | (rw [if_neg (by omega)]; exact hm9))))) ls (lv_sub hl [3, 4, 5, 6, 7, 0] rfl)
            · refine lv_iload hx hb dX8_bestFriend_61 (lv_at hl 0 rfl) ?_
              refine lv_istore (lv' := [(4, .int (nI (bth N jq bq m0))), (7, .int (nI (bth N jq bq m0))), (6, .ref (ta bq)), (0, .ref (v 0)), (1, .ref (ta jq)), (2, .int (nI m0)), (3, .int (nI rq)), (5, .int (nI bq))]) hx hb dX8_bestFriend_63 hl (by decide) rfl (fun ls hl => ?_)
              refine lv_iload hx hb dX8_bestFriend_65 (lv_at hl 7 rfl) ?_
              refine lv_istore_n (lv' := [(3, .int (nI bq)), (4, .int (nI (bth N jq bq m0))), (7, .int (nI (bth N jq bq m0))), (6, .ref (ta bq)), (0, .ref (v 0)), (1, .ref (ta jq)), (2, .int (nI m0)), (5, .int (nI bq))]) hx hb dX8_bestFriend_67 rfl hl (by decide) rfl (fun ls hl => ?_)
              refine n_iinc (lv' := [(5, .int (nI (bq + 1))), (3, .int (nI bq)), (4, .int (nI (bth N jq bq m0))), (7, .int (nI (bth N jq bq m0))), (6, .ref (ta bq)), (0, .ref (v 0)), (1, .ref (ta jq)), (2, .int (nI m0))]) (k := 7) (d := 1) hx hb dX8_bestFriend_68 hl rfl rfl (by decide) rfl (fun ls hl => ?_)
              refine lv_goto (tgt := 9) hx hb dX8_bestFriend_71 (by decide) ?_
              exact ih9 (bq + 1) (nI bq) (nI (bth N jq bq m0)) (by omega) (by omega) (by first | (exfalso; omega) | (rw [frd]; first | (rw [if_pos (by omega), hf]; rfl) | (rw [if_neg (by omega), hf]; first | rfl | (simp only []; first | (rw [if_pos (by omega)]; rfl) | (rw [if_neg (by omega)]; rfl))))) (by first | (exfalso; omega) | (rw [frd]; first | (rw [if_pos (by omega), hf]; first | exact hm9 | rfl) | (rw [if_neg (by omega), hf]; first | exact nT (by omega) | (simp only []; first | (rw [if_pos (by omega)]; exact nT (by omega)) | (rw [if_neg (by omega)]; exact hm9))))) ls (lv_sub hl [5, 6, 7, 1, 2, 0] rfl)
        · refine lv_iconst (v := (-1)) hx hb dX8_bestFriend_40 (by decide) ?_
          refine lv_goto (tgt := 52) hx hb dX8_bestFriend_41 (by decide) ?_
          refine lv_istore (lv' := [(7, .int (-1)), (6, .ref (ta bq)), (0, .ref (v 0)), (1, .ref (ta jq)), (2, .int (nI m0)), (3, .int oq), (4, .int mq), (5, .int (nI bq))]) hx hb dX8_bestFriend_52 hl (by decide) rfl (fun ls hl => ?_)
          cases hf : frd (fun b => bth N jq b m0) jq bq with
          | none =>
            rw [hf] at ho hm9; subst ho
            have hm9 : mq.toInt = (-1) := hm9
            have hl : lv_has ls 8 [(7, .int (-1)), (6, .ref (ta bq)), (0, .ref (v 0)), (1, .ref (ta jq)), (2, .int (nI m0)), (3, .int (-9)), (4, .int mq), (5, .int (nI bq))] := hl
            refine lv_iload hx hb dX8_bestFriend_54 (lv_at hl 0 rfl) ?_
            refine lv_iload hx hb dX8_bestFriend_56 (lv_at hl 6 rfl) ?_
            refine i_icmp_le (tgt := 68) hx hb ng1 hm9 dX8_bestFriend_58 (by decide) (fun c_8 => ?_) (fun c_8 => ?_)
            · refine n_iinc (lv' := [(5, .int (nI (bq + 1))), (7, .int (-1)), (6, .ref (ta bq)), (0, .ref (v 0)), (1, .ref (ta jq)), (2, .int (nI m0)), (3, .int (-9)), (4, .int mq)]) (k := 7) (d := 1) hx hb dX8_bestFriend_68 hl rfl rfl (by decide) rfl (fun ls hl => ?_)
              refine lv_goto (tgt := 9) hx hb dX8_bestFriend_71 (by decide) ?_
              exact ih9 (bq + 1) (-9) mq (by omega) (by omega) (by first | (exfalso; omega) | (rw [frd]; first | (rw [if_pos (by omega), hf]; rfl) | (rw [if_neg (by omega), hf]; first | rfl | (simp only []; first | (rw [if_pos (by omega)]; rfl) | (rw [if_neg (by omega)]; rfl))))) (by first | (exfalso; omega) | (rw [frd]; first | (rw [if_pos (by omega), hf]; first | exact hm9 | rfl) | (rw [if_neg (by omega), hf]; first | exact nT (by omega) | (simp only []; first | (rw [if_pos (by omega)]; exact nT (by omega)) | (rw [if_neg (by omega)]; exact hm9))))) ls (lv_sub hl [3, 4, 5, 6, 7, 0] rfl)
            · refine lv_iload hx hb dX8_bestFriend_61 (lv_at hl 0 rfl) ?_
              refine lv_istore (lv' := [(4, .int (-1)), (7, .int (-1)), (6, .ref (ta bq)), (0, .ref (v 0)), (1, .ref (ta jq)), (2, .int (nI m0)), (3, .int (-9)), (5, .int (nI bq))]) hx hb dX8_bestFriend_63 hl (by decide) rfl (fun ls hl => ?_)
              refine lv_iload hx hb dX8_bestFriend_65 (lv_at hl 7 rfl) ?_
              refine lv_istore_n (lv' := [(3, .int (nI bq)), (4, .int (-1)), (7, .int (-1)), (6, .ref (ta bq)), (0, .ref (v 0)), (1, .ref (ta jq)), (2, .int (nI m0)), (5, .int (nI bq))]) hx hb dX8_bestFriend_67 rfl hl (by decide) rfl (fun ls hl => ?_)
              refine n_iinc (lv' := [(5, .int (nI (bq + 1))), (3, .int (nI bq)), (4, .int (-1)), (7, .int (-1)), (6, .ref (ta bq)), (0, .ref (v 0)), (1, .ref (ta jq)), (2, .int (nI m0))]) (k := 7) (d := 1) hx hb dX8_bestFriend_68 hl rfl rfl (by decide) rfl (fun ls hl => ?_)
              refine lv_goto (tgt := 9) hx hb dX8_bestFriend_71 (by decide) ?_
              exact ih9 (bq + 1) (nI bq) (-1) (by omega) (by omega) (by first | (exfalso; omega) | (rw [frd]; first | (rw [if_pos (by omega), hf]; rfl) | (rw [if_neg (by omega), hf]; first | rfl | (simp only []; first | (rw [if_pos (by omega)]; rfl) | (rw [if_neg (by omega)]; rfl))))) (by first | (exfalso; omega) | (rw [frd]; first | (rw [if_pos (by omega), hf]; first | exact hm9 | rfl) | (rw [if_neg (by omega), hf]; first | exact nT (by omega) | (simp only []; first | (rw [if_pos (by omega)]; exact nT (by omega)) | (rw [if_neg (by omega)]; exact hm9))))) ls (lv_sub hl [5, 6, 7, 1, 2, 0] rfl)
          | some rq =>
            rw [hf] at ho hm9; subst ho
            have hm9 : mq.toInt = ((bth N jq rq m0 : Nat) : Int) := hm9
            have hl : lv_has ls 8 [(7, .int (-1)), (6, .ref (ta bq)), (0, .ref (v 0)), (1, .ref (ta jq)), (2, .int (nI m0)), (3, .int (nI rq)), (4, .int mq), (5, .int (nI bq))] := hl
            have hrq := frd_lt hf
            have hrb := bth_le N jq rq m0
            refine lv_iload hx hb dX8_bestFriend_54 (lv_at hl 0 rfl) ?_
            refine lv_iload hx hb dX8_bestFriend_56 (lv_at hl 6 rfl) ?_
            refine i_icmp_le (tgt := 68) hx hb ng1 hm9 dX8_bestFriend_58 (by decide) (fun c_9 => ?_) (fun c_9 => ?_)
            · refine n_iinc (lv' := [(5, .int (nI (bq + 1))), (7, .int (-1)), (6, .ref (ta bq)), (0, .ref (v 0)), (1, .ref (ta jq)), (2, .int (nI m0)), (3, .int (nI rq)), (4, .int mq)]) (k := 7) (d := 1) hx hb dX8_bestFriend_68 hl rfl rfl (by decide) rfl (fun ls hl => ?_)
              refine lv_goto (tgt := 9) hx hb dX8_bestFriend_71 (by decide) ?_
              exact ih9 (bq + 1) (nI rq) mq (by omega) (by omega) (by first | (exfalso; omega) | (rw [frd]; first | (rw [if_pos (by omega), hf]; rfl) | (rw [if_neg (by omega), hf]; first | rfl | (simp only []; first | (rw [if_pos (by omega)]; rfl) | (rw [if_neg (by omega)]; rfl))))) (by first | (exfalso; omega) | (rw [frd]; first | (rw [if_pos (by omega), hf]; first | exact hm9 | rfl) | (rw [if_neg (by omega), hf]; first | exact nT (by omega) | (simp only []; first | (rw [if_pos (by omega)]; exact nT (by omega)) | (rw [if_neg (by omega)]; exact hm9))))) ls (lv_sub hl [3, 4, 5, 6, 7, 0] rfl)
            · refine lv_iload hx hb dX8_bestFriend_61 (lv_at hl 0 rfl) ?_
              refine lv_istore (lv' := [(4, .int (-1)), (7, .int (-1)), (6, .ref (ta bq)), (0, .ref (v 0)), (1, .ref (ta jq)), (2, .int (nI m0)), (3, .int (nI rq)), (5, .int (nI bq))]) hx hb dX8_bestFriend_63 hl (by decide) rfl (fun ls hl => ?_)
              refine lv_iload hx hb dX8_bestFriend_65 (lv_at hl 7 rfl) ?_
              refine lv_istore_n (lv' := [(3, .int (nI bq)), (4, .int (-1)), (7, .int (-1)), (6, .ref (ta bq)), (0, .ref (v 0)), (1, .ref (ta jq)), (2, .int (nI m0)), (5, .int (nI bq))]) hx hb dX8_bestFriend_67 rfl hl (by decide) rfl (fun ls hl => ?_)
              refine n_iinc (lv' := [(5, .int (nI (bq + 1))), (3, .int (nI bq)), (4, .int (-1)), (7, .int (-1)), (6, .ref (ta bq)), (0, .ref (v 0)), (1, .ref (ta jq)), (2, .int (nI m0))]) (k := 7) (d := 1) hx hb dX8_bestFriend_68 hl rfl rfl (by decide) rfl (fun ls hl => ?_)
              refine lv_goto (tgt := 9) hx hb dX8_bestFriend_71 (by decide) ?_
              exact ih9 (bq + 1) (nI bq) (-1) (by omega) (by omega) (by first | (exfalso; omega) | (rw [frd]; first | (rw [if_pos (by omega), hf]; rfl) | (rw [if_neg (by omega), hf]; first | rfl | (simp only []; first | (rw [if_pos (by omega)]; rfl) | (rw [if_neg (by omega)]; rfl))))) (by first | (exfalso; omega) | (rw [frd]; first | (rw [if_pos (by omega), hf]; first | exact hm9 | rfl) | (rw [if_neg (by omega), hf]; first | exact nT (by omega) | (simp only []; first | (rw [if_pos (by omega)]; exact nT (by omega)) | (rw [if_neg (by omega)]; exact hm9))))) ls (lv_sub hl [5, 6, 7, 1, 2, 0] rfl)
  exact loop9 _ 0 (-9) (-1) (Nat.lt_succ_self _) (by omega) rfl ng1 ls (lv_sub hl [3, 4, 5, 2, 1, 0] rfl)
set_option maxRecDepth 100000 in
set_option maxHeartbeats 4000000 in
theorem c_X8_goodsGot (l : Launch) (D : va_G) (ka : Nat → ClassId) (v ta : Nat → Nat) (N : NN) (wf df : Nat → Int32) (tf : Nat → Option Nat) (hV : VR N ta wf df tf) (hN : WF N) (hL : N 0 5 = 0) (jq m0 : Nat) (hj : jq < N 0 1) (hm : m0 < 60) : RO l D ka yX8_goodsGot cX8_goodsGot 6 (some .int) 3 [.ref (v 0), .ref (ta jq), .int (nI m0)] (fun H => va_P D vwCl (kw ka v ta N wf df tf) H) (vp_Si (fun r => r = nI (gts N jq m0))) := by
  refine RO.ofI (by decide) (Nat.le_of_ble_eq_true rfl) ?_
  intro p e s m args below meth c Q X hP hret ls hl
  obtain ⟨hx, hb, hml, hown, hts, hE⟩ := id X
  have hK := hE.1
  have hl : lv_has ls 6 [(0, .ref (v 0)), (1, .ref (ta jq)), (2, .int (nI m0))] := hl
  have hN1 := hN.1
  refine lv_aload_n hx hb dX8_goodsGot_0 rfl (lv_at hl 0 rfl) ?_
  refine lv_aload_n hx hb dX8_goodsGot_1 rfl (lv_at hl 1 rfl) ?_
  refine lv_iload_n hx hb dX8_goodsGot_2 rfl (lv_at hl 2 rfl) ?_
  refine vp_callSi (ro_runV (c_X8_heldAlone l D ka v ta N wf df tf hV hN hL jq m0 (by omega) (by omega)) X wd_383 wd_394 wd_381 wd_382 wd_3 on_X8_heldAlone ⟨Nat.le_of_ble_eq_true rfl, Nat.le_of_ble_eq_true rfl⟩ (va_recv hK hP (ci := 8) (q0 := 0) rfl rfl) hP hl.1 rfl (Nat.le_of_ble_eq_true rfl) ⟨(Nat.zero_le _), (Nat.zero_le _)⟩ dX8_goodsGot_3) (fun r_2 hr_2 => ?_)
  subst hr_2
  have hb9_1 := hld_le N jq m0 1
  refine lv_istore_n (lv' := [(3, .int (nI (hld N jq m0 1))), (0, .ref (v 0)), (1, .ref (ta jq)), (2, .int (nI m0))]) hx hb dX8_goodsGot_6 rfl hl (by decide) rfl (fun ls hl => ?_)
  refine lv_iconst (v := nI 0) hx hb dX8_goodsGot_7 (by decide) ?_
  refine lv_istore (lv' := [(4, .int (nI 0)), (3, .int (nI (hld N jq m0 1))), (0, .ref (v 0)), (1, .ref (ta jq)), (2, .int (nI m0))]) hx hb dX8_goodsGot_8 hl (by decide) rfl (fun ls hl => ?_)
  refine lv_iconst (v := nI 0) hx hb dX8_goodsGot_10 (by decide) ?_
  refine lv_istore (lv' := [(5, .int (nI 0)), (4, .int (nI 0)), (3, .int (nI (hld N jq m0 1))), (0, .ref (v 0)), (1, .ref (ta jq)), (2, .int (nI m0))]) hx hb dX8_goodsGot_11 hl (by decide) rfl (fun ls hl => ?_)
  have loop13 : ∀ (fuel13 : Nat) (bq : Nat) (se : Nat), N 0 2 - bq < fuel13 → (bq ≤ N 0 2) → (se = bset (fun g => decide (2 * N 5 g ≤ hld N jq m0 1)) bq) → ∀ ls : Array Slot, lv_has ls 6 [(0, .ref (v 0)), (1, .ref (ta jq)), (2, .int (nI m0)), (3, .int (nI (hld N jq m0 1))), (4, .int (nI se)), (5, .int (nI bq))] → W p l e (rmz 3 0 0) s m args below meth c s.heap [] 0 0 Q (F0 m 13 ls []) := by
    intro fuel13
    induction fuel13 with
    | zero => intro bq se hfu; exact absurd hfu (Nat.not_lt_zero _)
    | succ fuel13 ih13 =>
      intro bq se hfu hbq hse ls hl
      refine lv_iload hx hb dX8_goodsGot_13 (lv_at hl 5 rfl) ?_
      refine lv_aload_n hx hb dX8_goodsGot_15 rfl (lv_at hl 0 rfl) ?_
      refine va_get (D := D) (ci := 8) (v := .int (nI (N 0 2))) (C := RX8) (T := TX8) (N := 6) hx hb hts inX8 hown hK hP 0 rfl rfl 5 (by decide) (hts _ wd_56) (fun _ h9 => h9) rfl dX8_goodsGot_16 ?_
      refine i_icmp_ge (tgt := 50) hx hb (nT (by omega)) (nT (by omega)) dX8_goodsGot_19 (by decide) (fun c_3 => ?_) (fun c_3 => ?_)
      · refine lv_iload hx hb dX8_goodsGot_50 (lv_at hl 4 rfl) ?_
        refine hret _ _ _ dX8_goodsGot_52 ?_
        rw [hse, show bq = N 0 2 by omega]; rfl
      · refine lv_iload_n hx hb dX8_goodsGot_22 rfl (lv_at hl 3 rfl) ?_
        refine lv_iconst (v := nI 2) hx hb dX8_goodsGot_23 (by decide) ?_
        refine lv_aload_n hx hb dX8_goodsGot_24 rfl (lv_at hl 0 rfl) ?_
        refine va_get (D := D) (ci := 8) (v := .ref (v 3)) (C := RX8) (T := TX8) (N := 6) hx hb hts inX8 hown hK hP 0 rfl rfl 2 (by decide) (hts _ wd_45) (fun _ h9 => h9) rfl dX8_goodsGot_25 ?_
        refine lv_iload hx hb dX8_goodsGot_28 (lv_at hl 5 rfl) ?_
        refine n_iald hx hb hK hP 3 0 rfl rfl (k := bq) (by omega) (by decide) dX8_goodsGot_30 ?_
        rw [hV.2.1 bq (by omega)]
        have hv_4 := hN.2.2.2.2.2.1 bq
        refine n_imul hx hb dX8_goodsGot_31 ?_
        refine i_icmp_lt (tgt := 44) hx hb (nT (by omega)) (nT (by omega)) dX8_goodsGot_32 (by decide) (fun c_5 => ?_) (fun c_5 => ?_)
        · refine n_iinc (lv' := [(5, .int (nI (bq + 1))), (0, .ref (v 0)), (1, .ref (ta jq)), (2, .int (nI m0)), (3, .int (nI (hld N jq m0 1))), (4, .int (nI se))]) (k := 5) (d := 1) hx hb dX8_goodsGot_44 hl rfl rfl (by decide) rfl (fun ls hl => ?_)
          refine lv_goto (tgt := 13) hx hb dX8_goodsGot_47 (by decide) ?_
          exact ih13 (bq + 1) se (by omega) (by omega) (by rw [hse]; first | exact bset_t (by simp; omega) | exact bset_f (by simp; omega)) ls (lv_sub hl [1, 2, 3, 4, 5, 0] rfl)
        · refine lv_iload hx hb dX8_goodsGot_35 (lv_at hl 4 rfl) ?_
          refine lv_iconst (v := nI 1) hx hb dX8_goodsGot_37 (by decide) ?_
          refine lv_iload hx hb dX8_goodsGot_38 (lv_at hl 5 rfl) ?_
          refine lv_ishl hx hb dX8_goodsGot_40 ?_
          rw [n_shl (a := 1) (k := bq) (by omega) (Nat.lt_of_le_of_lt (by rw [Nat.one_mul]; exact Nat.pow_le_pow_right (by decide) (show bq ≤ 31 by omega)) (by decide))]
          refine lv_ior hx hb dX8_goodsGot_41 ?_
          rw [n_or se (1 * 2 ^ bq)]
          refine lv_istore (lv' := [(4, .int (nI (se ||| (1 * 2 ^ bq)))), (0, .ref (v 0)), (1, .ref (ta jq)), (2, .int (nI m0)), (3, .int (nI (hld N jq m0 1))), (5, .int (nI bq))]) hx hb dX8_goodsGot_42 hl (by decide) rfl (fun ls hl => ?_)
          refine n_iinc (lv' := [(5, .int (nI (bq + 1))), (4, .int (nI (se ||| (1 * 2 ^ bq)))), (0, .ref (v 0)), (1, .ref (ta jq)), (2, .int (nI m0)), (3, .int (nI (hld N jq m0 1)))]) (k := 5) (d := 1) hx hb dX8_goodsGot_44 hl rfl rfl (by decide) rfl (fun ls hl => ?_)
          refine lv_goto (tgt := 13) hx hb dX8_goodsGot_47 (by decide) ?_
          exact ih13 (bq + 1) (se ||| (1 * 2 ^ bq)) (by omega) (by omega) (by rw [hse]; first | exact bset_t (by simp; omega) | exact bset_f (by simp; omega)) ls (lv_sub hl [2, 3, 4, 5, 1, 0] rfl)
  exact loop13 _ 0 0 (Nat.lt_succ_self _) (by omega) rfl ls (lv_sub hl [3, 4, 5, 2, 1, 0] rfl)
set_option maxRecDepth 100000 in
set_option maxHeartbeats 4000000 in
theorem c_X8_drainIfOnly (l : Launch) (D : va_G) (ka : Nat → ClassId) (v ta : Nat → Nat) (N : NN) (wf df : Nat → Int32) (tf : Nat → Option Nat) (hV : VR N ta wf df tf) (hN : WF N) (s1 jq n1 : Nat) (hj : jq < N 0 1) (hs : s1 < 64) (hn : n1 ≤ 40) : RO l D ka yX8_drainIfOnly cX8_drainIfOnly 8 (some .int) 2 [.ref (v 0), .int (nI s1), .ref (ta jq), .int (nI n1)] (fun H => va_P D vwCl (kw ka v ta N wf df tf) H) (vp_Si (fun r => r = nI (di N s1 jq n1))) := by
  refine RO.ofI (by decide) (Nat.le_of_ble_eq_true rfl) ?_
  intro p e s m args below meth c Q X hP hret ls hl
  obtain ⟨hx, hb, hml, hown, hts, hE⟩ := id X
  have hK := hE.1
  have hl : lv_has ls 8 [(0, .ref (v 0)), (1, .int (nI s1)), (2, .ref (ta jq)), (3, .int (nI n1))] := hl
  have hN1 := hN.1
  have hp0 : 0 < N 0 0 := by omega
  refine lv_iconst (v := nI 0) hx hb dX8_drainIfOnly_0 (by decide) ?_
  refine lv_istore (lv' := [(4, .int (nI 0)), (0, .ref (v 0)), (1, .int (nI s1)), (2, .ref (ta jq)), (3, .int (nI n1))]) hx hb dX8_drainIfOnly_1 hl (by decide) rfl (fun ls hl => ?_)
  refine lv_iconst (v := nI 0) hx hb dX8_drainIfOnly_3 (by decide) ?_
  refine lv_istore (lv' := [(5, .int (nI 0)), (4, .int (nI 0)), (0, .ref (v 0)), (1, .int (nI s1)), (2, .ref (ta jq)), (3, .int (nI n1))]) hx hb dX8_drainIfOnly_4 hl (by decide) rfl (fun ls hl => ?_)
  refine lv_iconst (v := nI 0) hx hb dX8_drainIfOnly_6 (by decide) ?_
  refine lv_istore (lv' := [(6, .int (nI 0)), (5, .int (nI 0)), (4, .int (nI 0)), (0, .ref (v 0)), (1, .int (nI s1)), (2, .ref (ta jq)), (3, .int (nI n1))]) hx hb dX8_drainIfOnly_7 hl (by decide) rfl (fun ls hl => ?_)
  have loop9 : ∀ (fuel9 : Nat) (tq : Nat) (sq : Nat) (pq : Nat), n1 - tq < fuel9 → (tq ≤ n1) → (sq = di N s1 jq tq) → (pq = tq % N 0 0) → ∀ ls : Array Slot, lv_has ls 8 [(0, .ref (v 0)), (1, .int (nI s1)), (2, .ref (ta jq)), (3, .int (nI n1)), (4, .int (nI sq)), (5, .int (nI pq)), (6, .int (nI tq))] → W p l e (rmz 2 0 0) s m args below meth c s.heap [] 0 0 Q (F0 m 9 ls []) := by
    intro fuel9
    induction fuel9 with
    | zero => intro tq sq pq hfu; exact absurd hfu (Nat.not_lt_zero _)
    | succ fuel9 ih9 =>
      intro tq sq pq hfu htq hsq hpq ls hl
      have hpl : pq < N 0 0 := by rw [hpq]; exact Nat.mod_lt _ hp0
      have hsb := di_le hN s1 jq tq
      refine lv_iload hx hb dX8_drainIfOnly_9 (lv_at hl 6 rfl) ?_
      refine lv_iload_n hx hb dX8_drainIfOnly_11 rfl (lv_at hl 3 rfl) ?_
      refine i_icmp_ge (tgt := 83) hx hb (nT (by omega)) (nT (by omega)) dX8_drainIfOnly_12 (by decide) (fun c_1 => ?_) (fun c_1 => ?_)
      · refine lv_iload hx hb dX8_drainIfOnly_83 (lv_at hl 4 rfl) ?_
        refine hret _ _ _ dX8_drainIfOnly_85 ?_
        rw [hsq, show tq = n1 by omega]
      · refine lv_iload_n hx hb dX8_drainIfOnly_15 rfl (lv_at hl 1 rfl) ?_
        refine lv_iload hx hb dX8_drainIfOnly_16 (lv_at hl 5 rfl) ?_
        refine lv_ishr hx hb dX8_drainIfOnly_18 ?_
        rw [n_shr (a := s1) (k := pq) (by omega) (by omega)]
        refine lv_iconst (v := nI 1) hx hb dX8_drainIfOnly_19 (by decide) ?_
        refine lv_iand hx hb dX8_drainIfOnly_20 ?_
        rw [n_and1 (a := s1 / 2 ^ pq) (Nat.lt_of_le_of_lt (Nat.div_le_self _ _) (by omega))]
        refine lv_iconst (v := nI 1) hx hb dX8_drainIfOnly_21 (by decide) ?_
        refine i_icmp_ne (tgt := 29) hx hb (nT (by omega)) (nT (by decide)) dX8_drainIfOnly_22 (by decide) (fun c_2 => ?_) (fun c_2 => ?_)
        · refine lv_iconst (v := nI 0) hx hb dX8_drainIfOnly_29 (by decide) ?_
          refine lv_istore (lv' := [(7, .int (nI 0)), (0, .ref (v 0)), (1, .int (nI s1)), (2, .ref (ta jq)), (3, .int (nI n1)), (4, .int (nI sq)), (5, .int (nI pq)), (6, .int (nI tq))]) hx hb dX8_drainIfOnly_30 hl (by decide) rfl (fun ls hl => ?_)
          refine lv_iload hx hb dX8_drainIfOnly_32 (lv_at hl 5 rfl) ?_
          refine lv_aload_n hx hb dX8_drainIfOnly_34 rfl (lv_at hl 3 rfl) ?_
          refine lv_iload hx hb dX8_drainIfOnly_35 (lv_at hl 0 rfl) ?_
          refine i_if_eq (tgt := 49) hx hb (nT (by decide)) dX8_drainIfOnly_37 (by decide) (fun c_3 => ?_) (fun c_3 => by omega)
          refine lv_iconst (v := nI 0) hx hb dX8_drainIfOnly_49 (by decide) ?_
          refine tk_drain X (w := 0) (by omega) (hN.2.2.2.2.1 jq) wd_385 hP (kw_tk (a := jq) (by omega)) (kd := N 2 jq) (hN.2.2.1 jq) ⟨Nat.le_of_ble_eq_true rfl, Nat.le_of_ble_eq_true rfl⟩ hl.1 (Nat.le_of_ble_eq_true rfl) ⟨Nat.zero_le _, Nat.zero_le _⟩ dX8_drainIfOnly_50 ?_
          have hd_4 : dr0 (N 2 jq) 0 (N 4 jq) ≤ 18 := dr0_le (by omega) (hN.2.2.2.2.1 jq)
          refine n_iadd hx hb dX8_drainIfOnly_53 ?_
          refine lv_istore (lv' := [(4, .int (nI (sq + (dr0 (N 2 jq) 0 (N 4 jq))))), (7, .int (nI 0)), (0, .ref (v 0)), (1, .int (nI s1)), (2, .ref (ta jq)), (3, .int (nI n1)), (5, .int (nI pq)), (6, .int (nI tq))]) hx hb dX8_drainIfOnly_54 hl (by decide) rfl (fun ls hl => ?_)
          refine lv_iload hx hb dX8_drainIfOnly_56 (lv_at hl 6 rfl) ?_
          refine lv_iconst (v := nI 1) hx hb dX8_drainIfOnly_58 (by decide) ?_
          refine n_iadd hx hb dX8_drainIfOnly_59 ?_
          refine lv_aload_n hx hb dX8_drainIfOnly_60 rfl (lv_at hl 2 rfl) ?_
          refine va_get (D := D) (ci := 8) (v := .int (nI (N 0 0))) (C := RX8) (T := TX8) (N := 6) hx hb hts inX8 hown hK hP 0 rfl rfl 3 (by decide) (hts _ wd_49) (fun _ h9 => h9) rfl dX8_drainIfOnly_61 ?_
          refine i_icmp_ge (tgt := 74) hx hb (nT (by omega)) (nT (by omega)) dX8_drainIfOnly_64 (by decide) (fun c_5 => ?_) (fun c_5 => ?_)
          · refine lv_iconst (v := nI 0) hx hb dX8_drainIfOnly_74 (by decide) ?_
            refine lv_istore (lv' := [(5, .int (nI 0)), (4, .int (nI (sq + (dr0 (N 2 jq) 0 (N 4 jq))))), (7, .int (nI 0)), (0, .ref (v 0)), (1, .int (nI s1)), (2, .ref (ta jq)), (3, .int (nI n1)), (6, .int (nI tq))]) hx hb dX8_drainIfOnly_75 hl (by decide) rfl (fun ls hl => ?_)
            refine n_iinc (lv' := [(6, .int (nI (tq + 1))), (5, .int (nI 0)), (4, .int (nI (sq + (dr0 (N 2 jq) 0 (N 4 jq))))), (7, .int (nI 0)), (0, .ref (v 0)), (1, .int (nI s1)), (2, .ref (ta jq)), (3, .int (nI n1))]) (k := 7) (d := 1) hx hb dX8_drainIfOnly_77 hl rfl rfl (by decide) rfl (fun ls hl => ?_)
            refine lv_goto (tgt := 9) hx hb dX8_drainIfOnly_80 (by decide) ?_
            exact ih9 (tq + 1) (sq + (dr0 (N 2 jq) 0 (N 4 jq))) 0 (by omega) (by omega) (by rw [di, ← hsq, ← hpq]; first | rw [if_pos (by omega)] | rw [if_neg (by omega)]) (by rw [mod_s hp0, ← hpq]; first | rw [if_pos (by omega)] | rw [if_neg (by omega)]) ls (lv_sub hl [4, 5, 6, 7, 2, 1, 0] rfl)
          · refine lv_iload hx hb dX8_drainIfOnly_67 (lv_at hl 6 rfl) ?_
            refine lv_iconst (v := nI 1) hx hb dX8_drainIfOnly_69 (by decide) ?_
            refine n_iadd hx hb dX8_drainIfOnly_70 ?_
            refine lv_goto (tgt := 75) hx hb dX8_drainIfOnly_71 (by decide) ?_
            refine lv_istore (lv' := [(5, .int (nI (pq + 1))), (4, .int (nI (sq + (dr0 (N 2 jq) 0 (N 4 jq))))), (7, .int (nI 0)), (0, .ref (v 0)), (1, .int (nI s1)), (2, .ref (ta jq)), (3, .int (nI n1)), (6, .int (nI tq))]) hx hb dX8_drainIfOnly_75 hl (by decide) rfl (fun ls hl => ?_)
            refine n_iinc (lv' := [(6, .int (nI (tq + 1))), (5, .int (nI (pq + 1))), (4, .int (nI (sq + (dr0 (N 2 jq) 0 (N 4 jq))))), (7, .int (nI 0)), (0, .ref (v 0)), (1, .int (nI s1)), (2, .ref (ta jq)), (3, .int (nI n1))]) (k := 7) (d := 1) hx hb dX8_drainIfOnly_77 hl rfl rfl (by decide) rfl (fun ls hl => ?_)
            refine lv_goto (tgt := 9) hx hb dX8_drainIfOnly_80 (by decide) ?_
            exact ih9 (tq + 1) (sq + (dr0 (N 2 jq) 0 (N 4 jq))) (pq + 1) (by omega) (by omega) (by rw [di, ← hsq, ← hpq]; first | rw [if_pos (by omega)] | rw [if_neg (by omega)]) (by rw [mod_s hp0, ← hpq]; first | rw [if_pos (by omega)] | rw [if_neg (by omega)]) ls (lv_sub hl [4, 5, 6, 7, 2, 1, 0] rfl)
        · refine lv_iconst (v := nI 1) hx hb dX8_drainIfOnly_25 (by decide) ?_
          refine lv_goto (tgt := 30) hx hb dX8_drainIfOnly_26 (by decide) ?_
          refine lv_istore (lv' := [(7, .int (nI 1)), (0, .ref (v 0)), (1, .int (nI s1)), (2, .ref (ta jq)), (3, .int (nI n1)), (4, .int (nI sq)), (5, .int (nI pq)), (6, .int (nI tq))]) hx hb dX8_drainIfOnly_30 hl (by decide) rfl (fun ls hl => ?_)
          refine lv_iload hx hb dX8_drainIfOnly_32 (lv_at hl 5 rfl) ?_
          refine lv_aload_n hx hb dX8_drainIfOnly_34 rfl (lv_at hl 3 rfl) ?_
          refine lv_iload hx hb dX8_drainIfOnly_35 (lv_at hl 0 rfl) ?_
          refine i_if_eq (tgt := 49) hx hb (nT (by decide)) dX8_drainIfOnly_37 (by decide) (fun c_6 => by omega) (fun c_6 => ?_)
          refine lv_aload_n hx hb dX8_drainIfOnly_40 rfl (lv_at hl 1 rfl) ?_
          refine lv_iload hx hb dX8_drainIfOnly_41 (lv_at hl 6 rfl) ?_
          refine vp_callSi (ro_runV (c_X8_weightIn l D ka v ta N wf df tf hV hN pq (by omega) (by omega)) X wd_358 wd_384 wd_356 wd_357 wd_3 on_X8_weightIn ⟨Nat.le_of_ble_eq_true rfl, Nat.le_of_ble_eq_true rfl⟩ (va_recv hK hP (ci := 8) (q0 := 0) rfl rfl) hP hl.1 rfl (Nat.le_of_ble_eq_true rfl) ⟨(Nat.zero_le _), (Nat.zero_le _)⟩ dX8_drainIfOnly_43) (fun r_8 hr_8 => ?_)
          subst hr_8
          have hb9_7 := hN.2.1 (pq % N 0 0)
          rw [Nat.mod_eq_of_lt hpl]
          have hwp := hN.2.1 pq
          refine lv_goto (tgt := 50) hx hb dX8_drainIfOnly_46 (by decide) ?_
          refine tk_drain X (w := N 1 pq) (by omega) (hN.2.2.2.2.1 jq) wd_385 hP (kw_tk (a := jq) (by omega)) (kd := N 2 jq) (hN.2.2.1 jq) ⟨Nat.le_of_ble_eq_true rfl, Nat.le_of_ble_eq_true rfl⟩ hl.1 (Nat.le_of_ble_eq_true rfl) ⟨Nat.zero_le _, Nat.zero_le _⟩ dX8_drainIfOnly_50 ?_
          have hd_9 : dr0 (N 2 jq) (N 1 pq) (N 4 jq) ≤ 18 := dr0_le (by omega) (hN.2.2.2.2.1 jq)
          refine n_iadd hx hb dX8_drainIfOnly_53 ?_
          refine lv_istore (lv' := [(4, .int (nI (sq + (dr0 (N 2 jq) (N 1 pq) (N 4 jq))))), (7, .int (nI 1)), (0, .ref (v 0)), (1, .int (nI s1)), (2, .ref (ta jq)), (3, .int (nI n1)), (5, .int (nI pq)), (6, .int (nI tq))]) hx hb dX8_drainIfOnly_54 hl (by decide) rfl (fun ls hl => ?_)
          refine lv_iload hx hb dX8_drainIfOnly_56 (lv_at hl 6 rfl) ?_
          refine lv_iconst (v := nI 1) hx hb dX8_drainIfOnly_58 (by decide) ?_
          refine n_iadd hx hb dX8_drainIfOnly_59 ?_
          refine lv_aload_n hx hb dX8_drainIfOnly_60 rfl (lv_at hl 2 rfl) ?_
          refine va_get (D := D) (ci := 8) (v := .int (nI (N 0 0))) (C := RX8) (T := TX8) (N := 6) hx hb hts inX8 hown hK hP 0 rfl rfl 3 (by decide) (hts _ wd_49) (fun _ h9 => h9) rfl dX8_drainIfOnly_61 ?_
          refine i_icmp_ge (tgt := 74) hx hb (nT (by omega)) (nT (by omega)) dX8_drainIfOnly_64 (by decide) (fun c_10 => ?_) (fun c_10 => ?_)
          · refine lv_iconst (v := nI 0) hx hb dX8_drainIfOnly_74 (by decide) ?_
            refine lv_istore (lv' := [(5, .int (nI 0)), (4, .int (nI (sq + (dr0 (N 2 jq) (N 1 pq) (N 4 jq))))), (7, .int (nI 1)), (0, .ref (v 0)), (1, .int (nI s1)), (2, .ref (ta jq)), (3, .int (nI n1)), (6, .int (nI tq))]) hx hb dX8_drainIfOnly_75 hl (by decide) rfl (fun ls hl => ?_)
            refine n_iinc (lv' := [(6, .int (nI (tq + 1))), (5, .int (nI 0)), (4, .int (nI (sq + (dr0 (N 2 jq) (N 1 pq) (N 4 jq))))), (7, .int (nI 1)), (0, .ref (v 0)), (1, .int (nI s1)), (2, .ref (ta jq)), (3, .int (nI n1))]) (k := 7) (d := 1) hx hb dX8_drainIfOnly_77 hl rfl rfl (by decide) rfl (fun ls hl => ?_)
            refine lv_goto (tgt := 9) hx hb dX8_drainIfOnly_80 (by decide) ?_
            exact ih9 (tq + 1) (sq + (dr0 (N 2 jq) (N 1 pq) (N 4 jq))) 0 (by omega) (by omega) (by rw [di, ← hsq, ← hpq]; first | rw [if_pos (by omega)] | rw [if_neg (by omega)]) (by rw [mod_s hp0, ← hpq]; first | rw [if_pos (by omega)] | rw [if_neg (by omega)]) ls (lv_sub hl [4, 5, 6, 7, 2, 1, 0] rfl)
          · refine lv_iload hx hb dX8_drainIfOnly_67 (lv_at hl 6 rfl) ?_
            refine lv_iconst (v := nI 1) hx hb dX8_drainIfOnly_69 (by decide) ?_
            refine n_iadd hx hb dX8_drainIfOnly_70 ?_
            refine lv_goto (tgt := 75) hx hb dX8_drainIfOnly_71 (by decide) ?_
            refine lv_istore (lv' := [(5, .int (nI (pq + 1))), (4, .int (nI (sq + (dr0 (N 2 jq) (N 1 pq) (N 4 jq))))), (7, .int (nI 1)), (0, .ref (v 0)), (1, .int (nI s1)), (2, .ref (ta jq)), (3, .int (nI n1)), (6, .int (nI tq))]) hx hb dX8_drainIfOnly_75 hl (by decide) rfl (fun ls hl => ?_)
            refine n_iinc (lv' := [(6, .int (nI (tq + 1))), (5, .int (nI (pq + 1))), (4, .int (nI (sq + (dr0 (N 2 jq) (N 1 pq) (N 4 jq))))), (7, .int (nI 1)), (0, .ref (v 0)), (1, .int (nI s1)), (2, .ref (ta jq)), (3, .int (nI n1))]) (k := 7) (d := 1) hx hb dX8_drainIfOnly_77 hl rfl rfl (by decide) rfl (fun ls hl => ?_)
            refine lv_goto (tgt := 9) hx hb dX8_drainIfOnly_80 (by decide) ?_
            exact ih9 (tq + 1) (sq + (dr0 (N 2 jq) (N 1 pq) (N 4 jq))) (pq + 1) (by omega) (by omega) (by rw [di, ← hsq, ← hpq]; first | rw [if_pos (by omega)] | rw [if_neg (by omega)]) (by rw [mod_s hp0, ← hpq]; first | rw [if_pos (by omega)] | rw [if_neg (by omega)]) ls (lv_sub hl [4, 5, 6, 7, 2, 1, 0] rfl)
  exact loop9 _ 0 0 0 (Nat.lt_succ_self _) (by omega) rfl (by rw [Nat.zero_mod]) ls (lv_sub hl [3, 4, 5, 6, 2, 1, 0] rfl)
set_option maxRecDepth 100000 in
set_option maxHeartbeats 4000000 in
theorem c_X8_setsHeld (l : Launch) (D : va_G) (ka : Nat → ClassId) (v ta : Nat → Nat) (N : NN) (wf df : Nat → Int32) (tf : Nat → Option Nat) (hV : VR N ta wf df tf) (hN : WF N) (jq n1 : Nat) (hj : jq < N 0 1) (hn : n1 ≤ 40) : RO l D ka yX8_setsHeld cX8_setsHeld 5 (some .int) 3 [.ref (v 0), .ref (ta jq), .int (nI n1)] (fun H => va_P D vwCl (kw ka v ta N wf df tf) H) (vp_Si (fun r => r = nI (cntA (fun s => decide (di N s jq n1 ≤ N 3 jq)) (2 ^ N 0 0)))) := by
  refine RO.ofI (by decide) (Nat.le_of_ble_eq_true rfl) ?_
  intro p e s m args below meth c Q X hP hret ls hl
  obtain ⟨hx, hb, hml, hown, hts, hE⟩ := id X
  have hK := hE.1
  have hl : lv_has ls 5 [(0, .ref (v 0)), (1, .ref (ta jq)), (2, .int (nI n1))] := hl
  have hN1 := hN.1
  have hpw := pow_le64 (p := N 0 0) (by omega)
  refine lv_iconst (v := nI 0) hx hb dX8_setsHeld_0 (by decide) ?_
  refine lv_istore_n (lv' := [(3, .int (nI 0)), (0, .ref (v 0)), (1, .ref (ta jq)), (2, .int (nI n1))]) hx hb dX8_setsHeld_1 rfl hl (by decide) rfl (fun ls hl => ?_)
  refine lv_iconst (v := nI 0) hx hb dX8_setsHeld_2 (by decide) ?_
  refine lv_istore (lv' := [(4, .int (nI 0)), (3, .int (nI 0)), (0, .ref (v 0)), (1, .ref (ta jq)), (2, .int (nI n1))]) hx hb dX8_setsHeld_3 hl (by decide) rfl (fun ls hl => ?_)
  have loop5 : ∀ (fuel5 : Nat) (sq : Nat) (cq : Nat), 2 ^ N 0 0 - sq < fuel5 → (sq ≤ 2 ^ N 0 0) → (cq = cntA (fun s => decide (di N s jq n1 ≤ N 3 jq)) sq) → ∀ ls : Array Slot, lv_has ls 5 [(0, .ref (v 0)), (1, .ref (ta jq)), (2, .int (nI n1)), (3, .int (nI cq)), (4, .int (nI sq))] → W p l e (rmz 3 0 0) s m args below meth c s.heap [] 0 0 Q (F0 m 5 ls []) := by
    intro fuel5
    induction fuel5 with
    | zero => intro sq cq hfu; exact absurd hfu (Nat.not_lt_zero _)
    | succ fuel5 ih5 =>
      intro sq cq hfu hsq hcq ls hl
      have hcl : cq ≤ sq := by rw [hcq]; exact cntA_le _ _
      refine lv_iload hx hb dX8_setsHeld_5 (lv_at hl 4 rfl) ?_
      refine lv_iconst (v := nI 1) hx hb dX8_setsHeld_7 (by decide) ?_
      refine lv_aload_n hx hb dX8_setsHeld_8 rfl (lv_at hl 0 rfl) ?_
      refine va_get (D := D) (ci := 8) (v := .int (nI (N 0 0))) (C := RX8) (T := TX8) (N := 6) hx hb hts inX8 hown hK hP 0 rfl rfl 3 (by decide) (hts _ wd_49) (fun _ h9 => h9) rfl dX8_setsHeld_9 ?_
      refine lv_ishl hx hb dX8_setsHeld_12 ?_
      rw [n_shl (a := 1) (k := N 0 0) (by omega) (by omega), Nat.one_mul]
      refine i_icmp_ge (tgt := 40) hx hb (nT (by omega)) (nT (by omega)) dX8_setsHeld_13 (by decide) (fun c_1 => ?_) (fun c_1 => ?_)
      · refine lv_iload_n hx hb dX8_setsHeld_40 rfl (lv_at hl 3 rfl) ?_
        refine hret _ _ _ dX8_setsHeld_41 ?_
        rw [hcq, show sq = 2 ^ N 0 0 by omega]
      · refine lv_aload_n hx hb dX8_setsHeld_16 rfl (lv_at hl 0 rfl) ?_
        refine lv_iload hx hb dX8_setsHeld_17 (lv_at hl 4 rfl) ?_
        refine lv_aload_n hx hb dX8_setsHeld_19 rfl (lv_at hl 1 rfl) ?_
        refine lv_iload_n hx hb dX8_setsHeld_20 rfl (lv_at hl 2 rfl) ?_
        refine vp_callSi (ro_runV (c_X8_drainIfOnly l D ka v ta N wf df tf hV hN sq jq n1 (by omega) (by omega) (by omega)) X wd_557 wd_554 wd_555 wd_556 wd_3 on_X8_drainIfOnly ⟨Nat.le_of_ble_eq_true rfl, Nat.le_of_ble_eq_true rfl⟩ (va_recv hK hP (ci := 8) (q0 := 0) rfl rfl) hP hl.1 rfl (Nat.le_of_ble_eq_true rfl) ⟨(Nat.zero_le _), (Nat.zero_le _)⟩ dX8_setsHeld_21) (fun r_3 hr_3 => ?_)
        subst hr_3
        have hb9_2 := di_le hN sq jq n1
        refine lv_aload_n hx hb dX8_setsHeld_24 rfl (lv_at hl 1 rfl) ?_
        refine tk_get X hP (kw_tk (a := jq) (by omega)) (kd := N 2 jq) (hN.2.2.1 jq) 1 (by decide) wd_273 (v := .int (nI (N 3 jq))) rfl dX8_setsHeld_25 ?_
        have hv_4 := hN.2.2.2.1 jq
        refine i_icmp_gt (tgt := 34) hx hb (nT (by omega)) (nT (by omega)) dX8_setsHeld_28 (by decide) (fun c_5 => ?_) (fun c_5 => ?_)
        · refine n_iinc (lv' := [(4, .int (nI (sq + 1))), (0, .ref (v 0)), (1, .ref (ta jq)), (2, .int (nI n1)), (3, .int (nI cq))]) (k := 4) (d := 1) hx hb dX8_setsHeld_34 hl rfl rfl (by decide) rfl (fun ls hl => ?_)
          refine lv_goto (tgt := 5) hx hb dX8_setsHeld_37 (by decide) ?_
          exact ih5 (sq + 1) cq (by omega) (by omega) (by rw [cntA, ← hcq]; first | rw [if_pos (by simp; omega)] | rw [if_neg (by simp; omega), Nat.add_zero]) ls (lv_sub hl [1, 2, 3, 4, 0] rfl)
        · refine n_iinc (lv' := [(3, .int (nI (cq + 1))), (0, .ref (v 0)), (1, .ref (ta jq)), (2, .int (nI n1)), (4, .int (nI sq))]) (k := 3) (d := 1) hx hb dX8_setsHeld_31 hl rfl rfl (by decide) rfl (fun ls hl => ?_)
          refine n_iinc (lv' := [(4, .int (nI (sq + 1))), (3, .int (nI (cq + 1))), (0, .ref (v 0)), (1, .ref (ta jq)), (2, .int (nI n1))]) (k := 4) (d := 1) hx hb dX8_setsHeld_34 hl rfl rfl (by decide) rfl (fun ls hl => ?_)
          refine lv_goto (tgt := 5) hx hb dX8_setsHeld_37 (by decide) ?_
          exact ih5 (sq + 1) (cq + 1) (by omega) (by omega) (by rw [cntA, ← hcq]; first | rw [if_pos (by simp; omega)] | rw [if_neg (by simp; omega), Nat.add_zero]) ls (lv_sub hl [2, 3, 4, 1, 0] rfl)
  exact loop5 _ 0 0 (Nat.lt_succ_self _) (Nat.zero_le _) rfl ls (lv_sub hl [2, 3, 4, 1, 0] rfl)
