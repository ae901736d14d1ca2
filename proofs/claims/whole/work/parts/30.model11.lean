set_option maxRecDepth 100000 in
set_option maxHeartbeats 4000000 in
theorem c_X11_worthOfRow (l : Launch) (D : va_G) (ka : Nat → ClassId) (h : Nat) (a : Nat → Nat) (N : Nat → Nat → Nat) (C : Nat → Nat → Int32) (f : Nat → Int32) (g : Nat → Nat → Int32) (R : va_W) (cq rq : Nat → Nat) (hrow : ∀ a, a < N 0 1 → g 29 a = nI (rq a) ∧ rq a ≤ N 0 2) (hcan : ∀ a, a < N 0 1 → g 28 a = nI (cq a) ∧ cq a < 32) (hN : WF N) : RO l D ka yX11_worthOfRow cX11_worthOfRow 4 (some .int) 0 [.ref h] (fun H => va_P D vwCl (mw ka h a N C f g ++ R) H) (vp_Si (fun r => r = wno (wvr cq (N 5) rq (N 0 2) (N 0 1) 0 0))) := by
  refine RO.ofI (by decide) (Nat.le_of_ble_eq_true rfl) ?_
  intro p e s m args below meth c Q X hP hret ls hl
  obtain ⟨hx, hb, hml, hown, hts, hE⟩ := id X
  have hK := hE.1
  have hl : lv_has ls 4 [(0, .ref h)] := hl
  have hN1 := hN.1
  refine lv_iconst (v := nI 0) hx hb dX11_worthOfRow_0 (by decide) ?_
  refine lv_istore_n (lv' := [(1, .int (nI 0)), (0, .ref h)]) hx hb dX11_worthOfRow_1 rfl hl (by decide) rfl (fun ls hl => ?_)
  refine lv_iconst (v := nI 0) hx hb dX11_worthOfRow_2 (by decide) ?_
  refine lv_istore_n (lv' := [(2, .int (nI 0)), (1, .int (nI 0)), (0, .ref h)]) hx hb dX11_worthOfRow_3 rfl hl (by decide) rfl (fun ls hl => ?_)
  refine lv_iconst (v := nI 0) hx hb dX11_worthOfRow_4 (by decide) ?_
  refine lv_istore_n (lv' := [(3, .int (nI 0)), (2, .int (nI 0)), (1, .int (nI 0)), (0, .ref h)]) hx hb dX11_worthOfRow_5 rfl hl (by decide) rfl (fun ls hl => ?_)
  have loop6 : ∀ (fuel6 : Nat) (aq : Nat) (gq : Nat) (sq : Nat), N 0 1 - aq < fuel6 → (aq ≤ N 0 1) → (gq < 32) → (sq ≤ 9 * aq) → (wvr cq (N 5) rq (N 0 2) (N 0 1) 0 0 = (wvr cq (N 5) rq (N 0 2) (N 0 1 - aq) aq gq).map (fun v => sq + v)) → ∀ ls : Array Slot, lv_has ls 4 [(0, .ref h), (1, .int (nI sq)), (2, .int (nI gq)), (3, .int (nI aq))] → W p l e (rmz 0 0 0) s m args below meth c s.heap [] 0 0 Q (F0 m 6 ls []) := by
    intro fuel6
    induction fuel6 with
    | zero => intro aq gq sq hfu; exact absurd hfu (Nat.not_lt_zero _)
    | succ fuel6 ih6 =>
      intro aq gq sq hfu haq hgq hsq hv9 ls hl
      have hrk : aq < N 0 1 → rq aq ≤ N 0 2 := fun q => (hrow aq q).2
      have hck : aq < N 0 1 → cq aq < 32 := fun q => (hcan aq q).2
      refine lv_iload_n hx hb dX11_worthOfRow_6 rfl (lv_at hl 3 rfl) ?_
      refine lv_aload_n hx hb dX11_worthOfRow_7 rfl (lv_at hl 0 rfl) ?_
      refine va_get (D := D) (ci := 11) (v := .int (nI (N 0 1))) (C := RX11) (T := TX11) (N := 35) hx hb hts inX11 hown hK hP 0 rfl rfl 6 (by decide) (hts _ wd_680) (fun _ h9 => h9) rfl dX11_worthOfRow_8 ?_
      refine i_icmp_ge (tgt := 93) hx hb (nT (by omega)) (nT (by omega)) dX11_worthOfRow_11 (by decide) (fun c_1 => ?_) (fun c_1 => ?_)
      · refine lv_iload_n hx hb dX11_worthOfRow_93 rfl (lv_at hl 1 rfl) ?_
        refine hret _ _ _ dX11_worthOfRow_94 ?_
        rw [hv9, show N 0 1 - aq = 0 by omega]; rfl
      · refine lv_aload_n hx hb dX11_worthOfRow_14 rfl (lv_at hl 0 rfl) ?_
        refine va_get (D := D) (ci := 11) (v := .ref (a 29)) (C := RX11) (T := TX11) (N := 35) hx hb hts inX11 hown hK hP 0 rfl rfl 29 (by decide) (hts _ wd_703) (fun _ h9 => h9) rfl dX11_worthOfRow_15 ?_
        refine lv_iload_n hx hb dX11_worthOfRow_18 rfl (lv_at hl 3 rfl) ?_
        refine n_iald hx hb hK hP 18 0 rfl rfl (k := aq) (by omega) (by decide) dX11_worthOfRow_19 ?_
        rw [(hrow aq (by omega)).1]
        have hrk2 := hrk (by omega)
        refine lv_aload_n hx hb dX11_worthOfRow_20 rfl (lv_at hl 0 rfl) ?_
        refine va_get (D := D) (ci := 11) (v := .int (nI (N 0 2))) (C := RX11) (T := TX11) (N := 35) hx hb hts inX11 hown hK hP 0 rfl rfl 7 (by decide) (hts _ wd_681) (fun _ h9 => h9) rfl dX11_worthOfRow_21 ?_
        refine i_icmp_ge (tgt := 87) hx hb (nT (by omega)) (nT (by omega)) dX11_worthOfRow_24 (by decide) (fun c_2 => ?_) (fun c_2 => ?_)
        · refine n_iinc (lv' := [(3, .int (nI (aq + 1))), (0, .ref h), (1, .int (nI sq)), (2, .int (nI gq))]) (k := 3) (d := 1) hx hb dX11_worthOfRow_87 hl rfl rfl (by decide) rfl (fun ls hl => ?_)
          refine lv_goto (tgt := 6) hx hb dX11_worthOfRow_90 (by decide) ?_
          exact ih6 (aq + 1) gq sq (by omega) (by omega) hgq (by omega) (by rw [hv9, show N 0 1 - aq = (N 0 1 - (aq + 1)) + 1 by omega, wvr_out (by omega)]) ls (lv_sub hl [1, 2, 3, 0] rfl)
        · refine lv_aload_n hx hb dX11_worthOfRow_27 rfl (lv_at hl 0 rfl) ?_
          refine va_get (D := D) (ci := 11) (v := .ref (a 28)) (C := RX11) (T := TX11) (N := 35) hx hb hts inX11 hown hK hP 0 rfl rfl 28 (by decide) (hts _ wd_702) (fun _ h9 => h9) rfl dX11_worthOfRow_28 ?_
          refine lv_iload_n hx hb dX11_worthOfRow_31 rfl (lv_at hl 3 rfl) ?_
          refine n_iald hx hb hK hP 17 0 rfl rfl (k := aq) (by omega) (by decide) dX11_worthOfRow_32 ?_
          rw [(hcan aq (by omega)).1]
          have hck2 := hck (by omega)
          refine lv_aload_n hx hb dX11_worthOfRow_33 rfl (lv_at hl 0 rfl) ?_
          refine va_get (D := D) (ci := 11) (v := .ref (a 29)) (C := RX11) (T := TX11) (N := 35) hx hb hts inX11 hown hK hP 0 rfl rfl 29 (by decide) (hts _ wd_703) (fun _ h9 => h9) rfl dX11_worthOfRow_34 ?_
          refine lv_iload_n hx hb dX11_worthOfRow_37 rfl (lv_at hl 3 rfl) ?_
          refine n_iald hx hb hK hP 18 0 rfl rfl (k := aq) (by omega) (by decide) dX11_worthOfRow_38 ?_
          rw [(hrow aq (by omega)).1]
          have hrk2 := hrk (by omega)
          refine lv_ishr hx hb dX11_worthOfRow_39 ?_
          rw [n_shr (a := cq aq) (k := rq aq) (by omega) (by omega)]
          refine lv_iconst (v := nI 1) hx hb dX11_worthOfRow_40 (by decide) ?_
          refine lv_iand hx hb dX11_worthOfRow_41 ?_
          rw [n_and1 (a := (cq aq) / 2 ^ (rq aq)) (Nat.lt_of_le_of_lt (Nat.div_le_self _ _) (by omega))]
          refine i_if_eq (tgt := 59) hx hb (nT (by omega)) dX11_worthOfRow_42 (by decide) (fun c_3 => ?_) (fun c_3 => ?_)
          · refine lv_bipush (v := (-9)) hx hb dX11_worthOfRow_59 (by decide) ?_
            refine hret _ _ _ dX11_worthOfRow_61 ?_
            rw [hv9, show N 0 1 - aq = (N 0 1 - (aq + 1)) + 1 by omega, wvr_neg (by omega) (by omega)]; rfl
          · refine lv_iload_n hx hb dX11_worthOfRow_45 rfl (lv_at hl 2 rfl) ?_
            refine lv_aload_n hx hb dX11_worthOfRow_46 rfl (lv_at hl 0 rfl) ?_
            refine va_get (D := D) (ci := 11) (v := .ref (a 29)) (C := RX11) (T := TX11) (N := 35) hx hb hts inX11 hown hK hP 0 rfl rfl 29 (by decide) (hts _ wd_703) (fun _ h9 => h9) rfl dX11_worthOfRow_47 ?_
            refine lv_iload_n hx hb dX11_worthOfRow_50 rfl (lv_at hl 3 rfl) ?_
            refine n_iald hx hb hK hP 18 0 rfl rfl (k := aq) (by omega) (by decide) dX11_worthOfRow_51 ?_
            rw [(hrow aq (by omega)).1]
            have hrk2 := hrk (by omega)
            refine lv_ishr hx hb dX11_worthOfRow_52 ?_
            rw [n_shr (a := gq) (k := rq aq) (by omega) (by omega)]
            refine lv_iconst (v := nI 1) hx hb dX11_worthOfRow_53 (by decide) ?_
            refine lv_iand hx hb dX11_worthOfRow_54 ?_
            rw [n_and1 (a := gq / 2 ^ (rq aq)) (Nat.lt_of_le_of_lt (Nat.div_le_self _ _) (by omega))]
            refine lv_iconst (v := nI 1) hx hb dX11_worthOfRow_55 (by decide) ?_
            refine i_icmp_ne (tgt := 62) hx hb (nT (by omega)) (nT (by decide)) dX11_worthOfRow_56 (by decide) (fun c_4 => ?_) (fun c_4 => ?_)
            · refine lv_iload_n hx hb dX11_worthOfRow_62 rfl (lv_at hl 2 rfl) ?_
              refine lv_iconst (v := nI 1) hx hb dX11_worthOfRow_63 (by decide) ?_
              refine lv_aload_n hx hb dX11_worthOfRow_64 rfl (lv_at hl 0 rfl) ?_
              refine va_get (D := D) (ci := 11) (v := .ref (a 29)) (C := RX11) (T := TX11) (N := 35) hx hb hts inX11 hown hK hP 0 rfl rfl 29 (by decide) (hts _ wd_703) (fun _ h9 => h9) rfl dX11_worthOfRow_65 ?_
              refine lv_iload_n hx hb dX11_worthOfRow_68 rfl (lv_at hl 3 rfl) ?_
              refine n_iald hx hb hK hP 18 0 rfl rfl (k := aq) (by omega) (by decide) dX11_worthOfRow_69 ?_
              rw [(hrow aq (by omega)).1]
              have hrk2 := hrk (by omega)
              refine lv_ishl hx hb dX11_worthOfRow_70 ?_
              rw [n_shl (a := 1) (k := rq aq) (by omega) (Nat.lt_of_le_of_lt (by rw [Nat.one_mul]; exact Nat.pow_le_pow_right (by decide) (show rq aq ≤ 31 by omega)) (by decide))]
              refine lv_ior hx hb dX11_worthOfRow_71 ?_
              rw [n_or gq (1 * 2 ^ (rq aq))]
              refine lv_istore_n (lv' := [(2, .int (nI (gq ||| (1 * 2 ^ (rq aq))))), (0, .ref h), (1, .int (nI sq)), (3, .int (nI aq))]) hx hb dX11_worthOfRow_72 rfl hl (by decide) rfl (fun ls hl => ?_)
              refine lv_iload_n hx hb dX11_worthOfRow_73 rfl (lv_at hl 2 rfl) ?_
              refine lv_aload_n hx hb dX11_worthOfRow_74 rfl (lv_at hl 1 rfl) ?_
              refine va_get (D := D) (ci := 11) (v := .ref (a 12)) (C := RX11) (T := TX11) (N := 35) hx hb hts inX11 hown hK hP 0 rfl rfl 12 (by decide) (hts _ wd_686) (fun _ h9 => h9) rfl dX11_worthOfRow_75 ?_
              refine lv_aload_n hx hb dX11_worthOfRow_78 rfl (lv_at hl 1 rfl) ?_
              refine va_get (D := D) (ci := 11) (v := .ref (a 29)) (C := RX11) (T := TX11) (N := 35) hx hb hts inX11 hown hK hP 0 rfl rfl 29 (by decide) (hts _ wd_703) (fun _ h9 => h9) rfl dX11_worthOfRow_79 ?_
              refine lv_iload_n hx hb dX11_worthOfRow_82 rfl (lv_at hl 3 rfl) ?_
              refine n_iald hx hb hK hP 18 0 rfl rfl (k := aq) (by omega) (by decide) dX11_worthOfRow_83 ?_
              rw [(hrow aq (by omega)).1]
              have hrk2 := hrk (by omega)
              refine n_iald hx hb hK hP 8 0 rfl rfl (k := rq aq) (by omega) (by decide) dX11_worthOfRow_84 ?_
              have hv_5 : N 5 (rq aq) ≤ 9 := hN.2.2.2.2.2.1 (rq aq)
              refine n_iadd hx hb dX11_worthOfRow_85 ?_
              refine lv_istore_n (lv' := [(1, .int (nI (sq + (N 5 (rq aq))))), (2, .int (nI (gq ||| (1 * 2 ^ (rq aq))))), (0, .ref h), (3, .int (nI aq))]) hx hb dX11_worthOfRow_86 rfl hl (by decide) rfl (fun ls hl => ?_)
              refine n_iinc (lv' := [(3, .int (nI (aq + 1))), (1, .int (nI (sq + (N 5 (rq aq))))), (2, .int (nI (gq ||| (1 * 2 ^ (rq aq))))), (0, .ref h)]) (k := 3) (d := 1) hx hb dX11_worthOfRow_87 hl rfl rfl (by decide) rfl (fun ls hl => ?_)
              refine lv_goto (tgt := 6) hx hb dX11_worthOfRow_90 (by decide) ?_
              exact ih6 (aq + 1) (gq ||| (1 * 2 ^ (rq aq))) (sq + (N 5 (rq aq))) (by omega) (by omega) (or_lt32 hgq (by omega)) (by omega) (by rw [hv9, show N 0 1 - aq = (N 0 1 - (aq + 1)) + 1 by omega, wvr_pos (by omega) (by omega), map_add]) ls (lv_sub hl [3, 1, 2, 0] rfl)
            · refine lv_bipush (v := (-9)) hx hb dX11_worthOfRow_59 (by decide) ?_
              refine hret _ _ _ dX11_worthOfRow_61 ?_
              rw [hv9, show N 0 1 - aq = (N 0 1 - (aq + 1)) + 1 by omega, wvr_neg (by omega) (by omega)]; rfl
  exact loop6 _ 0 0 0 (Nat.lt_succ_self _) (by omega) (by omega) (by omega) (map_zero _) ls (lv_sub hl [3, 2, 1, 0] rfl)
set_option maxRecDepth 100000 in
set_option maxHeartbeats 8000000 in
theorem c_X11_findSend (l : Launch) (D : va_G) (ka : Nat → ClassId) (z : Nat) (h : Nat) (a : Nat → Nat) (N : Nat → Nat → Nat) (C : Nat → Nat → Int32) (f : Nat → Int32) (g : Nat → Nat → Int32) (R : va_W) (m1 : Nat) (hm : m1 < 60) (hp : 0 < N 0 0) (hN : WF N) : MU l D ka z yX11_findSend cX11_findSend 8 (some .int) 3 0 0 [.ref h, .int (nI m1)] (mw ka h a N C f g ++ R) (Qi D z (fun r w => ∃ f2 g2, w = mw ka h a N C f2 g2 ++ R ∧ r = nI (bsv (fun a => gts N a m1) (N 5) (N 0 2) (N 0 1) 0 0) ∧ ∀ j, j < N 0 1 → g2 30 j = nI (dgt (N 0 2) (N 0 1) (grd (fun a => gts N a m1) (N 5) (N 0 2) (N 0 1) 0 0) j))) := by
  refine MU.ofI (by decide) (Nat.le_of_ble_eq_true rfl) ?_
  intro p e s m args below meth c Q X hw hS hret ls hl
  obtain ⟨hx, hb, hml, hown, hts, hE⟩ := id X
  have hK := hE.1
  have hz0 := hw.1
  have hl : lv_has ls 8 [(0, .ref h), (1, .int (nI m1))] := hl
  have hN1 := hN.1
  refine lv_iconst (v := nI 1) hx hb dX11_findSend_0 (by decide) ?_
  refine lv_istore_n (lv' := [(2, .int (nI 1)), (0, .ref h), (1, .int (nI m1))]) hx hb dX11_findSend_1 rfl hl (by decide) rfl (fun ls hl => ?_)
  refine lv_iconst (v := nI 0) hx hb dX11_findSend_2 (by decide) ?_
  refine lv_istore_n (lv' := [(3, .int (nI 0)), (2, .int (nI 1)), (0, .ref h), (1, .int (nI m1))]) hx hb dX11_findSend_3 rfl hl (by decide) rfl (fun ls hl => ?_)
  have loop4 : ∀ (fuel4 : Nat) (aq : Nat) (rq : Nat) (g1 : Nat → Nat → Int32), N 0 1 - aq < fuel4 → (aq ≤ N 0 1) → (rq = (N 0 2 + 1) ^ aq) → (∀ j, j < aq → g1 28 j = nI (gts N j m1)) → ∀ (H : Heap) (locs : List Loc), wdH D z (mw ka h a N C f g1 ++ R) H → va_S (fun q => z ≤ q) s.heap H locs → ∀ ls : Array Slot, lv_has ls 8 [(0, .ref h), (1, .int (nI m1)), (2, .int (nI rq)), (3, .int (nI aq))] → W p l e (rmz 3 0 0) s m args below meth c H locs 0 0 Q (F0 m 4 ls []) := by
    intro fuel4
    induction fuel4 with
    | zero => intro aq rq g1 hfu; exact absurd hfu (Nat.not_lt_zero _)
    | succ fuel4 ih4 =>
      intro aq rq g1 hfu haq hrq hcn H locs hw hS ls hl
      have hpb : rq ≤ 7776 := by rw [hrq]; exact pow_b (by omega) (by omega)
      refine lv_iload_n hx hb dX11_findSend_4 rfl (lv_at hl 3 rfl) ?_
      refine lv_aload_n hx hb dX11_findSend_5 rfl (lv_at hl 0 rfl) ?_
      refine va_get (D := D) (ci := 11) (v := .int (nI (N 0 1))) (C := RX11) (T := TX11) (N := 35) hx hb hts inX11 hown hK hw.2.1 0 rfl rfl 6 (by decide) (hts _ wd_680) (fun _ h9 => h9) rfl dX11_findSend_6 ?_
      refine i_icmp_ge (tgt := 39) hx hb (nT (by omega)) (nT (by omega)) dX11_findSend_9 (by decide) (fun c_1 => ?_) (fun c_1 => ?_)
      · refine lv_bipush (v := (-9)) hx hb dX11_findSend_39 (by decide) ?_
        refine lv_istore_n (lv' := [(3, .int (-9)), (0, .ref h), (1, .int (nI m1)), (2, .int (nI rq))]) hx hb dX11_findSend_41 rfl hl (by decide) rfl (fun ls hl => ?_)
        refine lv_iconst (v := nI 0) hx hb dX11_findSend_42 (by decide) ?_
        refine lv_istore (lv' := [(4, .int (nI 0)), (3, .int (-9)), (0, .ref h), (1, .int (nI m1)), (2, .int (nI rq))]) hx hb dX11_findSend_43 hl (by decide) rfl (fun ls hl => ?_)
        have hrqe : rq = (N 0 2 + 1) ^ N 0 1 := by rw [hrq, show aq = N 0 1 by omega]
        have loop45 : ∀ (fuel45 : Nat) (xq : Nat) (bq : Int32) (g1 : Nat → Nat → Int32), rq - xq < fuel45 → (xq ≤ rq) → (bq = bno (scn (vxs N m1) xq)) → (∀ j, j < N 0 1 → g1 28 j = nI (gts N j m1)) → (∀ b y, scn (vxs N m1) xq = some (b, y) → ∀ j, j < N 0 1 → g1 30 j = nI (dgt (N 0 2) (N 0 1) y j)) → ∀ (H : Heap) (locs : List Loc), wdH D z (mw ka h a N C f g1 ++ R) H → va_S (fun q => z ≤ q) s.heap H locs → ∀ ls : Array Slot, lv_has ls 8 [(0, .ref h), (1, .int (nI m1)), (2, .int (nI rq)), (3, .int bq), (4, .int (nI xq))] → W p l e (rmz 3 0 0) s m args below meth c H locs 0 0 Q (F0 m 45 ls []) := by
          intro fuel45
          induction fuel45 with
          | zero => intro xq bq g1 hfu; exact absurd hfu (Nat.not_lt_zero _)
          | succ fuel45 ih45 =>
            intro xq bq g1 hfu hxq hbq hcn hfd H locs hw hS ls hl
            refine lv_iload hx hb dX11_findSend_45 (lv_at hl 4 rfl) ?_
            refine lv_iload_n hx hb dX11_findSend_47 rfl (lv_at hl 2 rfl) ?_
            refine i_icmp_ge (tgt := 154) hx hb (nT (by omega)) (nT (by omega)) dX11_findSend_48 (by decide) (fun c_2 => ?_) (fun c_2 => ?_)
            · refine lv_iload_n hx hb dX11_findSend_154 rfl (lv_at hl 3 rfl) ?_
              refine hret _ _ _ _ _ _ _ _ dX11_findSend_155 hS hw (Nat.zero_le _) (Nat.zero_le _) ?_
              have hfin : scn (vxs N m1) xq = some (bsv (fun a => gts N a m1) (N 5) (N 0 2) (N 0 1) 0 0, grd (fun a => gts N a m1) (N 5) (N 0 2) (N 0 1) 0 0) := by rw [show xq = (N 0 2 + 1) ^ N 0 1 by omega]; exact scn_grd _ _ _ _
              rw [hfin] at hbq
              exact ⟨_, _, rfl, hbq, hfd _ _ hfin⟩
            · refine lv_iload hx hb dX11_findSend_51 (lv_at hl 4 rfl) ?_
              refine lv_istore (lv' := [(5, .int (nI xq)), (0, .ref h), (1, .int (nI m1)), (2, .int (nI rq)), (3, .int bq), (4, .int (nI xq))]) hx hb dX11_findSend_53 hl (by decide) rfl (fun ls hl => ?_)
              refine lv_aload_n hx hb dX11_findSend_55 rfl (lv_at hl 1 rfl) ?_
              refine va_get (D := D) (ci := 11) (v := .int (nI (N 0 1))) (C := RX11) (T := TX11) (N := 35) hx hb hts inX11 hown hK hw.2.1 0 rfl rfl 6 (by decide) (hts _ wd_680) (fun _ h9 => h9) rfl dX11_findSend_56 ?_
              refine lv_iconst (v := nI 1) hx hb dX11_findSend_59 (by decide) ?_
              refine lv_isub hx hb dX11_findSend_60 ?_
              refine lv_istore (lv' := [(6, .int (nI (N 0 1) - nI 1)), (5, .int (nI xq)), (0, .ref h), (1, .int (nI m1)), (2, .int (nI rq)), (3, .int bq), (4, .int (nI xq))]) hx hb dX11_findSend_61 hl (by decide) rfl (fun ls hl => ?_)
              have loop63 : ∀ (fuel63 : Nat) (cq : Nat) (lq : Nat) (g3 : Nat → Nat → Int32), cq < fuel63 → (cq ≤ N 0 1) → (lq = xq / (N 0 2 + 1) ^ (N 0 1 - cq)) → (g3 28 = g1 28) → (g3 30 = g1 30) → (∀ j, cq ≤ j → j < N 0 1 → g3 29 j = nI (dgt (N 0 2) (N 0 1) xq j)) → ∀ (H : Heap) (locs : List Loc), wdH D z (mw ka h a N C f g3 ++ R) H → va_S (fun q => z ≤ q) s.heap H locs → ∀ ls : Array Slot, lv_has ls 8 [(0, .ref h), (1, .int (nI m1)), (2, .int (nI rq)), (3, .int bq), (4, .int (nI xq)), (5, .int (nI lq)), (6, .int (nI cq - nI 1))] → W p l e (rmz 3 0 0) s m args below meth c H locs 0 0 Q (F0 m 63 ls []) := by
                intro fuel63
                induction fuel63 with
                | zero => intro cq lq g3 hfu; exact absurd hfu (Nat.not_lt_zero _)
                | succ fuel63 ih63 =>
                  intro cq lq g3 hfu hcq hlq hk28 hk30 hrw H locs hw hS ls hl
                  have hlb : lq ≤ xq := by rw [hlq]; exact Nat.div_le_self _ _
                  refine lv_iload hx hb dX11_findSend_63 (lv_at hl 6 rfl) ?_
                  refine i_if_lt (tgt := 101) hx hb (pk_sub_toInt (a := cq) (b := 1) (by omega) (by decide)) dX11_findSend_65 (by decide) (fun c_3 => ?_) (fun c_3 => ?_)
                  · refine lv_aload_n hx hb dX11_findSend_101 rfl (lv_at hl 0 rfl) ?_
                    refine vp_callSi (ro_runV (c_X11_worthOfRow l D ka h a N C f g3 R (fun a => gts N a m1) (fun j => dgt (N 0 2) (N 0 1) xq j) (fun j hj => ⟨hrw j (by omega) hj, dgt_le _ _ _ _⟩) (fun j hj => ⟨by rw [hk28]; exact hcn j hj, gts_lt N j m1 (by omega)⟩) hN) X wd_927 wd_924 wd_926 ws_20 wd_8 on_X11_worthOfRow ⟨Nat.le_of_ble_eq_true rfl, Nat.le_of_ble_eq_true rfl⟩ (va_recv hK hw.2.1 (ci := 11) (q0 := 0) rfl rfl) hw.2.1 hl.1 rfl (Nat.le_of_ble_eq_true rfl) ⟨(Nat.zero_le _), (Nat.zero_le _)⟩ dX11_findSend_102) (fun r_4 hr_4 => ?_)
                    subst hr_4
                    have hwx : wvr (fun a => gts N a m1) (N 5) (fun j => dgt (N 0 2) (N 0 1) xq j) (N 0 2) (N 0 1) 0 0 = vxs N m1 xq := wvr_vlx _ _ _ _ _ _ _ _ (by omega) (fun i hi => by rw [Nat.zero_add]; rfl)
                    rw [hwx]
                    cases hvx : vxs N m1 xq with
                    | none =>
                      cases hsx : scn (vxs N m1) xq with
                      | none =>
                        rw [hsx] at hbq; subst hbq
                        have hl : lv_has ls 8 [(0, .ref h), (1, .int (nI m1)), (2, .int (nI rq)), (3, .int (-9)), (4, .int (nI xq)), (5, .int (nI lq)), (6, .int (nI cq - nI 1))] := hl
                        refine W.eq (g2 := F0 m 105 ls [.int (-9)]) rfl ?_
                        refine lv_istore (lv' := [(6, .int (-9)), (0, .ref h), (1, .int (nI m1)), (2, .int (nI rq)), (3, .int (-9)), (4, .int (nI xq)), (5, .int (nI lq))]) hx hb dX11_findSend_105 hl (by decide) rfl (fun ls hl => ?_)
                        refine lv_iload hx hb dX11_findSend_107 (lv_at hl 0 rfl) ?_
                        refine lv_iload_n hx hb dX11_findSend_109 rfl (lv_at hl 4 rfl) ?_
                        refine i_icmp_le (tgt := 148) hx hb ng9 ng9 dX11_findSend_110 (by decide) (fun c_5 => ?_) (fun c_5 => by omega)
                        refine n_iinc (lv' := [(4, .int (nI (xq + 1))), (6, .int (-9)), (0, .ref h), (1, .int (nI m1)), (2, .int (nI rq)), (3, .int (-9)), (5, .int (nI lq))]) (k := 5) (d := 1) hx hb dX11_findSend_148 hl rfl rfl (by decide) rfl (fun ls hl => ?_)
                        refine lv_goto (tgt := 45) hx hb dX11_findSend_151 (by decide) ?_
                        exact ih45 (xq + 1) (-9) g3 (by omega) (by omega) (by rw [scn, hvx, hsx]; rfl) (fun j hj => by rw [hk28]; exact hcn j hj) (fun b y hb j hj => by
                              rw [scn, hvx, hsx] at hb
                              rw [hk30]
                              first | cases hb | (simp only [] at hb; rw [if_neg (by omega)] at hb; exact hfd b y (by rw [hsx]; exact hb) j hj) | exact hfd b y (by rw [hsx]; exact hb) j hj) _ _ hw hS ls (lv_sub hl [2, 3, 4, 5, 0] rfl)
                      | some sq =>
                        obtain ⟨b9, y9⟩ := sq
                        have hsb := scn_le hN (by omega) hsx
                        rw [hsx] at hbq; subst hbq
                        have hl : lv_has ls 8 [(0, .ref h), (1, .int (nI m1)), (2, .int (nI rq)), (3, .int (nI b9)), (4, .int (nI xq)), (5, .int (nI lq)), (6, .int (nI cq - nI 1))] := hl
                        refine W.eq (g2 := F0 m 105 ls [.int (-9)]) rfl ?_
                        refine lv_istore (lv' := [(6, .int (-9)), (0, .ref h), (1, .int (nI m1)), (2, .int (nI rq)), (3, .int (nI b9)), (4, .int (nI xq)), (5, .int (nI lq))]) hx hb dX11_findSend_105 hl (by decide) rfl (fun ls hl => ?_)
                        refine lv_iload hx hb dX11_findSend_107 (lv_at hl 0 rfl) ?_
                        refine lv_iload_n hx hb dX11_findSend_109 rfl (lv_at hl 4 rfl) ?_
                        refine i_icmp_le (tgt := 148) hx hb ng9 (nT (by omega)) dX11_findSend_110 (by decide) (fun c_6 => ?_) (fun c_6 => by omega)
                        refine n_iinc (lv' := [(4, .int (nI (xq + 1))), (6, .int (-9)), (0, .ref h), (1, .int (nI m1)), (2, .int (nI rq)), (3, .int (nI b9)), (5, .int (nI lq))]) (k := 5) (d := 1) hx hb dX11_findSend_148 hl rfl rfl (by decide) rfl (fun ls hl => ?_)
                        refine lv_goto (tgt := 45) hx hb dX11_findSend_151 (by decide) ?_
                        exact ih45 (xq + 1) (nI b9) g3 (by omega) (by omega) (by rw [scn, hvx, hsx]; rfl) (fun j hj => by rw [hk28]; exact hcn j hj) (fun b y hb j hj => by
                              rw [scn, hvx, hsx] at hb
                              rw [hk30]
                              exact hfd b y (by rw [hsx]; exact hb) j hj) _ _ hw hS ls (lv_sub hl [2, 3, 4, 5, 0] rfl)
                    | some vq =>
                      have hvb := vxs_le hN (by omega) hvx
                      cases hsx : scn (vxs N m1) xq with
                      | none =>
                        rw [hsx] at hbq; subst hbq
                        have hl : lv_has ls 8 [(0, .ref h), (1, .int (nI m1)), (2, .int (nI rq)), (3, .int (-9)), (4, .int (nI xq)), (5, .int (nI lq)), (6, .int (nI cq - nI 1))] := hl
                        refine W.eq (g2 := F0 m 105 ls [.int (nI vq)]) rfl ?_
                        refine lv_istore (lv' := [(6, .int (nI vq)), (0, .ref h), (1, .int (nI m1)), (2, .int (nI rq)), (3, .int (-9)), (4, .int (nI xq)), (5, .int (nI lq))]) hx hb dX11_findSend_105 hl (by decide) rfl (fun ls hl => ?_)
                        refine lv_iload hx hb dX11_findSend_107 (lv_at hl 0 rfl) ?_
                        refine lv_iload_n hx hb dX11_findSend_109 rfl (lv_at hl 4 rfl) ?_
                        refine i_icmp_le (tgt := 148) hx hb (nT (by omega)) ng9 dX11_findSend_110 (by decide) (fun c_7 => by omega) (fun c_7 => ?_)
                        refine lv_iload hx hb dX11_findSend_113 (lv_at hl 0 rfl) ?_
                        refine lv_istore_n (lv' := [(3, .int (nI vq)), (6, .int (nI vq)), (0, .ref h), (1, .int (nI m1)), (2, .int (nI rq)), (4, .int (nI xq)), (5, .int (nI lq))]) hx hb dX11_findSend_115 rfl hl (by decide) rfl (fun ls hl => ?_)
                        refine lv_iconst (v := nI 0) hx hb dX11_findSend_116 (by decide) ?_
                        refine lv_istore (lv' := [(7, .int (nI 0)), (3, .int (nI vq)), (6, .int (nI vq)), (0, .ref h), (1, .int (nI m1)), (2, .int (nI rq)), (4, .int (nI xq)), (5, .int (nI lq))]) hx hb dX11_findSend_117 hl (by decide) rfl (fun ls hl => ?_)
                        have loop119 : ∀ (fuel119 : Nat) (eq9 : Nat) (g5 : Nat → Nat → Int32), N 0 1 - eq9 < fuel119 → (eq9 ≤ N 0 1) → (g5 28 = g1 28) → (g5 29 = g3 29) → (∀ j, j < eq9 → g5 30 j = nI (dgt (N 0 2) (N 0 1) xq j)) → ∀ (H : Heap) (locs : List Loc), wdH D z (mw ka h a N C f g5 ++ R) H → va_S (fun q => z ≤ q) s.heap H locs → ∀ ls : Array Slot, lv_has ls 8 [(0, .ref h), (1, .int (nI m1)), (2, .int (nI rq)), (3, .int (nI vq)), (4, .int (nI xq)), (5, .int (nI lq)), (6, .int (nI vq)), (7, .int (nI eq9))] → W p l e (rmz 3 0 0) s m args below meth c H locs 0 0 Q (F0 m 119 ls []) := by
                          intro fuel119
                          induction fuel119 with
                          | zero => intro eq9 g5 hfu; exact absurd hfu (Nat.not_lt_zero _)
                          | succ fuel119 ih119 =>
                            intro eq9 g5 hfu heq hk28b hk29b hcp H locs hw hS ls hl
                            refine lv_iload hx hb dX11_findSend_119 (lv_at hl 7 rfl) ?_
                            refine lv_aload_n hx hb dX11_findSend_121 rfl (lv_at hl 0 rfl) ?_
                            refine va_get (D := D) (ci := 11) (v := .int (nI (N 0 1))) (C := RX11) (T := TX11) (N := 35) hx hb hts inX11 hown hK hw.2.1 0 rfl rfl 6 (by decide) (hts _ wd_680) (fun _ h9 => h9) rfl dX11_findSend_122 ?_
                            refine i_icmp_ge (tgt := 148) hx hb (nT (by omega)) (nT (by omega)) dX11_findSend_125 (by decide) (fun c_8 => ?_) (fun c_8 => ?_)
                            · refine n_iinc (lv' := [(4, .int (nI (xq + 1))), (0, .ref h), (1, .int (nI m1)), (2, .int (nI rq)), (3, .int (nI vq)), (5, .int (nI lq)), (6, .int (nI vq)), (7, .int (nI eq9))]) (k := 4) (d := 1) hx hb dX11_findSend_148 hl rfl rfl (by decide) rfl (fun ls hl => ?_)
                              refine lv_goto (tgt := 45) hx hb dX11_findSend_151 (by decide) ?_
                              exact ih45 (xq + 1) (nI vq) g5 (by omega) (by omega) (by rw [scn, hvx, hsx]; rfl) (fun j hj => by rw [hk28b]; exact hcn j hj) (fun b y hb j hj => by
                                    rw [scn, hvx, hsx] at hb
                                    first | cases hb | (simp only [] at hb; rw [if_pos (by omega)] at hb; cases hb)
                                    exact hcp j (by omega)) _ _ hw hS ls (lv_sub hl [1, 2, 3, 4, 0] rfl)
                            · refine lv_aload_n hx hb dX11_findSend_128 rfl (lv_at hl 0 rfl) ?_
                              refine va_get (D := D) (ci := 11) (v := .ref (a 30)) (C := RX11) (T := TX11) (N := 35) hx hb hts inX11 hown hK hw.2.1 0 rfl rfl 30 (by decide) (hts _ wd_704) (fun _ h9 => h9) rfl dX11_findSend_129 ?_
                              refine lv_iload hx hb dX11_findSend_132 (lv_at hl 7 rfl) ?_
                              refine lv_aload_n hx hb dX11_findSend_134 rfl (lv_at hl 0 rfl) ?_
                              refine va_get (D := D) (ci := 11) (v := .ref (a 29)) (C := RX11) (T := TX11) (N := 35) hx hb hts inX11 hown hK hw.2.1 0 rfl rfl 29 (by decide) (hts _ wd_703) (fun _ h9 => h9) rfl dX11_findSend_135 ?_
                              refine lv_iload hx hb dX11_findSend_138 (lv_at hl 7 rfl) ?_
                              refine n_iald hx hb hK hw.2.1 18 0 rfl rfl (k := eq9) (by omega) (by decide) dX11_findSend_140 ?_
                              rw [hk29b, hrw eq9 (by omega) (by omega)]
                              refine r_iast hx hb hK hw.2.1 hw.2.2 hS 19 0 rfl rfl (k := eq9) (by omega) (by decide) dX11_findSend_141 (fun H locs hP hD hS => ?_)
                              have hw : wdH D z (mw ka h a N C f (va_up g5 30 (upd (g5 30) eq9 (nI (dgt (N 0 2) (N 0 1) xq eq9)))) ++ R) H := ⟨Nat.le_trans hz0 hS.1, hP, hD⟩
                              refine n_iinc (lv' := [(7, .int (nI (eq9 + 1))), (0, .ref h), (1, .int (nI m1)), (2, .int (nI rq)), (3, .int (nI vq)), (4, .int (nI xq)), (5, .int (nI lq)), (6, .int (nI vq))]) (k := 7) (d := 1) hx hb dX11_findSend_142 hl rfl rfl (by decide) rfl (fun ls hl => ?_)
                              refine lv_goto (tgt := 119) hx hb dX11_findSend_145 (by decide) ?_
                              exact ih119 (eq9 + 1) (va_up g5 30 (upd (g5 30) eq9 (nI (dgt (N 0 2) (N 0 1) xq eq9)))) (by omega) (by omega) hk28b hk29b (fun j hj => by
                                    show upd (g5 30) eq9 (nI (dgt (N 0 2) (N 0 1) xq eq9)) j = _
                                    unfold upd
                                    by_cases hj2 : j = eq9
                                    · rw [if_pos hj2, hj2]
                                    · rw [if_neg hj2]; exact hcp j (by omega)) _ _ hw hS ls (lv_sub hl [1, 2, 3, 4, 5, 6, 7, 0] rfl)
                        exact loop119 _ 0 g3 (Nat.lt_succ_self _) (by omega) hk28 rfl (fun j hj => absurd hj (Nat.not_lt_zero _)) _ _ hw hS ls (lv_sub hl [3, 4, 5, 1, 6, 7, 2, 0] rfl)
                      | some sq =>
                        obtain ⟨b9, y9⟩ := sq
                        have hsb := scn_le hN (by omega) hsx
                        rw [hsx] at hbq; subst hbq
                        have hl : lv_has ls 8 [(0, .ref h), (1, .int (nI m1)), (2, .int (nI rq)), (3, .int (nI b9)), (4, .int (nI xq)), (5, .int (nI lq)), (6, .int (nI cq - nI 1))] := hl
                        refine W.eq (g2 := F0 m 105 ls [.int (nI vq)]) rfl ?_
                        refine lv_istore (lv' := [(6, .int (nI vq)), (0, .ref h), (1, .int (nI m1)), (2, .int (nI rq)), (3, .int (nI b9)), (4, .int (nI xq)), (5, .int (nI lq))]) hx hb dX11_findSend_105 hl (by decide) rfl (fun ls hl => ?_)
                        refine lv_iload hx hb dX11_findSend_107 (lv_at hl 0 rfl) ?_
                        refine lv_iload_n hx hb dX11_findSend_109 rfl (lv_at hl 4 rfl) ?_
                        refine i_icmp_le (tgt := 148) hx hb (nT (by omega)) (nT (by omega)) dX11_findSend_110 (by decide) (fun c_9 => ?_) (fun c_9 => ?_)
                        · refine n_iinc (lv' := [(4, .int (nI (xq + 1))), (6, .int (nI vq)), (0, .ref h), (1, .int (nI m1)), (2, .int (nI rq)), (3, .int (nI b9)), (5, .int (nI lq))]) (k := 5) (d := 1) hx hb dX11_findSend_148 hl rfl rfl (by decide) rfl (fun ls hl => ?_)
                          refine lv_goto (tgt := 45) hx hb dX11_findSend_151 (by decide) ?_
                          exact ih45 (xq + 1) (nI b9) g3 (by omega) (by omega) (by rw [scn, hvx, hsx]; simp only []; rw [if_neg (by omega)]; rfl) (fun j hj => by rw [hk28]; exact hcn j hj) (fun b y hb j hj => by
                                rw [scn, hvx, hsx] at hb
                                simp only [] at hb
                                rw [if_neg (by omega)] at hb
                                rw [hk30]
                                exact hfd b y (by rw [hsx]; exact hb) j hj) _ _ hw hS ls (lv_sub hl [2, 3, 4, 5, 0] rfl)
                        · refine lv_iload hx hb dX11_findSend_113 (lv_at hl 0 rfl) ?_
                          refine lv_istore_n (lv' := [(3, .int (nI vq)), (6, .int (nI vq)), (0, .ref h), (1, .int (nI m1)), (2, .int (nI rq)), (4, .int (nI xq)), (5, .int (nI lq))]) hx hb dX11_findSend_115 rfl hl (by decide) rfl (fun ls hl => ?_)
                          refine lv_iconst (v := nI 0) hx hb dX11_findSend_116 (by decide) ?_
                          refine lv_istore (lv' := [(7, .int (nI 0)), (3, .int (nI vq)), (6, .int (nI vq)), (0, .ref h), (1, .int (nI m1)), (2, .int (nI rq)), (4, .int (nI xq)), (5, .int (nI lq))]) hx hb dX11_findSend_117 hl (by decide) rfl (fun ls hl => ?_)
                          have loop119 : ∀ (fuel119 : Nat) (eq9 : Nat) (g5 : Nat → Nat → Int32), N 0 1 - eq9 < fuel119 → (eq9 ≤ N 0 1) → (g5 28 = g1 28) → (g5 29 = g3 29) → (∀ j, j < eq9 → g5 30 j = nI (dgt (N 0 2) (N 0 1) xq j)) → ∀ (H : Heap) (locs : List Loc), wdH D z (mw ka h a N C f g5 ++ R) H → va_S (fun q => z ≤ q) s.heap H locs → ∀ ls : Array Slot, lv_has ls 8 [(0, .ref h), (1, .int (nI m1)), (2, .int (nI rq)), (3, .int (nI vq)), (4, .int (nI xq)), (5, .int (nI lq)), (6, .int (nI vq)), (7, .int (nI eq9))] → W p l e (rmz 3 0 0) s m args below meth c H locs 0 0 Q (F0 m 119 ls []) := by
                            intro fuel119
                            induction fuel119 with
                            | zero => intro eq9 g5 hfu; exact absurd hfu (Nat.not_lt_zero _)
                            | succ fuel119 ih119 =>
                              intro eq9 g5 hfu heq hk28b hk29b hcp H locs hw hS ls hl
                              refine lv_iload hx hb dX11_findSend_119 (lv_at hl 7 rfl) ?_
                              refine lv_aload_n hx hb dX11_findSend_121 rfl (lv_at hl 0 rfl) ?_
                              refine va_get (D := D) (ci := 11) (v := .int (nI (N 0 1))) (C := RX11) (T := TX11) (N := 35) hx hb hts inX11 hown hK hw.2.1 0 rfl rfl 6 (by decide) (hts _ wd_680) (fun _ h9 => h9) rfl dX11_findSend_122 ?_
                              refine i_icmp_ge (tgt := 148) hx hb (nT (by omega)) (nT (by omega)) dX11_findSend_125 (by decide) (fun c_10 => ?_) (fun c_10 => ?_)
                              · refine n_iinc (lv' := [(4, .int (nI (xq + 1))), (0, .ref h), (1, .int (nI m1)), (2, .int (nI rq)), (3, .int (nI vq)), (5, .int (nI lq)), (6, .int (nI vq)), (7, .int (nI eq9))]) (k := 4) (d := 1) hx hb dX11_findSend_148 hl rfl rfl (by decide) rfl (fun ls hl => ?_)
                                refine lv_goto (tgt := 45) hx hb dX11_findSend_151 (by decide) ?_
                                exact ih45 (xq + 1) (nI vq) g5 (by omega) (by omega) (by rw [scn, hvx, hsx]; simp only []; rw [if_pos (by omega)]; rfl) (fun j hj => by rw [hk28b]; exact hcn j hj) (fun b y hb j hj => by
                                      rw [scn, hvx, hsx] at hb
                                      first | cases hb | (simp only [] at hb; rw [if_pos (by omega)] at hb; cases hb)
                                      exact hcp j (by omega)) _ _ hw hS ls (lv_sub hl [1, 2, 3, 4, 0] rfl)
                              · refine lv_aload_n hx hb dX11_findSend_128 rfl (lv_at hl 0 rfl) ?_
                                refine va_get (D := D) (ci := 11) (v := .ref (a 30)) (C := RX11) (T := TX11) (N := 35) hx hb hts inX11 hown hK hw.2.1 0 rfl rfl 30 (by decide) (hts _ wd_704) (fun _ h9 => h9) rfl dX11_findSend_129 ?_
                                refine lv_iload hx hb dX11_findSend_132 (lv_at hl 7 rfl) ?_
                                refine lv_aload_n hx hb dX11_findSend_134 rfl (lv_at hl 0 rfl) ?_
                                refine va_get (D := D) (ci := 11) (v := .ref (a 29)) (C := RX11) (T := TX11) (N := 35) hx hb hts inX11 hown hK hw.2.1 0 rfl rfl 29 (by decide) (hts _ wd_703) (fun _ h9 => h9) rfl dX11_findSend_135 ?_
                                refine lv_iload hx hb dX11_findSend_138 (lv_at hl 7 rfl) ?_
                                refine n_iald hx hb hK hw.2.1 18 0 rfl rfl (k := eq9) (by omega) (by decide) dX11_findSend_140 ?_
                                rw [hk29b, hrw eq9 (by omega) (by omega)]
                                refine r_iast hx hb hK hw.2.1 hw.2.2 hS 19 0 rfl rfl (k := eq9) (by omega) (by decide) dX11_findSend_141 (fun H locs hP hD hS => ?_)
                                have hw : wdH D z (mw ka h a N C f (va_up g5 30 (upd (g5 30) eq9 (nI (dgt (N 0 2) (N 0 1) xq eq9)))) ++ R) H := ⟨Nat.le_trans hz0 hS.1, hP, hD⟩
                                refine n_iinc (lv' := [(7, .int (nI (eq9 + 1))), (0, .ref h), (1, .int (nI m1)), (2, .int (nI rq)), (3, .int (nI vq)), (4, .int (nI xq)), (5, .int (nI lq)), (6, .int (nI vq))]) (k := 7) (d := 1) hx hb dX11_findSend_142 hl rfl rfl (by decide) rfl (fun ls hl => ?_)
                                refine lv_goto (tgt := 119) hx hb dX11_findSend_145 (by decide) ?_
                                exact ih119 (eq9 + 1) (va_up g5 30 (upd (g5 30) eq9 (nI (dgt (N 0 2) (N 0 1) xq eq9)))) (by omega) (by omega) hk28b hk29b (fun j hj => by
                                      show upd (g5 30) eq9 (nI (dgt (N 0 2) (N 0 1) xq eq9)) j = _
                                      unfold upd
                                      by_cases hj2 : j = eq9
                                      · rw [if_pos hj2, hj2]
                                      · rw [if_neg hj2]; exact hcp j (by omega)) _ _ hw hS ls (lv_sub hl [1, 2, 3, 4, 5, 6, 7, 0] rfl)
                          exact loop119 _ 0 g3 (Nat.lt_succ_self _) (by omega) hk28 rfl (fun j hj => absurd hj (Nat.not_lt_zero _)) _ _ hw hS ls (lv_sub hl [3, 4, 5, 1, 6, 7, 2, 0] rfl)
                  · have hc1 : nI cq - nI 1 = nI (cq - 1) := pk_sub (by omega)
                    rw [hc1] at hl
                    refine lv_aload_n hx hb dX11_findSend_68 rfl (lv_at hl 0 rfl) ?_
                    refine va_get (D := D) (ci := 11) (v := .ref (a 29)) (C := RX11) (T := TX11) (N := 35) hx hb hts inX11 hown hK hw.2.1 0 rfl rfl 29 (by decide) (hts _ wd_703) (fun _ h9 => h9) rfl dX11_findSend_69 ?_
                    refine lv_iload hx hb dX11_findSend_72 (lv_at hl 6 rfl) ?_
                    refine lv_iload hx hb dX11_findSend_74 (lv_at hl 5 rfl) ?_
                    refine lv_aload_n hx hb dX11_findSend_76 rfl (lv_at hl 0 rfl) ?_
                    refine va_get (D := D) (ci := 11) (v := .int (nI (N 0 2))) (C := RX11) (T := TX11) (N := 35) hx hb hts inX11 hown hK hw.2.1 0 rfl rfl 7 (by decide) (hts _ wd_681) (fun _ h9 => h9) rfl dX11_findSend_77 ?_
                    refine lv_iconst (v := nI 1) hx hb dX11_findSend_80 (by decide) ?_
                    refine n_iadd hx hb dX11_findSend_81 ?_
                    refine n_irem hx hb (by omega) (by omega) (by omega) dX11_findSend_82 ?_
                    refine r_iast hx hb hK hw.2.1 hw.2.2 hS 18 0 rfl rfl (k := cq - 1) (by omega) (by decide) dX11_findSend_83 (fun H locs hP hD hS => ?_)
                    have hw : wdH D z (mw ka h a N C f (va_up g3 29 (upd (g3 29) (cq - 1) (nI (lq % ((N 0 2) + 1))))) ++ R) H := ⟨Nat.le_trans hz0 hS.1, hP, hD⟩
                    refine lv_iload hx hb dX11_findSend_84 (lv_at hl 5 rfl) ?_
                    refine lv_aload_n hx hb dX11_findSend_86 rfl (lv_at hl 0 rfl) ?_
                    refine va_get (D := D) (ci := 11) (v := .int (nI (N 0 2))) (C := RX11) (T := TX11) (N := 35) hx hb hts inX11 hown hK hw.2.1 0 rfl rfl 7 (by decide) (hts _ wd_681) (fun _ h9 => h9) rfl dX11_findSend_87 ?_
                    refine lv_iconst (v := nI 1) hx hb dX11_findSend_90 (by decide) ?_
                    refine n_iadd hx hb dX11_findSend_91 ?_
                    refine n_idiv hx hb (by omega) (by omega) (by omega) dX11_findSend_92 ?_
                    refine lv_istore (lv' := [(5, .int (nI (lq / ((N 0 2) + 1)))), (0, .ref h), (1, .int (nI m1)), (2, .int (nI rq)), (3, .int bq), (4, .int (nI xq)), (6, .int (nI (cq - 1)))]) hx hb dX11_findSend_93 hl (by decide) rfl (fun ls hl => ?_)
                    refine lv_iinc (v := nI (cq - 1) - nI 1) (lv' := [(6, .int (nI (cq - 1) - nI 1)), (5, .int (nI (lq / ((N 0 2) + 1)))), (0, .ref h), (1, .int (nI m1)), (2, .int (nI rq)), (3, .int bq), (4, .int (nI xq))]) (k := 6) hx hb dX11_findSend_95 hl rfl (sub1_eq _) (by decide) rfl (fun ls hl => ?_)
                    refine lv_goto (tgt := 63) hx hb dX11_findSend_98 (by decide) ?_
                    exact ih63 (cq - 1) (lq / ((N 0 2) + 1)) (va_up g3 29 (upd (g3 29) (cq - 1) (nI (lq % ((N 0 2) + 1))))) (by omega) (by omega) (by rw [hlq, Nat.div_div_eq_div_mul, ← Nat.pow_succ, show N 0 1 - (cq - 1) = (N 0 1 - cq) + 1 by omega]) hk28 hk30 (fun j h1 h2 => by
                          show upd (g3 29) (cq - 1) (nI (lq % (N 0 2 + 1))) j = _
                          unfold upd
                          by_cases hj : j = cq - 1
                          · rw [if_pos hj, hlq, hj]; unfold dgt; rw [show N 0 1 - 1 - (cq - 1) = N 0 1 - cq by omega]
                          · rw [if_neg hj]; exact hrw j (by omega) h2) _ _ hw hS ls (lv_sub hl [2, 3, 4, 5, 6, 1, 0] rfl)
              exact loop63 _ (N 0 1) xq g1 (Nat.lt_succ_self _) (by omega) (by rw [Nat.sub_self, Nat.pow_zero, Nat.div_one]) rfl rfl (fun j h1 h2 => by omega) _ _ hw hS ls (lv_sub hl [2, 3, 4, 5, 6, 1, 0] rfl)
        exact loop45 _ 0 (-9) g1 (Nat.lt_succ_self _) (by omega) rfl (fun j hj => hcn j (by omega)) (fun b y hb => by cases hb) _ _ hw hS ls (lv_sub hl [2, 3, 4, 1, 0] rfl)
      · refine lv_aload_n hx hb dX11_findSend_12 rfl (lv_at hl 0 rfl) ?_
        refine va_get (D := D) (ci := 11) (v := .ref (a 28)) (C := RX11) (T := TX11) (N := 35) hx hb hts inX11 hown hK hw.2.1 0 rfl rfl 28 (by decide) (hts _ wd_702) (fun _ h9 => h9) rfl dX11_findSend_13 ?_
        refine lv_iload_n hx hb dX11_findSend_16 rfl (lv_at hl 3 rfl) ?_
        refine lv_aload_n hx hb dX11_findSend_17 rfl (lv_at hl 0 rfl) ?_
        refine lv_iload_n hx hb dX11_findSend_18 rfl (lv_at hl 3 rfl) ?_
        refine lv_iload_n hx hb dX11_findSend_19 rfl (lv_at hl 1 rfl) ?_
        refine vp_callSi (ro_runV (c_X11_getsOf l D ka h a N C f g1 R aq m1 (by omega) (by omega) (by omega) hN) X wd_915 wd_912 wd_914 ws_18 wd_8 on_X11_getsOf ⟨Nat.le_of_ble_eq_true rfl, Nat.le_of_ble_eq_true rfl⟩ (va_recv hK hw.2.1 (ci := 11) (q0 := 0) rfl rfl) hw.2.1 hl.1 rfl (Nat.le_of_ble_eq_true rfl) ⟨(Nat.zero_le _), (Nat.zero_le _)⟩ dX11_findSend_20) (fun r_11 hr_11 => ?_)
        subst hr_11
        refine r_iast hx hb hK hw.2.1 hw.2.2 hS 17 0 rfl rfl (k := aq) (by omega) (by decide) dX11_findSend_23 (fun H locs hP hD hS => ?_)
        have hw : wdH D z (mw ka h a N C f (va_up g1 28 (upd (g1 28) aq (nI (gts N aq m1)))) ++ R) H := ⟨Nat.le_trans hz0 hS.1, hP, hD⟩
        refine lv_iload_n hx hb dX11_findSend_24 rfl (lv_at hl 2 rfl) ?_
        refine lv_aload_n hx hb dX11_findSend_25 rfl (lv_at hl 0 rfl) ?_
        refine va_get (D := D) (ci := 11) (v := .int (nI (N 0 2))) (C := RX11) (T := TX11) (N := 35) hx hb hts inX11 hown hK hw.2.1 0 rfl rfl 7 (by decide) (hts _ wd_681) (fun _ h9 => h9) rfl dX11_findSend_26 ?_
        refine lv_iconst (v := nI 1) hx hb dX11_findSend_29 (by decide) ?_
        refine n_iadd hx hb dX11_findSend_30 ?_
        refine n_imul hx hb dX11_findSend_31 ?_
        refine lv_istore_n (lv' := [(2, .int (nI (rq * ((N 0 2) + 1)))), (0, .ref h), (1, .int (nI m1)), (3, .int (nI aq))]) hx hb dX11_findSend_32 rfl hl (by decide) rfl (fun ls hl => ?_)
        refine n_iinc (lv' := [(3, .int (nI (aq + 1))), (2, .int (nI (rq * ((N 0 2) + 1)))), (0, .ref h), (1, .int (nI m1))]) (k := 3) (d := 1) hx hb dX11_findSend_33 hl rfl rfl (by decide) rfl (fun ls hl => ?_)
        refine lv_goto (tgt := 4) hx hb dX11_findSend_36 (by decide) ?_
        exact ih4 (aq + 1) (rq * ((N 0 2) + 1)) (va_up g1 28 (upd (g1 28) aq (nI (gts N aq m1)))) (by omega) (by omega) (by rw [hrq, Nat.pow_succ]) (fun j hj => upd_in (u := (fun a => gts N a m1)) (v := gts N aq m1) rfl hj (hcn j) |>.trans (by unfold upN; split <;> simp_all)) _ _ hw hS ls (lv_sub hl [2, 3, 1, 0] rfl)
  exact loop4 _ 0 1 g (Nat.lt_succ_self _) (by omega) rfl (fun j hj => absurd hj (Nat.not_lt_zero _)) _ _ hw hS ls (lv_sub hl [2, 3, 1, 0] rfl)
set_option maxRecDepth 100000 in
set_option maxHeartbeats 4000000 in
theorem c_X11_send (l : Launch) (D : va_G) (ka : Nat → ClassId) (z : Nat) (h : Nat) (a : Nat → Nat) (N : Nat → Nat → Nat) (C : Nat → Nat → Int32) (f : Nat → Int32) (g : Nat → Nat → Int32) (R : va_W) (q k : Int32) (Q9 K9 : Int) (hq : q.toInt = Q9) (hk : k.toInt = K9) (hN : WF N) : MU l D ka z yX11_send cX11_send 4 (some .int) 4 0 0 [.ref h, .int q, .int k] (mw ka h a N C f g ++ R) (Qi D z (fun r w => ∃ f' g' N' C', w = mw ka h a N' C' f' g' ++ R ∧ (r, N', C') = sp_send N C Q9 K9)) := by
  refine MU.ofI (by decide) (Nat.le_of_ble_eq_true rfl) ?_
  intro p e s m args below meth c Q X hw hS hret ls hl
  obtain ⟨hx, hb, hml, hown, hts, hE⟩ := id X
  have hK := hE.1
  have hz0 := hw.1
  have hl : lv_has ls 4 [(0, .ref h), (1, .int q), (2, .int k)] := hl
  have hN1 := hN.1
  refine lv_iload_n hx hb dX11_send_0 rfl (lv_at hl 1 rfl) ?_
  refine vp_callSi (ro_runS (c_X11_isMinute l D ka q _ hq) X wd_875 wd_873 wd_874 wd_8 on_X11_isMinute ⟨Nat.le_of_ble_eq_true rfl, Nat.le_of_ble_eq_true rfl⟩ trivial hl.1 rfl (Nat.le_of_ble_eq_true rfl) ⟨(Nat.zero_le _), (Nat.zero_le _)⟩ dX11_send_1) (fun r_1 hr_1 => ?_)
  subst hr_1
  refine b_if_eq (tgt := 16) hx hb dX11_send_4 (by decide) (fun c_2 => ?_) (fun c_2 => ?_)
  · refine lv_bipush (v := (-2)) hx hb dX11_send_16 (by decide) ?_
    refine hret _ _ _ _ _ _ _ _ dX11_send_18 hS hw (Nat.zero_le _) (Nat.zero_le _) ?_
    refine ⟨f, g, N, C, rfl, ?_⟩
    unfold sp_send
    rw [if_neg (by omega)]
  · refine lv_iload_n hx hb dX11_send_7 rfl (lv_at hl 2 rfl) ?_
    refine lv_iconst (v := (-1)) hx hb dX11_send_8 (by decide) ?_
    refine lv_iconst (v := nI 4) hx hb dX11_send_9 (by decide) ?_
    refine vp_callSi (ro_runS (c_X11_within l D ka k (-1) (nI 4) _ _ _ hk ng1 (nT (by decide))) X wd_789 wd_787 wd_788 wd_8 on_X11_within ⟨Nat.le_of_ble_eq_true rfl, Nat.le_of_ble_eq_true rfl⟩ trivial hl.1 rfl (Nat.le_of_ble_eq_true rfl) ⟨(Nat.zero_le _), (Nat.zero_le _)⟩ dX11_send_10) (fun r_3 hr_3 => ?_)
    subst hr_3
    refine b_if_ne (tgt := 19) hx hb dX11_send_13 (by decide) (fun c_4 => ?_) (fun c_4 => ?_)
    · refine lv_aload_n hx hb dX11_send_19 rfl (lv_at hl 0 rfl) ?_
      refine va_get (D := D) (ci := 11) (v := .int (nI (N 0 1))) (C := RX11) (T := TX11) (N := 35) hx hb hts inX11 hown hK hw.2.1 0 rfl rfl 6 (by decide) (hts _ wd_680) (fun _ h9 => h9) rfl dX11_send_20 ?_
      refine i_if_ne (tgt := 29) hx hb (nT (by omega)) dX11_send_23 (by decide) (fun c_5 => ?_) (fun c_5 => ?_)
      · obtain ⟨m1, hlt_m1, rfl, rfl⟩ := nat_ofK (n := 60) hq (by omega) (by omega)
        refine lv_aload_n hx hb dX11_send_29 rfl (lv_at hl 0 rfl) ?_
        refine lv_iload_n hx hb dX11_send_30 rfl (lv_at hl 1 rfl) ?_
        refine mu_i (mu_runV (c_X11_findSend l D ka z h a N C f g R m1 (by omega) (by omega) hN) X wd_923 wd_920 wd_922 ws_19 wd_8 on_X11_findSend ⟨Nat.le_of_ble_eq_true rfl, Nat.le_of_ble_eq_true rfl⟩ (va_recv hK hw.2.1 (ci := 11) (q0 := 0) rfl rfl) hw hl.1 rfl (Nat.le_of_ble_eq_true rfl) ⟨Nat.le_of_ble_eq_true rfl, Nat.le_of_ble_eq_true rfl⟩ dX11_send_31) hS (fun r_7 u_6 H locs hp_u_6 hw hS => ?_)
        obtain ⟨f2, g2, rfl, rfl, hfd⟩ := hp_u_6
        have hw : wdH D z (mw ka h a N C f2 g2 ++ R) H := hw
        refine lv_istore_n (lv' := [(3, .int (nI (bsv (fun a => gts N a m1) (N 5) (N 0 2) (N 0 1) 0 0))), (0, .ref h), (1, .int (nI m1)), (2, .int k)]) hx hb dX11_send_34 rfl hl (by decide) rfl (fun ls hl => ?_)
        refine lv_iload_n hx hb dX11_send_35 rfl (lv_at hl 3 rfl) ?_
        refine lv_iconst (v := (-1)) hx hb dX11_send_36 (by decide) ?_
        refine i_icmp_ne (tgt := 42) hx hb hk ng1 dX11_send_37 (by decide) (fun c_8 => ?_) (fun c_8 => ?_)
        · refine lv_iload_n hx hb dX11_send_42 rfl (lv_at hl 3 rfl) ?_
          refine lv_aload_n hx hb dX11_send_43 rfl (lv_at hl 1 rfl) ?_
          refine va_get (D := D) (ci := 11) (v := .int (nI (N 0 1))) (C := RX11) (T := TX11) (N := 35) hx hb hts inX11 hown hK hw.2.1 0 rfl rfl 6 (by decide) (hts _ wd_680) (fun _ h9 => h9) rfl dX11_send_44 ?_
          refine i_icmp_ge (tgt := 72) hx hb hk (nT (by omega)) dX11_send_47 (by decide) (fun c_9 => ?_) (fun c_9 => ?_)
          · refine lv_bipush (v := (-9)) hx hb dX11_send_72 (by decide) ?_
            refine hret _ _ _ _ _ _ _ _ dX11_send_74 hS hw (Nat.zero_le _) (Nat.zero_le _) ?_
            refine ⟨f2, g2, N, C, rfl, ?_⟩
            unfold sp_send
            rw [if_pos (by omega), if_neg (by omega)]
            unfold sndA
            rw [if_neg (by omega), if_neg (fun q => by have := q.1; omega)]
          · obtain ⟨k1, hlt_k1, rfl, rfl⟩ := nat_ofK (n := N 0 1) hk (by omega) (by omega)
            refine lv_aload_n hx hb dX11_send_50 rfl (lv_at hl 1 rfl) ?_
            refine va_get (D := D) (ci := 11) (v := .ref (a 30)) (C := RX11) (T := TX11) (N := 35) hx hb hts inX11 hown hK hw.2.1 0 rfl rfl 30 (by decide) (hts _ wd_704) (fun _ h9 => h9) rfl dX11_send_51 ?_
            refine lv_iload_n hx hb dX11_send_54 rfl (lv_at hl 3 rfl) ?_
            refine n_iald hx hb hK hw.2.1 19 0 rfl rfl (k := k1) (by omega) (by decide) dX11_send_55 ?_
            have hdl := dgt_le (N 0 2) (N 0 1) (grd (fun a => gts N a m1) (N 5) (N 0 2) (N 0 1) 0 0) k1
            rw [hfd k1 (by omega)]
            refine lv_aload_n hx hb dX11_send_56 rfl (lv_at hl 1 rfl) ?_
            refine va_get (D := D) (ci := 11) (v := .int (nI (N 0 2))) (C := RX11) (T := TX11) (N := 35) hx hb hts inX11 hown hK hw.2.1 0 rfl rfl 7 (by decide) (hts _ wd_681) (fun _ h9 => h9) rfl dX11_send_57 ?_
            refine i_icmp_ge (tgt := 72) hx hb (nT (by omega)) (nT (by omega)) dX11_send_60 (by decide) (fun c_10 => ?_) (fun c_10 => ?_)
            · refine lv_bipush (v := (-9)) hx hb dX11_send_72 (by decide) ?_
              refine hret _ _ _ _ _ _ _ _ dX11_send_74 hS hw (Nat.zero_le _) (Nat.zero_le _) ?_
              refine ⟨f2, g2, N, C, rfl, ?_⟩
              unfold sp_send
              rw [if_pos (by omega), if_neg (by omega)]
              unfold sndA
              rw [if_neg (by omega), if_neg]
              · rintro ⟨q1, q2⟩
                first | omega | (have q2 : dgt (N 0 2) (N 0 1) (grd (fun a => gts N a m1) (N 5) (N 0 2) (N 0 1) 0 0) k1 < N 0 2 := q2; omega)
            · refine lv_aload_n hx hb dX11_send_63 rfl (lv_at hl 1 rfl) ?_
              refine va_get (D := D) (ci := 11) (v := .ref (a 30)) (C := RX11) (T := TX11) (N := 35) hx hb hts inX11 hown hK hw.2.1 0 rfl rfl 30 (by decide) (hts _ wd_704) (fun _ h9 => h9) rfl dX11_send_64 ?_
              refine lv_iload_n hx hb dX11_send_67 rfl (lv_at hl 3 rfl) ?_
              refine n_iald hx hb hK hw.2.1 19 0 rfl rfl (k := k1) (by omega) (by decide) dX11_send_68 ?_
              have hdl := dgt_le (N 0 2) (N 0 1) (grd (fun a => gts N a m1) (N 5) (N 0 2) (N 0 1) 0 0) k1
              rw [hfd k1 (by omega)]
              refine lv_goto (tgt := 74) hx hb dX11_send_69 (by decide) ?_
              refine hret _ _ _ _ _ _ _ _ dX11_send_74 hS hw (Nat.zero_le _) (Nat.zero_le _) ?_
              refine ⟨f2, g2, N, C, rfl, ?_⟩
              unfold sp_send
              rw [if_pos (by omega), if_neg (by omega)]
              unfold sndA
              rw [if_neg (by omega), if_pos ⟨by omega, (show dgt (N 0 2) (N 0 1) (grd (fun a => gts N a m1) (N 5) (N 0 2) (N 0 1) 0 0) k1 < N 0 2 by omega)⟩]; rfl
        · refine lv_iload_n hx hb dX11_send_40 rfl (lv_at hl 0 rfl) ?_
          refine hret _ _ _ _ _ _ _ _ dX11_send_41 hS hw (Nat.zero_le _) (Nat.zero_le _) ?_
          refine ⟨f2, g2, N, C, rfl, ?_⟩
          unfold sp_send
          rw [if_pos (by omega), if_neg (by omega)]
          unfold sndA
          rw [if_pos (by omega)]; rfl
      · refine lv_bipush (v := (-3)) hx hb dX11_send_26 (by decide) ?_
        refine hret _ _ _ _ _ _ _ _ dX11_send_28 hS hw (Nat.zero_le _) (Nat.zero_le _) ?_
        refine ⟨f, g, N, C, rfl, ?_⟩
        unfold sp_send
        rw [if_pos (by omega), if_pos (by omega)]
    · refine lv_bipush (v := (-2)) hx hb dX11_send_16 (by decide) ?_
      refine hret _ _ _ _ _ _ _ _ dX11_send_18 hS hw (Nat.zero_le _) (Nat.zero_le _) ?_
      refine ⟨f, g, N, C, rfl, ?_⟩
      unfold sp_send
      rw [if_neg (by omega)]
