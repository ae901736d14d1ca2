section TT
variable {p : Program} {l : Launch} {e : Env} {R : Room} {s : State} {m : MethodId} {args : Array Value} {below : List Frame} {meth : Method} {c : Code} {H : Heap} {locs : List Loc} {cells slots : Nat} {Q : State → Prop}
variable {D : va_G} {ka : Nat → ClassId} {cc : ByteArray} {nL z pc q kd : Nat} {ls : Array Slot} {rest : List Value} {own : String} {index : Nat} {H0 : Heap} {tr : Nat} {tv nu : Int32} {nv mi : Nat} {Rw : va_W}
theorem tk_telling (X : Cx p s m args c cc nL own D ka) (hlink : Cond.methodLink own index yX6_telling ∈ gtb) (hkd : kd ≤ 2) (hnv : nv ≤ 99) (hw : wdH D z (([(tr, .inr (7, [.int (tv)])), (q, .inr (kcl kd, [.int nu, .int (nI nv), .int (nI mi)]))] : va_W) ++ Rw) H) (hS : va_S (fun q => z ≤ q) H0 H locs) (hR : okRoom R 3 3) (hls : ls.size = nL) (hW : (rest.map fun v => v.category).sum ≤ 8) (hf : cells + 0 ≤ R.cells ∧ slots + 0 ≤ R.slots) (hdg : decode cc pc = .ok (.invokevirtual index, 3))
    (kk : ∀ (H1 : Heap) (locs1 : List Loc), wdH D z (([(tr, .inr (7, [.int (tlv kd tv)])), (q, .inr (kcl kd, [.int nu, .int (nI nv), .int (nI mi)]))] : va_W) ++ Rw) H1 → va_S (fun q => z ≤ q) H0 H1 locs1 → W p l e R s m args below meth c H1 locs1 cells slots Q (F0 m (pc + 3) ls (.int (tlr kd nv) :: rest))) : W p l e R s m args below meth c H locs cells slots Q (F0 m pc ls (.ref tr :: .ref q :: rest)) := by
  rcases kcl_or hkd with ⟨rfl, h⟩ | ⟨rfl, h⟩ | ⟨rfl, h⟩ <;> rw [h] at hw kk
  · refine mu_i (mu_runV (c_X6_telling6 l D ka z tr q tv nu nv mi Rw) X wd_637 hlink wd_611 wd_612 wd_9 on_X6_telling ⟨by have := hR.1; omega, by have := hR.2; omega⟩ (va_recv X.2.2.2.2.2.1 hw.2.1 (ci := 6) (q0 := 1) rfl rfl) hw hls rfl hW hf hdg) hS (fun r u H1 locs1 hp hw hS => ?_)
    obtain ⟨rfl, rfl⟩ := hp
    exact kk H1 locs1 hw hS
  · refine mu_i (mu_runU (x := yX6_telling) (C := "FourVault$Singer") (c_X5_telling5 l D ka z tr q tv nu nv mi Rw hnv) X wd_616 wd_637 hlink wd_613 wd_611 wd_614 wd_615 wd_10 on_X6_telling ⟨by have := hR.1; omega, by have := hR.2; omega⟩ (va_recv X.2.2.2.2.2.1 hw.2.1 (ci := 5) (q0 := 1) rfl rfl) hw hls rfl hW hf hdg) hS (fun r u H1 locs1 hp hw hS => ?_)
    obtain ⟨rfl, rfl⟩ := hp
    exact kk H1 locs1 hw hS
  · refine mu_i (mu_runU (x := yX6_telling) (C := "FourVault$Widow") (c_X9_telling9 l D ka z tr q tv nu nv mi Rw hnv) X wd_631 wd_637 hlink wd_613 wd_611 wd_629 wd_630 wd_11 on_X6_telling ⟨by have := hR.1; omega, by have := hR.2; omega⟩ (va_recv X.2.2.2.2.2.1 hw.2.1 (ci := 9) (q0 := 1) rfl rfl) hw hls rfl hW hf hdg) hS (fun r u H1 locs1 hp hw hS => ?_)
    obtain ⟨rfl, rfl⟩ := hp
    rw [show nv + 100 + nv = 2 * nv + 100 by omega]; exact kk H1 locs1 hw hS
theorem tk_rung (X : Cx p s m args c cc nL own D ka) (hlink : Cond.methodLink own index yX6_rung ∈ gtb) (hkd : kd ≤ 2) (hnv : nv ≤ 99) (hw : wdH D z (([(tr, .inr (7, [.int (tv)])), (q, .inr (kcl kd, [.int nu, .int (nI nv), .int (nI mi)]))] : va_W) ++ Rw) H) (hS : va_S (fun q => z ≤ q) H0 H locs) (hR : okRoom R 3 3) (hls : ls.size = nL) (hW : (rest.map fun v => v.category).sum ≤ 8) (hf : cells + 0 ≤ R.cells ∧ slots + 0 ≤ R.slots) (hdg : decode cc pc = .ok (.invokevirtual index, 3))
    (kk : ∀ (H1 : Heap) (locs1 : List Loc), wdH D z (([(tr, .inr (7, [.int (rgv kd tv)])), (q, .inr (kcl kd, [.int nu, .int (nI nv), .int (nI mi)]))] : va_W) ++ Rw) H1 → va_S (fun q => z ≤ q) H0 H1 locs1 → W p l e R s m args below meth c H1 locs1 cells slots Q (F0 m (pc + 3) ls (.int (rgr kd nu) :: rest))) : W p l e R s m args below meth c H locs cells slots Q (F0 m pc ls (.ref tr :: .ref q :: rest)) := by
  rcases kcl_or hkd with ⟨rfl, h⟩ | ⟨rfl, h⟩ | ⟨rfl, h⟩ <;> rw [h] at hw kk
  · refine mu_i (mu_runV (c_X6_rung6 l D ka z tr q tv nu nv mi Rw) X wd_651 hlink wd_644 wd_645 wd_9 on_X6_rung ⟨by have := hR.1; omega, by have := hR.2; omega⟩ (va_recv X.2.2.2.2.2.1 hw.2.1 (ci := 6) (q0 := 1) rfl rfl) hw hls rfl hW hf hdg) hS (fun r u H1 locs1 hp hw hS => ?_)
    obtain ⟨rfl, rfl⟩ := hp
    exact kk H1 locs1 hw hS
  · refine mu_i (mu_runH (x := yX6_rung) (C := "FourVault$Singer") (owner := "FourVault$Taker") (c_X6_rung5 l D ka z tr q tv nu nv mi Rw) X wd_651 hlink wd_646 wd_647 wd_644 wd_9 rfl on_X6_rung ⟨by have := hR.1; omega, by have := hR.2; omega⟩ (va_recv X.2.2.2.2.2.1 hw.2.1 (ci := 5) (q0 := 1) rfl rfl) hw hls rfl hW hf hdg) hS (fun r u H1 locs1 hp hw hS => ?_)
    obtain ⟨rfl, rfl⟩ := hp
    exact kk H1 locs1 hw hS
  · refine mu_i (mu_runU (x := yX6_rung) (C := "FourVault$Widow") (c_X9_rung9 l D ka z tr q tv nu nv mi Rw) X wd_650 wd_651 hlink wd_646 wd_644 wd_648 wd_649 wd_11 on_X6_rung ⟨by have := hR.1; omega, by have := hR.2; omega⟩ (va_recv X.2.2.2.2.2.1 hw.2.1 (ci := 9) (q0 := 1) rfl rfl) hw hls rfl hW hf hdg) hS (fun r u H1 locs1 hp hw hS => ?_)
    obtain ⟨rfl, rfl⟩ := hp
    exact kk H1 locs1 hw hS
end TT
set_option maxRecDepth 100000 in
set_option maxHeartbeats 4000000 in
theorem c_X10_faulted (l : Launch) (D : va_G) (ka : Nat → ClassId) (z : Nat) (h : Nat) (A b nb sb v : Nat → Nat) (ft k : Nat) (hk : k < 5) (R : va_W) : MU l D ka z yX10_faulted cX10_faulted 2 (some .int) 0 0 0 [.ref h, .int (nI k)] (([(h, .inr (10, [.ref (A 0), .ref (A 1), .ref (b 0), .ref (nb 0), .ref (sb 0), .ref (A 2), .ref (v 0), .int (nI ft)]))] : va_W) ++ R) (Qi D z (fun r w => r = -10 - nI k ∧ w = ([(h, .inr (10, [.ref (A 0), .ref (A 1), .ref (b 0), .ref (nb 0), .ref (sb 0), .ref (A 2), .ref (v 0), .int (nI k)]))] : va_W) ++ R)) := by
  refine MU.ofI (by decide) (Nat.le_of_ble_eq_true rfl) ?_
  intro p e s m args below meth c Q X hw hS hret ls hl
  obtain ⟨hx, hb, hml, hown, hts, hE⟩ := id X
  have hK := hE.1
  have hz0 := hw.1
  have hl : lv_has ls 2 [(0, .ref h), (1, .int (nI k))] := hl
  refine lv_aload_n hx hb dX10_faulted_0 rfl (lv_at hl 0 rfl) ?_
  refine lv_iload_n hx hb dX10_faulted_1 rfl (lv_at hl 1 rfl) ?_
  refine va_put (D := D) (ci := 10) (v := .int (nI k)) (ty := .int) (C := RX10) (T := TX10) (N := 8) hx hb hts inX10 tyX10 tyX10_ok nmX10 hown hK hw.2.1 hw.2.2 hS 0 rfl rfl 7 (by decide) (hts _ wd_170) (fun _ h9 => h9) rfl (by decide +kernel) rfl rfl (Nat.le_of_ble_eq_true rfl) dX10_faulted_2 (fun H locs hP hD hS => ?_)
  have hw : wdH D z (([(h, .inr (10, [.ref (A 0), .ref (A 1), .ref (b 0), .ref (nb 0), .ref (sb 0), .ref (A 2), .ref (v 0), .int (nI k)]))] : va_W) ++ R) H := ⟨Nat.le_trans hz0 hS.1, hP, hD⟩
  refine lv_bipush (v := (-10)) hx hb dX10_faulted_5 (by decide) ?_
  refine lv_iload_n hx hb dX10_faulted_7 rfl (lv_at hl 1 rfl) ?_
  refine lv_isub hx hb dX10_faulted_8 ?_
  exact hret _ _ _ _ _ _ _ _ dX10_faulted_9 hS hw (Nat.zero_le _) (Nat.zero_le _) ⟨rfl, rfl⟩
set_option maxRecDepth 100000 in
set_option maxHeartbeats 4000000 in
theorem c_X10_lost (l : Launch) (D : va_G) (ka : Nat → ClassId) (z : Nat) (h : Nat) (A b nb sb v : Nat → Nat) (ft k : Nat) (hk : k < 5) (R : va_W) : MU l D ka z yX10_lost cX10_lost 2 (some .long) 0 0 0 [.ref h, .int (nI k)] (([(h, .inr (10, [.ref (A 0), .ref (A 1), .ref (b 0), .ref (nb 0), .ref (sb 0), .ref (A 2), .ref (v 0), .int (nI ft)]))] : va_W) ++ R) (Ql D z (fun r w => r = LOSTV ∧ w = ([(h, .inr (10, [.ref (A 0), .ref (A 1), .ref (b 0), .ref (nb 0), .ref (sb 0), .ref (A 2), .ref (v 0), .int (nI k)]))] : va_W) ++ R)) := by
  refine MU.ofL (by decide) (Nat.le_of_ble_eq_true rfl) ?_
  intro p e s m args below meth c Q X hw hS hret ls hl
  obtain ⟨hx, hb, hml, hown, hts, hE⟩ := id X
  have hK := hE.1
  have hz0 := hw.1
  have hl : lv_has ls 2 [(0, .ref h), (1, .int (nI k))] := hl
  refine lv_aload_n hx hb dX10_lost_0 rfl (lv_at hl 0 rfl) ?_
  refine lv_iload_n hx hb dX10_lost_1 rfl (lv_at hl 1 rfl) ?_
  refine va_put (D := D) (ci := 10) (v := .int (nI k)) (ty := .int) (C := RX10) (T := TX10) (N := 8) hx hb hts inX10 tyX10 tyX10_ok nmX10 hown hK hw.2.1 hw.2.2 hS 0 rfl rfl 7 (by decide) (hts _ wd_170) (fun _ h9 => h9) rfl (by decide +kernel) rfl rfl (Nat.le_of_ble_eq_true rfl) dX10_lost_2 (fun H locs hP hD hS => ?_)
  have hw : wdH D z (([(h, .inr (10, [.ref (A 0), .ref (A 1), .ref (b 0), .ref (nb 0), .ref (sb 0), .ref (A 2), .ref (v 0), .int (nI k)]))] : va_W) ++ R) H := ⟨Nat.le_trans hz0 hS.1, hP, hD⟩
  refine lv_ldc2 (v := (-9223372036854775808 : Int64)) hx hb hown (hts _ wd_549) dX10_lost_5 ?_
  exact hret _ _ _ _ _ _ _ _ dX10_lost_8 hS hw (Nat.zero_le _) (Nat.zero_le _) ⟨rfl, rfl⟩
set_option maxRecDepth 100000 in
set_option maxHeartbeats 4000000 in
theorem c_X10_hush (l : Launch) (D : va_G) (ka : Nat → ClassId) (z : Nat) (h : Nat) (A b nb sb : Nat → Nat) (v ta : Nat → Nat) (N : NN) (wf df : Nat → Int32) (tf : Nat → Option Nat) (hV : VR N ta wf df tf) (hN : WF N) (hL : N 0 5 = 0)(k : Int32) (K9 : Int) (hk : k.toInt = K9)(q : Int32) (Q9 : Int) (hq : q.toInt = Q9) (C : CC) (R : va_W) : MU l D ka z yX10_hush cX10_hush 4 (some .int) 1 0 0 [.ref h, .int k, .int q] (([(h, .inr (10, [.ref (A 0), .ref (A 1), .ref (b 0), .ref (nb 0), .ref (sb 0), .ref (A 2), .ref (v 0), .int (nI (N 0 4))])), ((v 0), .inr (8, [.ref (v 1), .ref (v 2), .ref (v 3), .int (nI (N 0 0)), .int (nI (N 0 1)), .int (nI (N 0 2))])), ((v 1), .inl (ka 0, 6, .inl (wf))), ((v 2), .inl (ka 2, 5, .inr (.inr (.inr (.inr (tf)))))), ((v 3), .inl (ka 0, 5, .inl (df)))] : va_W) ++ (tkw ta N (N 0 1) ++ R)) (Qi D z (fun r w => ∃ N' C' wf', w = ([(h, .inr (10, [.ref (A 0), .ref (A 1), .ref (b 0), .ref (nb 0), .ref (sb 0), .ref (A 2), .ref (v 0), .int (nI (N' 0 4))]))] : va_W) ++ (vlw ka v (N' 0 0) (N' 0 1) (N' 0 2) wf' df tf ++ (tkw ta N' (N' 0 1) ++ R)) ∧ VR N' ta wf' df tf ∧ (r, N', C') = sp_hush N C K9 Q9)) := by
  refine MU.ofI (by decide) (Nat.le_of_ble_eq_true rfl) ?_
  intro p e s m args below meth c Q X hw hS hret ls hl
  obtain ⟨hx, hb, hml, hown, hts, hE⟩ := id X
  have hK := hE.1
  have hz0 := hw.1
  have hl : lv_has ls 4 [(0, .ref h), (1, .int k), (2, .int q)] := hl
  have hN1 := hN.1
  have hP : va_P D vwCl (kw ka v ta N wf df tf) s.heap := kw_of (w := [(h, .inr (10, [.ref (A 0), .ref (A 1), .ref (b 0), .ref (nb 0), .ref (sb 0), .ref (A 2), .ref (v 0), .int (nI (N 0 4))]))]) (R := R) hw.2.1
  refine lv_aload_n hx hb dX10_hush_0 rfl (lv_at hl 0 rfl) ?_
  refine va_get (D := D) (ci := 10) (v := .ref (v 0)) (C := RX10) (T := TX10) (N := 8) hx hb hts inX10 hown hK hw.2.1 0 rfl rfl 6 (by decide) (hts _ wd_169) (fun _ h9 => h9) rfl dX10_hush_1 ?_
  refine lv_iload_n hx hb dX10_hush_4 rfl (lv_at hl 1 rfl) ?_
  refine vp_callSi (ro_runV (c_X8_isPlace l D ka v ta N wf df tf hV hN k _ hk) X wd_338 wd_335 wd_336 wd_337 wd_3 on_X8_isPlace ⟨Nat.le_of_ble_eq_true rfl, Nat.le_of_ble_eq_true rfl⟩ (va_recv hK hP (ci := 8) (q0 := 0) rfl rfl) hP hl.1 rfl (Nat.le_of_ble_eq_true rfl) ⟨(Nat.zero_le _), (Nat.zero_le _)⟩ dX10_hush_5) (fun r_1 hr_1 => ?_)
  subst hr_1
  refine b_if_ne (tgt := 13) hx hb dX10_hush_8 (by decide) (fun c_2 => ?_) (fun c_2 => ?_)
  · refine lv_iload_n hx hb dX10_hush_13 rfl (lv_at hl 2 rfl) ?_
    refine i_if_lt (tgt := 23) hx hb hq dX10_hush_14 (by decide) (fun c_3 => ?_) (fun c_3 => ?_)
    · refine lv_bipush (v := (-2)) hx hb dX10_hush_23 (by decide) ?_
      refine hret _ _ _ _ _ _ _ _ dX10_hush_25 hS hw (Nat.zero_le _) (Nat.zero_le _) ⟨N, C, wf, rfl, hV, ?_⟩
      unfold sp_hush
      (repeat' split) <;> first | rfl | (exfalso; omega)
    · refine lv_iload_n hx hb dX10_hush_17 rfl (lv_at hl 2 rfl) ?_
      refine lv_bipush (v := nI 9) hx hb dX10_hush_18 (by decide) ?_
      refine i_icmp_le (tgt := 26) hx hb hq (nT (by decide)) dX10_hush_20 (by decide) (fun c_4 => ?_) (fun c_4 => ?_)
      · obtain ⟨jq, hlt_jq, rfl, rfl⟩ := nat_ofK (n := N 0 0) hk (by omega) (by omega)
        obtain ⟨xq, hlt_xq, rfl, rfl⟩ := nat_ofK (n := 10) hq (by omega) (by omega)
        refine lv_aload_n hx hb dX10_hush_26 rfl (lv_at hl 0 rfl) ?_
        refine va_get (D := D) (ci := 10) (v := .ref (v 0)) (C := RX10) (T := TX10) (N := 8) hx hb hts inX10 hown hK hw.2.1 0 rfl rfl 6 (by decide) (hts _ wd_169) (fun _ h9 => h9) rfl dX10_hush_27 ?_
        refine va_get (D := D) (ci := 8) (v := .ref (v 1)) (C := RX8) (T := TX8) (N := 6) hx hb hts inX8 hown hK hw.2.1 1 rfl rfl 0 (by decide) (hts _ wd_40) (fun _ h9 => h9) rfl dX10_hush_30 ?_
        refine lv_iload_n hx hb dX10_hush_33 rfl (lv_at hl 1 rfl) ?_
        refine n_iald hx hb hK hP 1 0 rfl rfl (k := jq) (by omega) (by decide) dX10_hush_34 ?_
        rw [hV.1 jq (by omega)]
        have hv_5 := hN.2.1 jq
        refine lv_istore_n (lv' := [(3, .int (nI (N 1 jq))), (0, .ref h), (1, .int (nI jq)), (2, .int (nI xq))]) hx hb dX10_hush_35 rfl hl (by decide) rfl (fun ls hl => ?_)
        refine lv_aload_n hx hb dX10_hush_36 rfl (lv_at hl 1 rfl) ?_
        refine va_get (D := D) (ci := 10) (v := .ref (v 0)) (C := RX10) (T := TX10) (N := 8) hx hb hts inX10 hown hK hw.2.1 0 rfl rfl 6 (by decide) (hts _ wd_169) (fun _ h9 => h9) rfl dX10_hush_37 ?_
        refine va_get (D := D) (ci := 8) (v := .ref (v 1)) (C := RX8) (T := TX8) (N := 6) hx hb hts inX8 hown hK hw.2.1 1 rfl rfl 0 (by decide) (hts _ wd_40) (fun _ h9 => h9) rfl dX10_hush_40 ?_
        refine lv_iload_n hx hb dX10_hush_43 rfl (lv_at hl 2 rfl) ?_
        refine lv_iload_n hx hb dX10_hush_44 rfl (lv_at hl 3 rfl) ?_
        refine r_iast hx hb hK hw.2.1 hw.2.2 hS 2 0 rfl rfl (k := jq) (by omega) (by decide) dX10_hush_45 (fun H locs hP hD hS => ?_)
        have hw : wdH D z (([(h, .inr (10, [.ref (A 0), .ref (A 1), .ref (b 0), .ref (nb 0), .ref (sb 0), .ref (A 2), .ref (v 0), .int (nI (N 0 4))])), ((v 0), .inr (8, [.ref (v 1), .ref (v 2), .ref (v 3), .int (nI (N 0 0)), .int (nI (N 0 1)), .int (nI (N 0 2))])), ((v 1), .inl (ka 0, 6, .inl (upd wf jq (nI xq)))), ((v 2), .inl (ka 2, 5, .inr (.inr (.inr (.inr (tf)))))), ((v 3), .inl (ka 0, 5, .inl (df)))] : va_W) ++ (tkw ta N (N 0 1) ++ R)) H := ⟨Nat.le_trans hz0 hS.1, hP, hD⟩
        have hP : va_P D vwCl (kw ka v ta N (upd wf jq (nI xq)) df tf) H := kw_of (w := [(h, .inr (10, [.ref (A 0), .ref (A 1), .ref (b 0), .ref (nb 0), .ref (sb 0), .ref (A 2), .ref (v 0), .int (nI (N 0 4))]))]) (R := R) hw.2.1
        refine lv_iload_n hx hb dX10_hush_46 rfl (lv_at hl 0 rfl) ?_
        refine hret _ _ _ _ _ _ _ _ dX10_hush_47 hS hw (Nat.zero_le _) (Nat.zero_le _) ⟨up N 1 jq xq, C, upd wf jq (nI xq), rfl, hV.up1, ?_⟩
        unfold sp_hush
        (repeat' split) <;> first | rfl | (exfalso; omega)
      · refine lv_bipush (v := (-2)) hx hb dX10_hush_23 (by decide) ?_
        refine hret _ _ _ _ _ _ _ _ dX10_hush_25 hS hw (Nat.zero_le _) (Nat.zero_le _) ⟨N, C, wf, rfl, hV, ?_⟩
        unfold sp_hush
        (repeat' split) <;> first | rfl | (exfalso; omega)
  · refine lv_iconst (v := (-1)) hx hb dX10_hush_11 (by decide) ?_
    refine hret _ _ _ _ _ _ _ _ dX10_hush_12 hS hw (Nat.zero_le _) (Nat.zero_le _) ⟨N, C, wf, rfl, hV, ?_⟩
    unfold sp_hush
    (repeat' split) <;> first | rfl | (exfalso; omega)
set_option maxRecDepth 100000 in
set_option maxHeartbeats 4000000 in
theorem c_X10_think (l : Launch) (D : va_G) (ka : Nat → ClassId) (z : Nat) (h : Nat) (A b nb sb : Nat → Nat) (v ta : Nat → Nat) (N : NN) (wf df : Nat → Int32) (tf : Nat → Option Nat) (hV : VR N ta wf df tf) (hN : WF N) (hL : N 0 5 = 0)(k : Int32) (K9 : Int) (hk : k.toInt = K9)(q : Int32) (Q9 : Int) (hq : q.toInt = Q9) (C : CC) (R : va_W) : MU l D ka z yX10_think cX10_think 5 (some .int) 1 0 0 [.ref h, .int k, .int q] (([(h, .inr (10, [.ref (A 0), .ref (A 1), .ref (b 0), .ref (nb 0), .ref (sb 0), .ref (A 2), .ref (v 0), .int (nI (N 0 4))])), ((v 0), .inr (8, [.ref (v 1), .ref (v 2), .ref (v 3), .int (nI (N 0 0)), .int (nI (N 0 1)), .int (nI (N 0 2))])), ((v 1), .inl (ka 0, 6, .inl (wf))), ((v 2), .inl (ka 2, 5, .inr (.inr (.inr (.inr (tf)))))), ((v 3), .inl (ka 0, 5, .inl (df)))] : va_W) ++ (tkw ta N (N 0 1) ++ R)) (Qi D z (fun r w => ∃ N' C', w = ([(h, .inr (10, [.ref (A 0), .ref (A 1), .ref (b 0), .ref (nb 0), .ref (sb 0), .ref (A 2), .ref (v 0), .int (nI (N' 0 4))]))] : va_W) ++ (vlw ka v (N' 0 0) (N' 0 1) (N' 0 2) wf df tf ++ (tkw ta N' (N' 0 1) ++ R)) ∧ VR N' ta wf df tf ∧ (r, N', C') = sp_think N C K9 Q9)) := by
  refine MU.ofI (by decide) (Nat.le_of_ble_eq_true rfl) ?_
  intro p e s m args below meth c Q X hw hS hret ls hl
  obtain ⟨hx, hb, hml, hown, hts, hE⟩ := id X
  have hK := hE.1
  have hz0 := hw.1
  have hl : lv_has ls 5 [(0, .ref h), (1, .int k), (2, .int q)] := hl
  have hN1 := hN.1
  have hP : va_P D vwCl (kw ka v ta N wf df tf) s.heap := kw_of (w := [(h, .inr (10, [.ref (A 0), .ref (A 1), .ref (b 0), .ref (nb 0), .ref (sb 0), .ref (A 2), .ref (v 0), .int (nI (N 0 4))]))]) (R := R) hw.2.1
  refine lv_aload_n hx hb dX10_think_0 rfl (lv_at hl 0 rfl) ?_
  refine va_get (D := D) (ci := 10) (v := .ref (v 0)) (C := RX10) (T := TX10) (N := 8) hx hb hts inX10 hown hK hw.2.1 0 rfl rfl 6 (by decide) (hts _ wd_169) (fun _ h9 => h9) rfl dX10_think_1 ?_
  refine lv_iload_n hx hb dX10_think_4 rfl (lv_at hl 1 rfl) ?_
  refine va_csq (ro_runV (c_X8_takerAt l D ka v ta N wf df tf hV hN k _ hk) X wd_311 wd_308 wd_309 wd_310 wd_3 on_X8_takerAt ⟨Nat.le_of_ble_eq_true rfl, Nat.le_of_ble_eq_true rfl⟩ (va_recv hK hP (ci := 8) (q0 := 0) rfl rfl) hP hl.1 rfl (Nat.le_of_ble_eq_true rfl) ⟨(Nat.zero_le _), (Nat.zero_le _)⟩ dX10_think_5) (fun r_1 hr_1 => ?_)
  subst hr_1
  by_cases ct_2 : 0 ≤ K9 ∧ K9 < ((N 0 1 : Nat) : Int)
  · rw [if_pos ct_2]
    obtain ⟨jq, hlt_jq, rfl, rfl⟩ := nat_ofK (n := N 0 1) hk (by omega) (by omega)
    refine W.eq (g2 := F0 m 8 ls [.ref (ta jq)]) rfl ?_
    refine lv_astore_n (lv' := [(3, .ref (ta jq)), (0, .ref h), (1, .int (nI jq)), (2, .int q)]) hx hb dX10_think_8 rfl hl (by decide) rfl (fun ls hl => ?_)
    refine lv_aload_n hx hb dX10_think_9 rfl (lv_at hl 0 rfl) ?_
    refine lv_ifnonnull (tgt := 15) hx hb dX10_think_10 (by decide) ?_
    refine lv_iload_n hx hb dX10_think_15 rfl (lv_at hl 3 rfl) ?_
    refine i_if_lt (tgt := 25) hx hb hq dX10_think_16 (by decide) (fun c_3 => ?_) (fun c_3 => ?_)
    · refine lv_bipush (v := (-2)) hx hb dX10_think_25 (by decide) ?_
      refine hret _ _ _ _ _ _ _ _ dX10_think_27 hS hw (Nat.zero_le _) (Nat.zero_le _) ⟨N, C, rfl, hV, ?_⟩
      unfold sp_think
      (repeat' split) <;> first | rfl | (exfalso; omega)
    · refine lv_iload_n hx hb dX10_think_19 rfl (lv_at hl 3 rfl) ?_
      refine lv_bipush (v := nI 9) hx hb dX10_think_20 (by decide) ?_
      refine i_icmp_le (tgt := 28) hx hb hq (nT (by decide)) dX10_think_22 (by decide) (fun c_4 => ?_) (fun c_4 => ?_)
      · obtain ⟨xq, hlt_xq, rfl, rfl⟩ := nat_ofK (n := 10) hq (by omega) (by omega)
        refine lv_aload_n hx hb dX10_think_28 rfl (lv_at hl 0 rfl) ?_
        refine tk_get X hP (kw_tk (a := jq) (by omega)) (kd := N 2 jq) (hN.2.2.1 jq) 2 (by decide) wd_279 (v := .int (nI (N 4 jq))) rfl dX10_think_29 ?_
        have hv_5 := hN.2.2.2.2.1 jq
        refine lv_istore (lv' := [(4, .int (nI (N 4 jq))), (3, .ref (ta jq)), (0, .ref h), (1, .int (nI jq)), (2, .int (nI xq))]) hx hb dX10_think_32 hl (by decide) rfl (fun ls hl => ?_)
        refine lv_aload_n hx hb dX10_think_34 rfl (lv_at hl 1 rfl) ?_
        refine lv_iload_n hx hb dX10_think_35 rfl (lv_at hl 4 rfl) ?_
        refine tk_put X hw.2.1 hw.2.2 hS (q0 := 5 + jq) (kd := N 2 jq) (tk_atL (L := [(h, .inr (10, [.ref (A 0), .ref (A 1), .ref (b 0), .ref (nb 0), .ref (sb 0), .ref (A 2), .ref (v 0), .int (nI (N 0 4))])), ((v 0), .inr (8, [.ref (v 1), .ref (v 2), .ref (v 3), .int (nI (N 0 0)), .int (nI (N 0 1)), .int (nI (N 0 2))])), ((v 1), .inl (ka 0, 6, .inl (wf))), ((v 2), .inl (ka 2, 5, .inr (.inr (.inr (.inr (tf)))))), ((v 3), .inl (ka 0, 5, .inl (df)))]) (R := R) (j := jq) rfl (by omega)) (hN.2.2.1 jq) 2 (by decide) wd_279 (v := nI xq) (Nat.le_of_ble_eq_true rfl) dX10_think_36 (fun H locs hP hD hS => ?_)
        have e9 := tk_setL (L := [(h, .inr (10, [.ref (A 0), .ref (A 1), .ref (b 0), .ref (nb 0), .ref (sb 0), .ref (A 2), .ref (v 0), .int (nI (N 0 4))])), ((v 0), .inr (8, [.ref (v 1), .ref (v 2), .ref (v 3), .int (nI (N 0 0)), .int (nI (N 0 1)), .int (nI (N 0 2))])), ((v 1), .inl (ka 0, 6, .inl (wf))), ((v 2), .inl (ka 2, 5, .inr (.inr (.inr (.inr (tf)))))), ((v 3), .inl (ka 0, 5, .inl (df)))]) (R := R) (ta := ta) (ta' := ta) (N := N) (N' := up N 4 jq xq) (n := N 0 1) (j := jq) (q0 := 5 + jq) (x := (ta jq, .inr (kcl (N 2 jq), [.int (nI jq), .int (nI (N 3 jq)), .int (nI xq)]))) rfl (by omega) (by simp [tkc, up, upN]) up_rows
        have hP := (congrArg (fun w9 => va_P D vwCl w9 H) e9).mp hP
        have hD := (congrArg (fun w9 => va_D (fun q => z ≤ q) w9) e9).mp hD
        have hw : wdH D z (([(h, .inr (10, [.ref (A 0), .ref (A 1), .ref (b 0), .ref (nb 0), .ref (sb 0), .ref (A 2), .ref (v 0), .int (nI (N 0 4))])), ((v 0), .inr (8, [.ref (v 1), .ref (v 2), .ref (v 3), .int (nI (N 0 0)), .int (nI (N 0 1)), .int (nI (N 0 2))])), ((v 1), .inl (ka 0, 6, .inl (wf))), ((v 2), .inl (ka 2, 5, .inr (.inr (.inr (.inr (tf)))))), ((v 3), .inl (ka 0, 5, .inl (df)))] : va_W) ++ (tkw ta (up N 4 jq xq) (N 0 1) ++ R)) H := ⟨Nat.le_trans hz0 hS.1, hP, hD⟩
        have hP : va_P D vwCl (kw ka v ta (up N 4 jq xq) wf df tf) H := kw_of (w := [(h, .inr (10, [.ref (A 0), .ref (A 1), .ref (b 0), .ref (nb 0), .ref (sb 0), .ref (A 2), .ref (v 0), .int (nI (N 0 4))]))]) (R := R) hw.2.1
        refine lv_iload hx hb dX10_think_39 (lv_at hl 0 rfl) ?_
        refine hret _ _ _ _ _ _ _ _ dX10_think_41 hS hw (Nat.zero_le _) (Nat.zero_le _) ⟨(up N 4 jq xq), C, rfl, hV, ?_⟩
        unfold sp_think
        (repeat' split) <;> first | rfl | (exfalso; omega)
      · refine lv_bipush (v := (-2)) hx hb dX10_think_25 (by decide) ?_
        refine hret _ _ _ _ _ _ _ _ dX10_think_27 hS hw (Nat.zero_le _) (Nat.zero_le _) ⟨N, C, rfl, hV, ?_⟩
        unfold sp_think
        (repeat' split) <;> first | rfl | (exfalso; omega)
  · rw [if_neg ct_2]
    refine W.eq (g2 := F0 m 8 ls [.null]) rfl ?_
    refine lv_astore_nN (lv' := [(3, .null), (0, .ref h), (1, .int k), (2, .int q)]) hx hb dX10_think_8 rfl hl (by decide) rfl (fun ls hl => ?_)
    refine lv_aload_nN hx hb dX10_think_9 rfl (lv_at hl 0 rfl) ?_
    refine lv_ifnonnullN hx hb dX10_think_10 ?_
    refine lv_iconst (v := (-1)) hx hb dX10_think_13 (by decide) ?_
    refine hret _ _ _ _ _ _ _ _ dX10_think_14 hS hw (Nat.zero_le _) (Nat.zero_le _) ⟨N, C, rfl, hV, ?_⟩
    unfold sp_think
    (repeat' split) <;> first | rfl | (exfalso; omega)
set_option maxRecDepth 100000 in
set_option maxHeartbeats 4000000 in
theorem c_X10_brace (l : Launch) (D : va_G) (ka : Nat → ClassId) (z : Nat) (h : Nat) (A b nb sb : Nat → Nat) (v ta : Nat → Nat) (N : NN) (wf df : Nat → Int32) (tf : Nat → Option Nat) (hV : VR N ta wf df tf) (hN : WF N) (hL : N 0 5 = 0)(k : Int32) (K9 : Int) (hk : k.toInt = K9)(q : Int32) (Q9 : Int) (hq : q.toInt = Q9) (C : CC) (R : va_W) : MU l D ka z yX10_brace cX10_brace 5 (some .int) 1 0 0 [.ref h, .int k, .int q] (([(h, .inr (10, [.ref (A 0), .ref (A 1), .ref (b 0), .ref (nb 0), .ref (sb 0), .ref (A 2), .ref (v 0), .int (nI (N 0 4))])), ((v 0), .inr (8, [.ref (v 1), .ref (v 2), .ref (v 3), .int (nI (N 0 0)), .int (nI (N 0 1)), .int (nI (N 0 2))])), ((v 1), .inl (ka 0, 6, .inl (wf))), ((v 2), .inl (ka 2, 5, .inr (.inr (.inr (.inr (tf)))))), ((v 3), .inl (ka 0, 5, .inl (df)))] : va_W) ++ (tkw ta N (N 0 1) ++ R)) (Qi D z (fun r w => ∃ N' C', w = ([(h, .inr (10, [.ref (A 0), .ref (A 1), .ref (b 0), .ref (nb 0), .ref (sb 0), .ref (A 2), .ref (v 0), .int (nI (N' 0 4))]))] : va_W) ++ (vlw ka v (N' 0 0) (N' 0 1) (N' 0 2) wf df tf ++ (tkw ta N' (N' 0 1) ++ R)) ∧ VR N' ta wf df tf ∧ (r, N', C') = sp_brace N C K9 Q9)) := by
  refine MU.ofI (by decide) (Nat.le_of_ble_eq_true rfl) ?_
  intro p e s m args below meth c Q X hw hS hret ls hl
  obtain ⟨hx, hb, hml, hown, hts, hE⟩ := id X
  have hK := hE.1
  have hz0 := hw.1
  have hl : lv_has ls 5 [(0, .ref h), (1, .int k), (2, .int q)] := hl
  have hN1 := hN.1
  have hP : va_P D vwCl (kw ka v ta N wf df tf) s.heap := kw_of (w := [(h, .inr (10, [.ref (A 0), .ref (A 1), .ref (b 0), .ref (nb 0), .ref (sb 0), .ref (A 2), .ref (v 0), .int (nI (N 0 4))]))]) (R := R) hw.2.1
  refine lv_aload_n hx hb dX10_brace_0 rfl (lv_at hl 0 rfl) ?_
  refine va_get (D := D) (ci := 10) (v := .ref (v 0)) (C := RX10) (T := TX10) (N := 8) hx hb hts inX10 hown hK hw.2.1 0 rfl rfl 6 (by decide) (hts _ wd_169) (fun _ h9 => h9) rfl dX10_brace_1 ?_
  refine lv_iload_n hx hb dX10_brace_4 rfl (lv_at hl 1 rfl) ?_
  refine va_csq (ro_runV (c_X8_takerAt l D ka v ta N wf df tf hV hN k _ hk) X wd_311 wd_308 wd_309 wd_310 wd_3 on_X8_takerAt ⟨Nat.le_of_ble_eq_true rfl, Nat.le_of_ble_eq_true rfl⟩ (va_recv hK hP (ci := 8) (q0 := 0) rfl rfl) hP hl.1 rfl (Nat.le_of_ble_eq_true rfl) ⟨(Nat.zero_le _), (Nat.zero_le _)⟩ dX10_brace_5) (fun r_1 hr_1 => ?_)
  subst hr_1
  by_cases ct_2 : 0 ≤ K9 ∧ K9 < ((N 0 1 : Nat) : Int)
  · rw [if_pos ct_2]
    obtain ⟨jq, hlt_jq, rfl, rfl⟩ := nat_ofK (n := N 0 1) hk (by omega) (by omega)
    refine W.eq (g2 := F0 m 8 ls [.ref (ta jq)]) rfl ?_
    refine lv_astore_n (lv' := [(3, .ref (ta jq)), (0, .ref h), (1, .int (nI jq)), (2, .int q)]) hx hb dX10_brace_8 rfl hl (by decide) rfl (fun ls hl => ?_)
    refine lv_aload_n hx hb dX10_brace_9 rfl (lv_at hl 0 rfl) ?_
    refine lv_ifnonnull (tgt := 15) hx hb dX10_brace_10 (by decide) ?_
    refine lv_iload_n hx hb dX10_brace_15 rfl (lv_at hl 3 rfl) ?_
    refine i_if_lt (tgt := 25) hx hb hq dX10_brace_16 (by decide) (fun c_3 => ?_) (fun c_3 => ?_)
    · refine lv_bipush (v := (-2)) hx hb dX10_brace_25 (by decide) ?_
      refine hret _ _ _ _ _ _ _ _ dX10_brace_27 hS hw (Nat.zero_le _) (Nat.zero_le _) ⟨N, C, rfl, hV, ?_⟩
      unfold sp_brace
      (repeat' split) <;> first | rfl | (exfalso; omega)
    · refine lv_iload_n hx hb dX10_brace_19 rfl (lv_at hl 3 rfl) ?_
      refine lv_bipush (v := nI 99) hx hb dX10_brace_20 (by decide) ?_
      refine i_icmp_le (tgt := 28) hx hb hq (nT (by decide)) dX10_brace_22 (by decide) (fun c_4 => ?_) (fun c_4 => ?_)
      · obtain ⟨xq, hlt_xq, rfl, rfl⟩ := nat_ofK (n := 100) hq (by omega) (by omega)
        refine lv_aload_n hx hb dX10_brace_28 rfl (lv_at hl 0 rfl) ?_
        refine tk_get X hP (kw_tk (a := jq) (by omega)) (kd := N 2 jq) (hN.2.2.1 jq) 1 (by decide) wd_272 (v := .int (nI (N 3 jq))) rfl dX10_brace_29 ?_
        have hv_5 := hN.2.2.2.1 jq
        refine lv_istore (lv' := [(4, .int (nI (N 3 jq))), (3, .ref (ta jq)), (0, .ref h), (1, .int (nI jq)), (2, .int (nI xq))]) hx hb dX10_brace_32 hl (by decide) rfl (fun ls hl => ?_)
        refine lv_aload_n hx hb dX10_brace_34 rfl (lv_at hl 1 rfl) ?_
        refine lv_iload_n hx hb dX10_brace_35 rfl (lv_at hl 4 rfl) ?_
        refine tk_put X hw.2.1 hw.2.2 hS (q0 := 5 + jq) (kd := N 2 jq) (tk_atL (L := [(h, .inr (10, [.ref (A 0), .ref (A 1), .ref (b 0), .ref (nb 0), .ref (sb 0), .ref (A 2), .ref (v 0), .int (nI (N 0 4))])), ((v 0), .inr (8, [.ref (v 1), .ref (v 2), .ref (v 3), .int (nI (N 0 0)), .int (nI (N 0 1)), .int (nI (N 0 2))])), ((v 1), .inl (ka 0, 6, .inl (wf))), ((v 2), .inl (ka 2, 5, .inr (.inr (.inr (.inr (tf)))))), ((v 3), .inl (ka 0, 5, .inl (df)))]) (R := R) (j := jq) rfl (by omega)) (hN.2.2.1 jq) 1 (by decide) wd_272 (v := nI xq) (Nat.le_of_ble_eq_true rfl) dX10_brace_36 (fun H locs hP hD hS => ?_)
        have e9 := tk_setL (L := [(h, .inr (10, [.ref (A 0), .ref (A 1), .ref (b 0), .ref (nb 0), .ref (sb 0), .ref (A 2), .ref (v 0), .int (nI (N 0 4))])), ((v 0), .inr (8, [.ref (v 1), .ref (v 2), .ref (v 3), .int (nI (N 0 0)), .int (nI (N 0 1)), .int (nI (N 0 2))])), ((v 1), .inl (ka 0, 6, .inl (wf))), ((v 2), .inl (ka 2, 5, .inr (.inr (.inr (.inr (tf)))))), ((v 3), .inl (ka 0, 5, .inl (df)))]) (R := R) (ta := ta) (ta' := ta) (N := N) (N' := up N 3 jq xq) (n := N 0 1) (j := jq) (q0 := 5 + jq) (x := (ta jq, .inr (kcl (N 2 jq), [.int (nI jq), .int (nI xq), .int (nI (N 4 jq))]))) rfl (by omega) (by simp [tkc, up, upN]) up_rows
        have hP := (congrArg (fun w9 => va_P D vwCl w9 H) e9).mp hP
        have hD := (congrArg (fun w9 => va_D (fun q => z ≤ q) w9) e9).mp hD
        have hw : wdH D z (([(h, .inr (10, [.ref (A 0), .ref (A 1), .ref (b 0), .ref (nb 0), .ref (sb 0), .ref (A 2), .ref (v 0), .int (nI (N 0 4))])), ((v 0), .inr (8, [.ref (v 1), .ref (v 2), .ref (v 3), .int (nI (N 0 0)), .int (nI (N 0 1)), .int (nI (N 0 2))])), ((v 1), .inl (ka 0, 6, .inl (wf))), ((v 2), .inl (ka 2, 5, .inr (.inr (.inr (.inr (tf)))))), ((v 3), .inl (ka 0, 5, .inl (df)))] : va_W) ++ (tkw ta (up N 3 jq xq) (N 0 1) ++ R)) H := ⟨Nat.le_trans hz0 hS.1, hP, hD⟩
        have hP : va_P D vwCl (kw ka v ta (up N 3 jq xq) wf df tf) H := kw_of (w := [(h, .inr (10, [.ref (A 0), .ref (A 1), .ref (b 0), .ref (nb 0), .ref (sb 0), .ref (A 2), .ref (v 0), .int (nI (N 0 4))]))]) (R := R) hw.2.1
        refine lv_iload hx hb dX10_brace_39 (lv_at hl 0 rfl) ?_
        refine hret _ _ _ _ _ _ _ _ dX10_brace_41 hS hw (Nat.zero_le _) (Nat.zero_le _) ⟨(up N 3 jq xq), C, rfl, hV, ?_⟩
        unfold sp_brace
        (repeat' split) <;> first | rfl | (exfalso; omega)
      · refine lv_bipush (v := (-2)) hx hb dX10_brace_25 (by decide) ?_
        refine hret _ _ _ _ _ _ _ _ dX10_brace_27 hS hw (Nat.zero_le _) (Nat.zero_le _) ⟨N, C, rfl, hV, ?_⟩
        unfold sp_brace
        (repeat' split) <;> first | rfl | (exfalso; omega)
  · rw [if_neg ct_2]
    refine W.eq (g2 := F0 m 8 ls [.null]) rfl ?_
    refine lv_astore_nN (lv' := [(3, .null), (0, .ref h), (1, .int k), (2, .int q)]) hx hb dX10_brace_8 rfl hl (by decide) rfl (fun ls hl => ?_)
    refine lv_aload_nN hx hb dX10_brace_9 rfl (lv_at hl 0 rfl) ?_
    refine lv_ifnonnullN hx hb dX10_brace_10 ?_
    refine lv_iconst (v := (-1)) hx hb dX10_brace_13 (by decide) ?_
    refine hret _ _ _ _ _ _ _ _ dX10_brace_14 hS hw (Nat.zero_le _) (Nat.zero_le _) ⟨N, C, rfl, hV, ?_⟩
    unfold sp_brace
    (repeat' split) <;> first | rfl | (exfalso; omega)
set_option maxRecDepth 100000 in
set_option maxHeartbeats 4000000 in
theorem c_X10_as (l : Launch) (D : va_G) (ka : Nat → ClassId) (z : Nat) (h : Nat) (A b nb sb : Nat → Nat) (v ta : Nat → Nat) (N : NN) (wf df : Nat → Int32) (tf : Nat → Option Nat) (hV : VR N ta wf df tf) (hN : WF N) (hL : N 0 5 = 0)(k : Int32) (K9 : Int) (hk : k.toInt = K9)(q : Int32) (Q9 : Int) (hq : q.toInt = Q9) (C : CC) (R : va_W) : MU l D ka z yX10_as cX10_as 4 (some .int) 1 0 0 [.ref h, .int k, .int q] (([(h, .inr (10, [.ref (A 0), .ref (A 1), .ref (b 0), .ref (nb 0), .ref (sb 0), .ref (A 2), .ref (v 0), .int (nI (N 0 4))])), ((v 0), .inr (8, [.ref (v 1), .ref (v 2), .ref (v 3), .int (nI (N 0 0)), .int (nI (N 0 1)), .int (nI (N 0 2))])), ((v 1), .inl (ka 0, 6, .inl (wf))), ((v 2), .inl (ka 2, 5, .inr (.inr (.inr (.inr (tf)))))), ((v 3), .inl (ka 0, 5, .inl (df)))] : va_W) ++ (tkw ta N (N 0 1) ++ R)) (Qi D z (fun r w => ∃ N' C', w = ([(h, .inr (10, [.ref (A 0), .ref (A 1), .ref (b 0), .ref (nb 0), .ref (sb 0), .ref (A 2), .ref (v 0), .int (nI (N' 0 4))]))] : va_W) ++ (vlw ka v (N' 0 0) (N' 0 1) (N' 0 2) wf df tf ++ (tkw ta N' (N' 0 1) ++ R)) ∧ VR N' ta wf df tf ∧ (r, N', C') = sp_as N C K9 Q9)) := by
  refine MU.ofI (by decide) (Nat.le_of_ble_eq_true rfl) ?_
  intro p e s m args below meth c Q X hw hS hret ls hl
  obtain ⟨hx, hb, hml, hown, hts, hE⟩ := id X
  have hK := hE.1
  have hz0 := hw.1
  have hl : lv_has ls 4 [(0, .ref h), (1, .int k), (2, .int q)] := hl
  have hN1 := hN.1
  have hP : va_P D vwCl (kw ka v ta N wf df tf) s.heap := kw_of (w := [(h, .inr (10, [.ref (A 0), .ref (A 1), .ref (b 0), .ref (nb 0), .ref (sb 0), .ref (A 2), .ref (v 0), .int (nI (N 0 4))]))]) (R := R) hw.2.1
  refine lv_aload_n hx hb dX10_as_0 rfl (lv_at hl 0 rfl) ?_
  refine lv_iconst (v := nI 0) hx hb dX10_as_1 (by decide) ?_
  refine va_put (D := D) (ci := 10) (v := .int (nI 0)) (ty := .int) (C := RX10) (T := TX10) (N := 8) hx hb hts inX10 tyX10 tyX10_ok nmX10 hown hK hw.2.1 hw.2.2 hS 0 rfl rfl 7 (by decide) (hts _ wd_170) (fun _ h9 => h9) rfl (by decide +kernel) rfl rfl (Nat.le_of_ble_eq_true rfl) dX10_as_2 (fun H locs hP hD hS => ?_)
  have hw : wdH D z (([(h, .inr (10, [.ref (A 0), .ref (A 1), .ref (b 0), .ref (nb 0), .ref (sb 0), .ref (A 2), .ref (v 0), .int (nI 0)])), ((v 0), .inr (8, [.ref (v 1), .ref (v 2), .ref (v 3), .int (nI (N 0 0)), .int (nI (N 0 1)), .int (nI (N 0 2))])), ((v 1), .inl (ka 0, 6, .inl (wf))), ((v 2), .inl (ka 2, 5, .inr (.inr (.inr (.inr (tf)))))), ((v 3), .inl (ka 0, 5, .inl (df)))] : va_W) ++ (tkw ta N (N 0 1) ++ R)) H := ⟨Nat.le_trans hz0 hS.1, hP, hD⟩
  have hP : va_P D vwCl (kw ka v ta N wf df tf) H := kw_of (w := [(h, .inr (10, [.ref (A 0), .ref (A 1), .ref (b 0), .ref (nb 0), .ref (sb 0), .ref (A 2), .ref (v 0), .int (nI 0)]))]) (R := R) hw.2.1
  refine lv_aload_n hx hb dX10_as_5 rfl (lv_at hl 0 rfl) ?_
  refine va_get (D := D) (ci := 10) (v := .ref (v 0)) (C := RX10) (T := TX10) (N := 8) hx hb hts inX10 hown hK hw.2.1 0 rfl rfl 6 (by decide) (hts _ wd_169) (fun _ h9 => h9) rfl dX10_as_6 ?_
  refine lv_iload_n hx hb dX10_as_9 rfl (lv_at hl 1 rfl) ?_
  refine va_csq (ro_runV (c_X8_takerAt l D ka v ta N wf df tf hV hN k _ hk) X wd_311 wd_308 wd_309 wd_310 wd_3 on_X8_takerAt ⟨Nat.le_of_ble_eq_true rfl, Nat.le_of_ble_eq_true rfl⟩ (va_recv hK hP (ci := 8) (q0 := 0) rfl rfl) hP hl.1 rfl (Nat.le_of_ble_eq_true rfl) ⟨(Nat.zero_le _), (Nat.zero_le _)⟩ dX10_as_10) (fun r_1 hr_1 => ?_)
  subst hr_1
  by_cases ct_2 : 0 ≤ K9 ∧ K9 < ((N 0 1 : Nat) : Int)
  · rw [if_pos ct_2]
    obtain ⟨jq, hlt_jq, rfl, rfl⟩ := nat_ofK (n := N 0 1) hk (by omega) (by omega)
    refine W.eq (g2 := F0 m 13 ls [.ref (ta jq)]) rfl ?_
    refine lv_astore_n (lv' := [(3, .ref (ta jq)), (0, .ref h), (1, .int (nI jq)), (2, .int q)]) hx hb dX10_as_13 rfl hl (by decide) rfl (fun ls hl => ?_)
    refine lv_aload_n hx hb dX10_as_14 rfl (lv_at hl 0 rfl) ?_
    refine lv_ifnonnull (tgt := 20) hx hb dX10_as_15 (by decide) ?_
    refine lv_iload_n hx hb dX10_as_20 rfl (lv_at hl 3 rfl) ?_
    refine i_if_lt (tgt := 29) hx hb hq dX10_as_21 (by decide) (fun c_3 => ?_) (fun c_3 => ?_)
    · refine lv_bipush (v := (-2)) hx hb dX10_as_29 (by decide) ?_
      refine hret _ _ _ _ _ _ _ _ dX10_as_31 hS hw (Nat.zero_le _) (Nat.zero_le _) ⟨f0 N, C, rfl, hV, ?_⟩
      unfold sp_as
      rw [if_pos (by omega), if_neg (by omega)]
    · refine lv_iload_n hx hb dX10_as_24 rfl (lv_at hl 3 rfl) ?_
      refine lv_iconst (v := nI 2) hx hb dX10_as_25 (by decide) ?_
      refine i_icmp_le (tgt := 32) hx hb hq (nT (by decide)) dX10_as_26 (by decide) (fun c_4 => ?_) (fun c_4 => ?_)
      · refine lv_iload_n hx hb dX10_as_32 rfl (lv_at hl 3 rfl) ?_
        refine lv_iconst (v := nI 1) hx hb dX10_as_33 (by decide) ?_
        refine i_icmp_ne (tgt := 50) hx hb hq (nT (by decide)) dX10_as_34 (by decide) (fun c_5 => ?_) (fun c_5 => ?_)
        · refine lv_iload_n hx hb dX10_as_50 rfl (lv_at hl 3 rfl) ?_
          refine lv_iconst (v := nI 2) hx hb dX10_as_51 (by decide) ?_
          refine i_icmp_ne (tgt := 68) hx hb hq (nT (by decide)) dX10_as_52 (by decide) (fun c_6 => ?_) (fun c_6 => ?_)
          · refine lv_iconst (v := nI 1) hx hb dX10_as_68 (by decide) ?_
            refine hret _ _ _ _ _ _ _ _ dX10_as_69 hS hw (Nat.zero_le _) (Nat.zero_le _) ⟨f0 N, C, rfl, hV, ?_⟩
            unfold sp_as
            have h2k := hN.2.2.1 jq
            rw [if_pos (by omega), if_pos (by omega)]
            show _ = (if Q9 ≤ ((N 2 jq : Nat) : Int) then (nI 1, f0 N, C) else (-10 - nI 2, ff N 2, C))
            rw [if_pos (by omega)]
          · refine lv_aload_n hx hb dX10_as_55 rfl (lv_at hl 0 rfl) ?_
            refine tk_instW X hP (kw_tk (a := jq) (by omega)) (kd := N 2 jq) (hN.2.2.1 jq) wd_287 dX10_as_56 ?_
            refine b_if_ne (tgt := 68) hx hb dX10_as_59 (by decide) (fun c_7 => ?_) (fun c_7 => ?_)
            · refine lv_iconst (v := nI 1) hx hb dX10_as_68 (by decide) ?_
              refine hret _ _ _ _ _ _ _ _ dX10_as_69 hS hw (Nat.zero_le _) (Nat.zero_le _) ⟨f0 N, C, rfl, hV, ?_⟩
              unfold sp_as
              have h2k := hN.2.2.1 jq
              rw [if_pos (by omega), if_pos (by omega)]
              show _ = (if Q9 ≤ ((N 2 jq : Nat) : Int) then (nI 1, f0 N, C) else (-10 - nI 2, ff N 2, C))
              rw [if_pos (by omega)]
            · refine lv_aload_n hx hb dX10_as_62 rfl (lv_at hl 1 rfl) ?_
              refine lv_iconst (v := nI 2) hx hb dX10_as_63 (by decide) ?_
              refine mu_i (mu_runV (c_X10_faulted l D ka z h A b nb sb v 0 2 (by decide) (([((v 0), .inr (8, [.ref (v 1), .ref (v 2), .ref (v 3), .int (nI (N 0 0)), .int (nI (N 0 1)), .int (nI (N 0 2))])), ((v 1), .inl (ka 0, 6, .inl (wf))), ((v 2), .inl (ka 2, 5, .inr (.inr (.inr (.inr (tf)))))), ((v 3), .inl (ka 0, 5, .inl (df)))] : va_W) ++ (tkw ta N (N 0 1) ++ R))) X wd_201 wd_198 wd_200 ws_0 wd_1 on_X10_faulted ⟨Nat.le_of_ble_eq_true rfl, Nat.le_of_ble_eq_true rfl⟩ (va_recv hK hw.2.1 (ci := 10) (q0 := 0) rfl rfl) hw hl.1 rfl (Nat.le_of_ble_eq_true rfl) ⟨Nat.le_of_ble_eq_true rfl, Nat.le_of_ble_eq_true rfl⟩ dX10_as_64) hS (fun r_9 u_8 H locs hp_u_8 hw hS => ?_)
              obtain ⟨rfl, rfl⟩ := hp_u_8
              have hw : wdH D z (([(h, .inr (10, [.ref (A 0), .ref (A 1), .ref (b 0), .ref (nb 0), .ref (sb 0), .ref (A 2), .ref (v 0), .int (nI 2)])), ((v 0), .inr (8, [.ref (v 1), .ref (v 2), .ref (v 3), .int (nI (N 0 0)), .int (nI (N 0 1)), .int (nI (N 0 2))])), ((v 1), .inl (ka 0, 6, .inl (wf))), ((v 2), .inl (ka 2, 5, .inr (.inr (.inr (.inr (tf)))))), ((v 3), .inl (ka 0, 5, .inl (df)))] : va_W) ++ (tkw ta N (N 0 1) ++ R)) H := hw
              have hP : va_P D vwCl (kw ka v ta N wf df tf) H := kw_of (w := [(h, .inr (10, [.ref (A 0), .ref (A 1), .ref (b 0), .ref (nb 0), .ref (sb 0), .ref (A 2), .ref (v 0), .int (nI 2)]))]) (R := R) hw.2.1
              refine hret _ _ _ _ _ _ _ _ dX10_as_67 hS hw (Nat.zero_le _) (Nat.zero_le _) ⟨ff N 2, C, rfl, hV, ?_⟩
              unfold sp_as
              have h2k := hN.2.2.1 jq
              rw [if_pos (by omega), if_pos (by omega)]
              show _ = (if Q9 ≤ ((N 2 jq : Nat) : Int) then (nI 1, f0 N, C) else (-10 - nI 2, ff N 2, C))
              rw [if_neg (by omega)]
        · refine lv_aload_n hx hb dX10_as_37 rfl (lv_at hl 0 rfl) ?_
          refine tk_instS X hP (kw_tk (a := jq) (by omega)) (kd := N 2 jq) (hN.2.2.1 jq) wd_260 dX10_as_38 ?_
          refine b_if_ne (tgt := 50) hx hb dX10_as_41 (by decide) (fun c_10 => ?_) (fun c_10 => ?_)
          · refine lv_iload_n hx hb dX10_as_50 rfl (lv_at hl 3 rfl) ?_
            refine lv_iconst (v := nI 2) hx hb dX10_as_51 (by decide) ?_
            refine i_icmp_ne (tgt := 68) hx hb hq (nT (by decide)) dX10_as_52 (by decide) (fun c_11 => ?_) (fun c_11 => ?_)
            · refine lv_iconst (v := nI 1) hx hb dX10_as_68 (by decide) ?_
              refine hret _ _ _ _ _ _ _ _ dX10_as_69 hS hw (Nat.zero_le _) (Nat.zero_le _) ⟨f0 N, C, rfl, hV, ?_⟩
              unfold sp_as
              have h2k := hN.2.2.1 jq
              rw [if_pos (by omega), if_pos (by omega)]
              show _ = (if Q9 ≤ ((N 2 jq : Nat) : Int) then (nI 1, f0 N, C) else (-10 - nI 2, ff N 2, C))
              rw [if_pos (by omega)]
            · refine lv_aload_n hx hb dX10_as_55 rfl (lv_at hl 0 rfl) ?_
              refine tk_instW X hP (kw_tk (a := jq) (by omega)) (kd := N 2 jq) (hN.2.2.1 jq) wd_287 dX10_as_56 ?_
              refine b_if_ne (tgt := 68) hx hb dX10_as_59 (by decide) (fun c_12 => ?_) (fun c_12 => ?_)
              · refine lv_iconst (v := nI 1) hx hb dX10_as_68 (by decide) ?_
                refine hret _ _ _ _ _ _ _ _ dX10_as_69 hS hw (Nat.zero_le _) (Nat.zero_le _) ⟨f0 N, C, rfl, hV, ?_⟩
                unfold sp_as
                have h2k := hN.2.2.1 jq
                rw [if_pos (by omega), if_pos (by omega)]
                show _ = (if Q9 ≤ ((N 2 jq : Nat) : Int) then (nI 1, f0 N, C) else (-10 - nI 2, ff N 2, C))
                rw [if_pos (by omega)]
              · refine lv_aload_n hx hb dX10_as_62 rfl (lv_at hl 1 rfl) ?_
                refine lv_iconst (v := nI 2) hx hb dX10_as_63 (by decide) ?_
                refine mu_i (mu_runV (c_X10_faulted l D ka z h A b nb sb v 0 2 (by decide) (([((v 0), .inr (8, [.ref (v 1), .ref (v 2), .ref (v 3), .int (nI (N 0 0)), .int (nI (N 0 1)), .int (nI (N 0 2))])), ((v 1), .inl (ka 0, 6, .inl (wf))), ((v 2), .inl (ka 2, 5, .inr (.inr (.inr (.inr (tf)))))), ((v 3), .inl (ka 0, 5, .inl (df)))] : va_W) ++ (tkw ta N (N 0 1) ++ R))) X wd_201 wd_198 wd_200 ws_0 wd_1 on_X10_faulted ⟨Nat.le_of_ble_eq_true rfl, Nat.le_of_ble_eq_true rfl⟩ (va_recv hK hw.2.1 (ci := 10) (q0 := 0) rfl rfl) hw hl.1 rfl (Nat.le_of_ble_eq_true rfl) ⟨Nat.le_of_ble_eq_true rfl, Nat.le_of_ble_eq_true rfl⟩ dX10_as_64) hS (fun r_14 u_13 H locs hp_u_13 hw hS => ?_)
                obtain ⟨rfl, rfl⟩ := hp_u_13
                have hw : wdH D z (([(h, .inr (10, [.ref (A 0), .ref (A 1), .ref (b 0), .ref (nb 0), .ref (sb 0), .ref (A 2), .ref (v 0), .int (nI 2)])), ((v 0), .inr (8, [.ref (v 1), .ref (v 2), .ref (v 3), .int (nI (N 0 0)), .int (nI (N 0 1)), .int (nI (N 0 2))])), ((v 1), .inl (ka 0, 6, .inl (wf))), ((v 2), .inl (ka 2, 5, .inr (.inr (.inr (.inr (tf)))))), ((v 3), .inl (ka 0, 5, .inl (df)))] : va_W) ++ (tkw ta N (N 0 1) ++ R)) H := hw
                have hP : va_P D vwCl (kw ka v ta N wf df tf) H := kw_of (w := [(h, .inr (10, [.ref (A 0), .ref (A 1), .ref (b 0), .ref (nb 0), .ref (sb 0), .ref (A 2), .ref (v 0), .int (nI 2)]))]) (R := R) hw.2.1
                refine hret _ _ _ _ _ _ _ _ dX10_as_67 hS hw (Nat.zero_le _) (Nat.zero_le _) ⟨ff N 2, C, rfl, hV, ?_⟩
                unfold sp_as
                have h2k := hN.2.2.1 jq
                rw [if_pos (by omega), if_pos (by omega)]
                show _ = (if Q9 ≤ ((N 2 jq : Nat) : Int) then (nI 1, f0 N, C) else (-10 - nI 2, ff N 2, C))
                rw [if_neg (by omega)]
          · refine lv_aload_n hx hb dX10_as_44 rfl (lv_at hl 1 rfl) ?_
            refine lv_iconst (v := nI 2) hx hb dX10_as_45 (by decide) ?_
            refine mu_i (mu_runV (c_X10_faulted l D ka z h A b nb sb v 0 2 (by decide) (([((v 0), .inr (8, [.ref (v 1), .ref (v 2), .ref (v 3), .int (nI (N 0 0)), .int (nI (N 0 1)), .int (nI (N 0 2))])), ((v 1), .inl (ka 0, 6, .inl (wf))), ((v 2), .inl (ka 2, 5, .inr (.inr (.inr (.inr (tf)))))), ((v 3), .inl (ka 0, 5, .inl (df)))] : va_W) ++ (tkw ta N (N 0 1) ++ R))) X wd_201 wd_198 wd_200 ws_0 wd_1 on_X10_faulted ⟨Nat.le_of_ble_eq_true rfl, Nat.le_of_ble_eq_true rfl⟩ (va_recv hK hw.2.1 (ci := 10) (q0 := 0) rfl rfl) hw hl.1 rfl (Nat.le_of_ble_eq_true rfl) ⟨Nat.le_of_ble_eq_true rfl, Nat.le_of_ble_eq_true rfl⟩ dX10_as_46) hS (fun r_16 u_15 H locs hp_u_15 hw hS => ?_)
            obtain ⟨rfl, rfl⟩ := hp_u_15
            have hw : wdH D z (([(h, .inr (10, [.ref (A 0), .ref (A 1), .ref (b 0), .ref (nb 0), .ref (sb 0), .ref (A 2), .ref (v 0), .int (nI 2)])), ((v 0), .inr (8, [.ref (v 1), .ref (v 2), .ref (v 3), .int (nI (N 0 0)), .int (nI (N 0 1)), .int (nI (N 0 2))])), ((v 1), .inl (ka 0, 6, .inl (wf))), ((v 2), .inl (ka 2, 5, .inr (.inr (.inr (.inr (tf)))))), ((v 3), .inl (ka 0, 5, .inl (df)))] : va_W) ++ (tkw ta N (N 0 1) ++ R)) H := hw
            have hP : va_P D vwCl (kw ka v ta N wf df tf) H := kw_of (w := [(h, .inr (10, [.ref (A 0), .ref (A 1), .ref (b 0), .ref (nb 0), .ref (sb 0), .ref (A 2), .ref (v 0), .int (nI 2)]))]) (R := R) hw.2.1
            refine hret _ _ _ _ _ _ _ _ dX10_as_49 hS hw (Nat.zero_le _) (Nat.zero_le _) ⟨ff N 2, C, rfl, hV, ?_⟩
            unfold sp_as
            have h2k := hN.2.2.1 jq
            rw [if_pos (by omega), if_pos (by omega)]
            show _ = (if Q9 ≤ ((N 2 jq : Nat) : Int) then (nI 1, f0 N, C) else (-10 - nI 2, ff N 2, C))
            rw [if_neg (by omega)]
      · refine lv_bipush (v := (-2)) hx hb dX10_as_29 (by decide) ?_
        refine hret _ _ _ _ _ _ _ _ dX10_as_31 hS hw (Nat.zero_le _) (Nat.zero_le _) ⟨f0 N, C, rfl, hV, ?_⟩
        unfold sp_as
        rw [if_pos (by omega), if_neg (by omega)]
  · rw [if_neg ct_2]
    refine W.eq (g2 := F0 m 13 ls [.null]) rfl ?_
    refine lv_astore_nN (lv' := [(3, .null), (0, .ref h), (1, .int k), (2, .int q)]) hx hb dX10_as_13 rfl hl (by decide) rfl (fun ls hl => ?_)
    refine lv_aload_nN hx hb dX10_as_14 rfl (lv_at hl 0 rfl) ?_
    refine lv_ifnonnullN hx hb dX10_as_15 ?_
    refine lv_iconst (v := (-1)) hx hb dX10_as_18 (by decide) ?_
    refine hret _ _ _ _ _ _ _ _ dX10_as_19 hS hw (Nat.zero_le _) (Nat.zero_le _) ⟨f0 N, C, rfl, hV, ?_⟩
    unfold sp_as
    rw [if_neg (by omega)]
set_option maxRecDepth 100000 in
set_option maxHeartbeats 4000000 in
theorem c_X10_reading (l : Launch) (D : va_G) (ka : Nat → ClassId) (z : Nat) (h : Nat) (A b nb sb : Nat → Nat) (v ta : Nat → Nat) (N : NN) (wf df : Nat → Int32) (tf : Nat → Option Nat) (hV : VR N ta wf df tf) (hN : WF N) (hL : N 0 5 = 0)(k : Int32) (K9 : Int) (hk : k.toInt = K9)(q : Int32) (Q9 : Int) (hq : q.toInt = Q9)(m1 : Int32) (M9 : Int) (hm1 : m1.toInt = M9) (C : CC) (R : va_W) : MU l D ka z yX10_reading cX10_reading 4 (some .int) 1 0 0 [.ref h, .int k, .int q, .int m1] (([(h, .inr (10, [.ref (A 0), .ref (A 1), .ref (b 0), .ref (nb 0), .ref (sb 0), .ref (A 2), .ref (v 0), .int (nI (N 0 4))])), ((b 0), .inr (2, [.ref (b 1), .ref (b 2), .ref (b 3), .int (nI (N 0 3))])), ((b 1), .inl (ka 0, 8, .inl (fun j => nI (N 6 j)))), ((b 2), .inl (ka 0, 8, .inl (fun j => nI (N 7 j)))), ((b 3), .inl (ka 0, 8, .inl (fun j => nI (N 8 j)))), ((v 0), .inr (8, [.ref (v 1), .ref (v 2), .ref (v 3), .int (nI (N 0 0)), .int (nI (N 0 1)), .int (nI (N 0 2))])), ((v 1), .inl (ka 0, 6, .inl (wf))), ((v 2), .inl (ka 2, 5, .inr (.inr (.inr (.inr (tf)))))), ((v 3), .inl (ka 0, 5, .inl (df)))] : va_W) ++ (tkw ta N (N 0 1) ++ R)) (Qi D z (fun r w => ∃ N' C', w = ([(h, .inr (10, [.ref (A 0), .ref (A 1), .ref (b 0), .ref (nb 0), .ref (sb 0), .ref (A 2), .ref (v 0), .int (nI (N' 0 4))])), ((b 0), .inr (2, [.ref (b 1), .ref (b 2), .ref (b 3), .int (nI (N' 0 3))])), ((b 1), .inl (ka 0, 8, .inl (fun j => nI (N' 6 j)))), ((b 2), .inl (ka 0, 8, .inl (fun j => nI (N' 7 j)))), ((b 3), .inl (ka 0, 8, .inl (fun j => nI (N' 8 j))))] : va_W) ++ (vlw ka v (N' 0 0) (N' 0 1) (N' 0 2) wf df tf ++ (tkw ta N' (N' 0 1) ++ R)) ∧ VR N' ta wf df tf ∧ (r, N', C') = sp_reading N C K9 Q9 M9)) := by
  refine MU.ofI (by decide) (Nat.le_of_ble_eq_true rfl) ?_
  intro p e s m args below meth c Q X hw hS hret ls hl
  obtain ⟨hx, hb, hml, hown, hts, hE⟩ := id X
  have hK := hE.1
  have hz0 := hw.1
  have hl : lv_has ls 4 [(0, .ref h), (1, .int k), (2, .int q), (3, .int m1)] := hl
  have hN1 := hN.1
  have hP : va_P D vwCl (kw ka v ta N wf df tf) s.heap := kw_of (w := [(h, .inr (10, [.ref (A 0), .ref (A 1), .ref (b 0), .ref (nb 0), .ref (sb 0), .ref (A 2), .ref (v 0), .int (nI (N 0 4))])), ((b 0), .inr (2, [.ref (b 1), .ref (b 2), .ref (b 3), .int (nI (N 0 3))])), ((b 1), .inl (ka 0, 8, .inl (fun j => nI (N 6 j)))), ((b 2), .inl (ka 0, 8, .inl (fun j => nI (N 7 j)))), ((b 3), .inl (ka 0, 8, .inl (fun j => nI (N 8 j))))]) (R := R) hw.2.1
  refine lv_aload_n hx hb dX10_reading_0 rfl (lv_at hl 0 rfl) ?_
  refine va_get (D := D) (ci := 10) (v := .ref (v 0)) (C := RX10) (T := TX10) (N := 8) hx hb hts inX10 hown hK hw.2.1 0 rfl rfl 6 (by decide) (hts _ wd_169) (fun _ h9 => h9) rfl dX10_reading_1 ?_
  refine lv_iload_n hx hb dX10_reading_4 rfl (lv_at hl 1 rfl) ?_
  refine va_csq (ro_runV (c_X8_takerAt l D ka v ta N wf df tf hV hN k _ hk) X wd_311 wd_308 wd_309 wd_310 wd_3 on_X8_takerAt ⟨Nat.le_of_ble_eq_true rfl, Nat.le_of_ble_eq_true rfl⟩ (va_recv hK hP (ci := 8) (q0 := 0) rfl rfl) hP hl.1 rfl (Nat.le_of_ble_eq_true rfl) ⟨(Nat.zero_le _), (Nat.zero_le _)⟩ dX10_reading_5) (fun r_1 hr_1 => ?_)
  subst hr_1
  by_cases ct_2 : 0 ≤ K9 ∧ K9 < ((N 0 1 : Nat) : Int)
  · rw [if_pos ct_2]
    obtain ⟨jq, hlt_jq, rfl, rfl⟩ := nat_ofK (n := N 0 1) hk (by omega) (by omega)
    refine W.eq (g2 := F0 m 8 ls [.ref (ta jq)]) rfl ?_
    refine lv_ifnonnull (tgt := 13) hx hb dX10_reading_8 (by decide) ?_
    refine lv_iload_n hx hb dX10_reading_13 rfl (lv_at hl 2 rfl) ?_
    refine vp_callSi (ro_runS (c_X10_isMinute l D ka q _ hq) X wd_379 wd_377 wd_378 wd_1 on_X10_isMinute ⟨Nat.le_of_ble_eq_true rfl, Nat.le_of_ble_eq_true rfl⟩ trivial hl.1 rfl (Nat.le_of_ble_eq_true rfl) ⟨(Nat.zero_le _), (Nat.zero_le _)⟩ dX10_reading_14) (fun r_3 hr_3 => ?_)
    subst hr_3
    refine b_if_eq (tgt := 30) hx hb dX10_reading_17 (by decide) (fun c_4 => ?_) (fun c_4 => ?_)
    · refine lv_bipush (v := (-2)) hx hb dX10_reading_30 (by decide) ?_
      refine hret _ _ _ _ _ _ _ _ dX10_reading_32 hS hw (Nat.zero_le _) (Nat.zero_le _) ⟨N, C, rfl, hV, ?_⟩
      unfold sp_reading
      (repeat' split) <;> first | rfl | (exfalso; omega)
    · refine lv_iload_n hx hb dX10_reading_20 rfl (lv_at hl 3 rfl) ?_
      refine i_if_lt (tgt := 30) hx hb hm1 dX10_reading_21 (by decide) (fun c_5 => ?_) (fun c_5 => ?_)
      · refine lv_bipush (v := (-2)) hx hb dX10_reading_30 (by decide) ?_
        refine hret _ _ _ _ _ _ _ _ dX10_reading_32 hS hw (Nat.zero_le _) (Nat.zero_le _) ⟨N, C, rfl, hV, ?_⟩
        unfold sp_reading
        (repeat' split) <;> first | rfl | (exfalso; omega)
      · refine lv_iload_n hx hb dX10_reading_24 rfl (lv_at hl 3 rfl) ?_
        refine lv_bipush (v := nI 40) hx hb dX10_reading_25 (by decide) ?_
        refine i_icmp_le (tgt := 33) hx hb hm1 (nT (by decide)) dX10_reading_27 (by decide) (fun c_6 => ?_) (fun c_6 => ?_)
        · obtain ⟨mq, hlt_mq, rfl, rfl⟩ := nat_ofK (n := 60) hq (by omega) (by omega)
          obtain ⟨hq9, hlt_hq9, rfl, rfl⟩ := nat_ofK (n := 41) hm1 (by omega) (by omega)
          refine lv_aload_n hx hb dX10_reading_33 rfl (lv_at hl 0 rfl) ?_
          refine va_get (D := D) (ci := 10) (v := .ref (b 0)) (C := RX10) (T := TX10) (N := 8) hx hb hts inX10 hown hK hw.2.1 0 rfl rfl 2 (by decide) (hts _ wd_165) (fun _ h9 => h9) rfl dX10_reading_34 ?_
          refine lv_iload_n hx hb dX10_reading_37 rfl (lv_at hl 1 rfl) ?_
          refine lv_iload_n hx hb dX10_reading_38 rfl (lv_at hl 2 rfl) ?_
          refine lv_iload_n hx hb dX10_reading_39 rfl (lv_at hl 3 rfl) ?_
          have hw : wdH D z (([((b 3), .inl (ka 0, 8, .inl (fun j => nI (N 8 j)))), (h, .inr (10, [.ref (A 0), .ref (A 1), .ref (b 0), .ref (nb 0), .ref (sb 0), .ref (A 2), .ref (v 0), .int (nI (N 0 4))])), ((b 0), .inr (2, [.ref (b 1), .ref (b 2), .ref (b 3), .int (nI (N 0 3))])), ((b 1), .inl (ka 0, 8, .inl (fun j => nI (N 6 j)))), ((b 2), .inl (ka 0, 8, .inl (fun j => nI (N 7 j)))), ((v 0), .inr (8, [.ref (v 1), .ref (v 2), .ref (v 3), .int (nI (N 0 0)), .int (nI (N 0 1)), .int (nI (N 0 2))])), ((v 1), .inl (ka 0, 6, .inl (wf))), ((v 2), .inl (ka 2, 5, .inr (.inr (.inr (.inr (tf)))))), ((v 3), .inl (ka 0, 5, .inl (df)))] : va_W) ++ (tkw ta N (N 0 1) ++ R)) s.heap := hw.perm (perm_at (i := 4) rfl)
          have hw : wdH D z (([((b 2), .inl (ka 0, 8, .inl (fun j => nI (N 7 j)))), ((b 3), .inl (ka 0, 8, .inl (fun j => nI (N 8 j)))), (h, .inr (10, [.ref (A 0), .ref (A 1), .ref (b 0), .ref (nb 0), .ref (sb 0), .ref (A 2), .ref (v 0), .int (nI (N 0 4))])), ((b 0), .inr (2, [.ref (b 1), .ref (b 2), .ref (b 3), .int (nI (N 0 3))])), ((b 1), .inl (ka 0, 8, .inl (fun j => nI (N 6 j)))), ((v 0), .inr (8, [.ref (v 1), .ref (v 2), .ref (v 3), .int (nI (N 0 0)), .int (nI (N 0 1)), .int (nI (N 0 2))])), ((v 1), .inl (ka 0, 6, .inl (wf))), ((v 2), .inl (ka 2, 5, .inr (.inr (.inr (.inr (tf)))))), ((v 3), .inl (ka 0, 5, .inl (df)))] : va_W) ++ (tkw ta N (N 0 1) ++ R)) s.heap := hw.perm (perm_at (i := 4) rfl)
          have hw : wdH D z (([((b 1), .inl (ka 0, 8, .inl (fun j => nI (N 6 j)))), ((b 2), .inl (ka 0, 8, .inl (fun j => nI (N 7 j)))), ((b 3), .inl (ka 0, 8, .inl (fun j => nI (N 8 j)))), (h, .inr (10, [.ref (A 0), .ref (A 1), .ref (b 0), .ref (nb 0), .ref (sb 0), .ref (A 2), .ref (v 0), .int (nI (N 0 4))])), ((b 0), .inr (2, [.ref (b 1), .ref (b 2), .ref (b 3), .int (nI (N 0 3))])), ((v 0), .inr (8, [.ref (v 1), .ref (v 2), .ref (v 3), .int (nI (N 0 0)), .int (nI (N 0 1)), .int (nI (N 0 2))])), ((v 1), .inl (ka 0, 6, .inl (wf))), ((v 2), .inl (ka 2, 5, .inr (.inr (.inr (.inr (tf)))))), ((v 3), .inl (ka 0, 5, .inl (df)))] : va_W) ++ (tkw ta N (N 0 1) ++ R)) s.heap := hw.perm (perm_at (i := 4) rfl)
          have hw : wdH D z (([((b 0), .inr (2, [.ref (b 1), .ref (b 2), .ref (b 3), .int (nI (N 0 3))])), ((b 1), .inl (ka 0, 8, .inl (fun j => nI (N 6 j)))), ((b 2), .inl (ka 0, 8, .inl (fun j => nI (N 7 j)))), ((b 3), .inl (ka 0, 8, .inl (fun j => nI (N 8 j)))), (h, .inr (10, [.ref (A 0), .ref (A 1), .ref (b 0), .ref (nb 0), .ref (sb 0), .ref (A 2), .ref (v 0), .int (nI (N 0 4))])), ((v 0), .inr (8, [.ref (v 1), .ref (v 2), .ref (v 3), .int (nI (N 0 0)), .int (nI (N 0 1)), .int (nI (N 0 2))])), ((v 1), .inl (ka 0, 6, .inl (wf))), ((v 2), .inl (ka 2, 5, .inr (.inr (.inr (.inr (tf)))))), ((v 3), .inl (ka 0, 5, .inl (df)))] : va_W) ++ (tkw ta N (N 0 1) ++ R)) s.heap := hw.perm (perm_at (i := 4) rfl)
          refine mu_i (mu_runV (c_X2_add l D ka z b N (by omega) jq mq hq9 (([(h, .inr (10, [.ref (A 0), .ref (A 1), .ref (b 0), .ref (nb 0), .ref (sb 0), .ref (A 2), .ref (v 0), .int (nI (N 0 4))])), ((v 0), .inr (8, [.ref (v 1), .ref (v 2), .ref (v 3), .int (nI (N 0 0)), .int (nI (N 0 1)), .int (nI (N 0 2))])), ((v 1), .inl (ka 0, 6, .inl (wf))), ((v 2), .inl (ka 2, 5, .inr (.inr (.inr (.inr (tf)))))), ((v 3), .inl (ka 0, 5, .inl (df)))] : va_W) ++ (tkw ta N (N 0 1) ++ R))) X wd_521 wd_518 wd_519 wd_520 wd_4 on_X2_add ⟨Nat.le_of_ble_eq_true rfl, Nat.le_of_ble_eq_true rfl⟩ (va_recv hK hw.2.1 (ci := 2) (q0 := 0) rfl rfl) hw hl.1 rfl (Nat.le_of_ble_eq_true rfl) ⟨Nat.le_of_ble_eq_true rfl, Nat.le_of_ble_eq_true rfl⟩ dX10_reading_40) hS (fun r_8 u_7 H locs hp_u_7 hw hS => ?_)
          rcases hp_u_7 with ⟨h83, rfl, rfl⟩ | ⟨h83, rfl, rfl⟩
          · have hw : wdH D z (([((b 0), .inr (2, [.ref (b 1), .ref (b 2), .ref (b 3), .int (nI (N 0 3))])), ((b 1), .inl (ka 0, 8, .inl (fun j => nI (N 6 j)))), ((b 2), .inl (ka 0, 8, .inl (fun j => nI (N 7 j)))), ((b 3), .inl (ka 0, 8, .inl (fun j => nI (N 8 j)))), (h, .inr (10, [.ref (A 0), .ref (A 1), .ref (b 0), .ref (nb 0), .ref (sb 0), .ref (A 2), .ref (v 0), .int (nI (N 0 4))])), ((v 0), .inr (8, [.ref (v 1), .ref (v 2), .ref (v 3), .int (nI (N 0 0)), .int (nI (N 0 1)), .int (nI (N 0 2))])), ((v 1), .inl (ka 0, 6, .inl (wf))), ((v 2), .inl (ka 2, 5, .inr (.inr (.inr (.inr (tf)))))), ((v 3), .inl (ka 0, 5, .inl (df)))] : va_W) ++ (tkw ta N (N 0 1) ++ R)) H := hw
            refine W.eq (g2 := F0 m 43 ls [.int (-4)]) rfl ?_
            have hw : wdH D z (([(h, .inr (10, [.ref (A 0), .ref (A 1), .ref (b 0), .ref (nb 0), .ref (sb 0), .ref (A 2), .ref (v 0), .int (nI (N 0 4))])), ((b 0), .inr (2, [.ref (b 1), .ref (b 2), .ref (b 3), .int (nI (N 0 3))])), ((b 1), .inl (ka 0, 8, .inl (fun j => nI (N 6 j)))), ((b 2), .inl (ka 0, 8, .inl (fun j => nI (N 7 j)))), ((b 3), .inl (ka 0, 8, .inl (fun j => nI (N 8 j)))), ((v 0), .inr (8, [.ref (v 1), .ref (v 2), .ref (v 3), .int (nI (N 0 0)), .int (nI (N 0 1)), .int (nI (N 0 2))])), ((v 1), .inl (ka 0, 6, .inl (wf))), ((v 2), .inl (ka 2, 5, .inr (.inr (.inr (.inr (tf)))))), ((v 3), .inl (ka 0, 5, .inl (df)))] : va_W) ++ (tkw ta N (N 0 1) ++ R)) H := hw.perm (perm_at (i := 4) rfl)
            refine hret _ _ _ _ _ _ _ _ dX10_reading_43 hS hw (Nat.zero_le _) (Nat.zero_le _) ⟨N, C, rfl, hV, ?_⟩
            unfold sp_reading
            (repeat' split) <;> first | rfl | (exfalso; omega)
          · have hw : wdH D z (([((b 0), .inr (2, [.ref (b 1), .ref (b 2), .ref (b 3), .int (nI (N 0 3 + 1))])), ((b 1), .inl (ka 0, 8, .inl (fun j => nI ((up (up (up (up N 6 (N 0 3) jq) 7 (N 0 3) mq) 8 (N 0 3) hq9) 0 3 (N 0 3 + 1)) 6 j)))), ((b 2), .inl (ka 0, 8, .inl (fun j => nI ((up (up (up (up N 6 (N 0 3) jq) 7 (N 0 3) mq) 8 (N 0 3) hq9) 0 3 (N 0 3 + 1)) 7 j)))), ((b 3), .inl (ka 0, 8, .inl (fun j => nI ((up (up (up (up N 6 (N 0 3) jq) 7 (N 0 3) mq) 8 (N 0 3) hq9) 0 3 (N 0 3 + 1)) 8 j)))), (h, .inr (10, [.ref (A 0), .ref (A 1), .ref (b 0), .ref (nb 0), .ref (sb 0), .ref (A 2), .ref (v 0), .int (nI (N 0 4))])), ((v 0), .inr (8, [.ref (v 1), .ref (v 2), .ref (v 3), .int (nI (N 0 0)), .int (nI (N 0 1)), .int (nI (N 0 2))])), ((v 1), .inl (ka 0, 6, .inl (wf))), ((v 2), .inl (ka 2, 5, .inr (.inr (.inr (.inr (tf)))))), ((v 3), .inl (ka 0, 5, .inl (df)))] : va_W) ++ (tkw ta N (N 0 1) ++ R)) H := hw
            refine W.eq (g2 := F0 m 43 ls [.int (nI (N 0 3))]) rfl ?_
            have hw : wdH D z (([(h, .inr (10, [.ref (A 0), .ref (A 1), .ref (b 0), .ref (nb 0), .ref (sb 0), .ref (A 2), .ref (v 0), .int (nI (N 0 4))])), ((b 0), .inr (2, [.ref (b 1), .ref (b 2), .ref (b 3), .int (nI (N 0 3 + 1))])), ((b 1), .inl (ka 0, 8, .inl (fun j => nI ((up (up (up (up N 6 (N 0 3) jq) 7 (N 0 3) mq) 8 (N 0 3) hq9) 0 3 (N 0 3 + 1)) 6 j)))), ((b 2), .inl (ka 0, 8, .inl (fun j => nI ((up (up (up (up N 6 (N 0 3) jq) 7 (N 0 3) mq) 8 (N 0 3) hq9) 0 3 (N 0 3 + 1)) 7 j)))), ((b 3), .inl (ka 0, 8, .inl (fun j => nI ((up (up (up (up N 6 (N 0 3) jq) 7 (N 0 3) mq) 8 (N 0 3) hq9) 0 3 (N 0 3 + 1)) 8 j)))), ((v 0), .inr (8, [.ref (v 1), .ref (v 2), .ref (v 3), .int (nI (N 0 0)), .int (nI (N 0 1)), .int (nI (N 0 2))])), ((v 1), .inl (ka 0, 6, .inl (wf))), ((v 2), .inl (ka 2, 5, .inr (.inr (.inr (.inr (tf)))))), ((v 3), .inl (ka 0, 5, .inl (df)))] : va_W) ++ (tkw ta N (N 0 1) ++ R)) H := hw.perm (perm_at (i := 4) rfl)
            refine hret _ _ _ _ _ _ _ _ dX10_reading_43 hS hw (Nat.zero_le _) (Nat.zero_le _) ⟨(up (up (up (up N 6 (N 0 3) jq) 7 (N 0 3) mq) 8 (N 0 3) hq9) 0 3 (N 0 3 + 1)), C, rfl, hV, ?_⟩
            unfold sp_reading
            (repeat' split) <;> first | rfl | (exfalso; omega)
        · refine lv_bipush (v := (-2)) hx hb dX10_reading_30 (by decide) ?_
          refine hret _ _ _ _ _ _ _ _ dX10_reading_32 hS hw (Nat.zero_le _) (Nat.zero_le _) ⟨N, C, rfl, hV, ?_⟩
          unfold sp_reading
          (repeat' split) <;> first | rfl | (exfalso; omega)
  · rw [if_neg ct_2]
    refine W.eq (g2 := F0 m 8 ls [.null]) rfl ?_
    refine lv_ifnonnullN hx hb dX10_reading_8 ?_
    refine lv_iconst (v := (-1)) hx hb dX10_reading_11 (by decide) ?_
    refine hret _ _ _ _ _ _ _ _ dX10_reading_12 hS hw (Nat.zero_le _) (Nat.zero_le _) ⟨N, C, rfl, hV, ?_⟩
    unfold sp_reading
    (repeat' split) <;> first | rfl | (exfalso; omega)
set_option maxRecDepth 100000 in
set_option maxHeartbeats 4000000 in
theorem c_X10_back (l : Launch) (D : va_G) (ka : Nat → ClassId) (z : Nat) (h : Nat) (A b nb sb : Nat → Nat) (v ta : Nat → Nat) (N : NN) (wf df : Nat → Int32) (tf : Nat → Option Nat) (hV : VR N ta wf df tf) (hN : WF N) (hL : N 0 5 = 0)(k : Int32) (K9 : Int) (hk : k.toInt = K9) (C : CC) (R : va_W) : MU l D ka z yX10_back cX10_back 2 (some .int) 0 0 0 [.ref h, .int k] (([(h, .inr (10, [.ref (A 0), .ref (A 1), .ref (b 0), .ref (nb 0), .ref (sb 0), .ref (A 2), .ref (v 0), .int (nI (N 0 4))])), ((b 0), .inr (2, [.ref (b 1), .ref (b 2), .ref (b 3), .int (nI (N 0 3))])), ((b 1), .inl (ka 0, 8, .inl (fun j => nI (N 6 j)))), ((b 2), .inl (ka 0, 8, .inl (fun j => nI (N 7 j)))), ((b 3), .inl (ka 0, 8, .inl (fun j => nI (N 8 j)))), ((v 0), .inr (8, [.ref (v 1), .ref (v 2), .ref (v 3), .int (nI (N 0 0)), .int (nI (N 0 1)), .int (nI (N 0 2))])), ((v 1), .inl (ka 0, 6, .inl (wf))), ((v 2), .inl (ka 2, 5, .inr (.inr (.inr (.inr (tf)))))), ((v 3), .inl (ka 0, 5, .inl (df)))] : va_W) ++ (tkw ta N (N 0 1) ++ R)) (Qi D z (fun r w => ∃ N' C', w = ([(h, .inr (10, [.ref (A 0), .ref (A 1), .ref (b 0), .ref (nb 0), .ref (sb 0), .ref (A 2), .ref (v 0), .int (nI (N' 0 4))])), ((b 0), .inr (2, [.ref (b 1), .ref (b 2), .ref (b 3), .int (nI (N' 0 3))])), ((b 1), .inl (ka 0, 8, .inl (fun j => nI (N' 6 j)))), ((b 2), .inl (ka 0, 8, .inl (fun j => nI (N' 7 j)))), ((b 3), .inl (ka 0, 8, .inl (fun j => nI (N' 8 j))))] : va_W) ++ (vlw ka v (N' 0 0) (N' 0 1) (N' 0 2) wf df tf ++ (tkw ta N' (N' 0 1) ++ R)) ∧ VR N' ta wf df tf ∧ (r, N', C') = sp_back N C K9)) := by
  refine MU.ofI (by decide) (Nat.le_of_ble_eq_true rfl) ?_
  intro p e s m args below meth c Q X hw hS hret ls hl
  obtain ⟨hx, hb, hml, hown, hts, hE⟩ := id X
  have hK := hE.1
  have hz0 := hw.1
  have hl : lv_has ls 2 [(0, .ref h), (1, .int k)] := hl
  have hN1 := hN.1
  have hP : va_P D vwCl (kw ka v ta N wf df tf) s.heap := kw_of (w := [(h, .inr (10, [.ref (A 0), .ref (A 1), .ref (b 0), .ref (nb 0), .ref (sb 0), .ref (A 2), .ref (v 0), .int (nI (N 0 4))])), ((b 0), .inr (2, [.ref (b 1), .ref (b 2), .ref (b 3), .int (nI (N 0 3))])), ((b 1), .inl (ka 0, 8, .inl (fun j => nI (N 6 j)))), ((b 2), .inl (ka 0, 8, .inl (fun j => nI (N 7 j)))), ((b 3), .inl (ka 0, 8, .inl (fun j => nI (N 8 j))))]) (R := R) hw.2.1
  refine lv_iload_n hx hb dX10_back_0 rfl (lv_at hl 1 rfl) ?_
  refine i_if_lt (tgt := 15) hx hb hk dX10_back_1 (by decide) (fun c_1 => ?_) (fun c_1 => ?_)
  · refine lv_bipush (v := (-2)) hx hb dX10_back_15 (by decide) ?_
    refine hret _ _ _ _ _ _ _ _ dX10_back_17 hS hw (Nat.zero_le _) (Nat.zero_le _) ⟨N, C, rfl, hV, ?_⟩
    unfold sp_back
    (repeat' split) <;> first | rfl | (exfalso; omega)
  · refine lv_iload_n hx hb dX10_back_4 rfl (lv_at hl 1 rfl) ?_
    refine lv_aload_n hx hb dX10_back_5 rfl (lv_at hl 0 rfl) ?_
    refine va_get (D := D) (ci := 10) (v := .ref (b 0)) (C := RX10) (T := TX10) (N := 8) hx hb hts inX10 hown hK hw.2.1 0 rfl rfl 2 (by decide) (hts _ wd_165) (fun _ h9 => h9) rfl dX10_back_6 ?_
    refine va_get (D := D) (ci := 2) (v := .int (nI (N 0 3))) (C := RX2) (T := TX2) (N := 4) hx hb hts inX2 hown hK hw.2.1 1 rfl rfl 3 (by decide) (hts _ wd_106) (fun _ h9 => h9) rfl dX10_back_9 ?_
    refine i_icmp_le (tgt := 18) hx hb hk (nT (by omega)) dX10_back_12 (by decide) (fun c_2 => ?_) (fun c_2 => ?_)
    · obtain ⟨jq, hlt_jq, rfl, rfl⟩ := nat_ofK (n := N 0 3 + 1) hk (by omega) (by omega)
      refine lv_aload_n hx hb dX10_back_18 rfl (lv_at hl 0 rfl) ?_
      refine va_get (D := D) (ci := 10) (v := .ref (b 0)) (C := RX10) (T := TX10) (N := 8) hx hb hts inX10 hown hK hw.2.1 0 rfl rfl 2 (by decide) (hts _ wd_165) (fun _ h9 => h9) rfl dX10_back_19 ?_
      refine lv_dup hx hb dX10_back_22 rfl ?_
      refine va_get (D := D) (ci := 2) (v := .int (nI (N 0 3))) (C := RX2) (T := TX2) (N := 4) hx hb hts inX2 hown hK hw.2.1 1 rfl rfl 3 (by decide) (hts _ wd_106) (fun _ h9 => h9) rfl dX10_back_23 ?_
      refine lv_iload_n hx hb dX10_back_26 rfl (lv_at hl 1 rfl) ?_
      refine n_isub hx hb (by omega) dX10_back_27 ?_
      refine va_put (D := D) (ci := 2) (v := .int (nI ((N 0 3) - jq))) (ty := .int) (C := RX2) (T := TX2) (N := 4) hx hb hts inX2 tyX2 tyX2_ok nmX2 hown hK hw.2.1 hw.2.2 hS 1 rfl rfl 3 (by decide) (hts _ wd_106) (fun _ h9 => h9) rfl (by decide +kernel) rfl rfl (Nat.le_of_ble_eq_true rfl) dX10_back_28 (fun H locs hP hD hS => ?_)
      have hw : wdH D z (([(h, .inr (10, [.ref (A 0), .ref (A 1), .ref (b 0), .ref (nb 0), .ref (sb 0), .ref (A 2), .ref (v 0), .int (nI (N 0 4))])), ((b 0), .inr (2, [.ref (b 1), .ref (b 2), .ref (b 3), .int (nI ((N 0 3) - jq))])), ((b 1), .inl (ka 0, 8, .inl (fun j => nI (N 6 j)))), ((b 2), .inl (ka 0, 8, .inl (fun j => nI (N 7 j)))), ((b 3), .inl (ka 0, 8, .inl (fun j => nI (N 8 j)))), ((v 0), .inr (8, [.ref (v 1), .ref (v 2), .ref (v 3), .int (nI (N 0 0)), .int (nI (N 0 1)), .int (nI (N 0 2))])), ((v 1), .inl (ka 0, 6, .inl (wf))), ((v 2), .inl (ka 2, 5, .inr (.inr (.inr (.inr (tf)))))), ((v 3), .inl (ka 0, 5, .inl (df)))] : va_W) ++ (tkw ta N (N 0 1) ++ R)) H := ⟨Nat.le_trans hz0 hS.1, hP, hD⟩
      have hP : va_P D vwCl (kw ka v ta N wf df tf) H := kw_of (w := [(h, .inr (10, [.ref (A 0), .ref (A 1), .ref (b 0), .ref (nb 0), .ref (sb 0), .ref (A 2), .ref (v 0), .int (nI (N 0 4))])), ((b 0), .inr (2, [.ref (b 1), .ref (b 2), .ref (b 3), .int (nI ((N 0 3) - jq))])), ((b 1), .inl (ka 0, 8, .inl (fun j => nI (N 6 j)))), ((b 2), .inl (ka 0, 8, .inl (fun j => nI (N 7 j)))), ((b 3), .inl (ka 0, 8, .inl (fun j => nI (N 8 j))))]) (R := R) hw.2.1
      refine lv_aload_n hx hb dX10_back_31 rfl (lv_at hl 0 rfl) ?_
      refine va_get (D := D) (ci := 10) (v := .ref (b 0)) (C := RX10) (T := TX10) (N := 8) hx hb hts inX10 hown hK hw.2.1 0 rfl rfl 2 (by decide) (hts _ wd_165) (fun _ h9 => h9) rfl dX10_back_32 ?_
      refine va_get (D := D) (ci := 2) (v := .int (nI ((N 0 3) - jq))) (C := RX2) (T := TX2) (N := 4) hx hb hts inX2 hown hK hw.2.1 1 rfl rfl 3 (by decide) (hts _ wd_106) (fun _ h9 => h9) rfl dX10_back_35 ?_
      refine hret _ _ _ _ _ _ _ _ dX10_back_38 hS hw (Nat.zero_le _) (Nat.zero_le _) ⟨up N 0 3 (N 0 3 - jq), C, rfl, hV, ?_⟩
      unfold sp_back
      (repeat' split) <;> first | rfl | (exfalso; omega)
    · refine lv_bipush (v := (-2)) hx hb dX10_back_15 (by decide) ?_
      refine hret _ _ _ _ _ _ _ _ dX10_back_17 hS hw (Nat.zero_le _) (Nat.zero_le _) ⟨N, C, rfl, hV, ?_⟩
      unfold sp_back
      (repeat' split) <;> first | rfl | (exfalso; omega)
