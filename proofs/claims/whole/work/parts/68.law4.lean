set_option maxRecDepth 100000 in
set_option maxHeartbeats 4000000 in
theorem law_cell {p : Program} {l : Launch} {e : Env} {s : State} {m : MethodId} {below : List Frame} {meth : Method} {c : Code} {D : va_G} {ka : Nat → ClassId} {sc L : Nat} {xs : Nat → Int32} {Q : State → Prop} (X : Cx p s m #[Value.ref sc] c cL_law 4 RL D ka) (hXs : va_X sc L xs s s.heap) (hbl : sc < s.heap.size) (hL : L ≤ 384) {z : Nat} (hz : z = s.heap.size) {N : NN} {C : CC} (hN : OK N) {h hm j : Nat} (hj : 6 * j + 6 ≤ L) {H : Heap} {locs : List Loc} {ce sl : Nat} (hce : ce ≤ 100000) (hsl : sl ≤ 100000) (hI : INV D z ka h hm N C H) (hS : va_S (fun q => s.heap.size ≤ q) s.heap H locs) {ls : Array Slot} (hl : lv_has ls 4 [(3, .int (nI (6 * j))), (2, .ref hm), (1, .ref h), (0, .ref sc)])
    (kk : ∀ (N9 : NN) (C9 : CC) (H9 : Heap) (locs9 : List Loc) (ls9 : Array Slot), OK N9 → INV D z ka h hm N9 C9 H9 → va_S (fun q => s.heap.size ≤ q) s.heap H9 locs9 → lv_has ls9 4 [(3, .int (nI (6 * j))), (2, .ref hm), (1, .ref h), (0, .ref sc)] → W p l e room_1 s m #[Value.ref sc] below meth c H9 locs9 (ce + 60) (sl + 180) Q (F0 m 1234 ls9 [])) : W p l e room_1 s m #[Value.ref sc] below meth c H locs ce sl Q (F0 m 999 ls []) := by
  subst hz
  obtain ⟨hx, hb, hml, hown, hts, hE⟩ := id X
  have hK := hE.1
  obtain ⟨A, b, nb, sb, mr, v, d, rk, ta, ra, ca, am, cn, tq, bq, eq, kf, nf, mf, Mf, Gf, du, kd, nv, np, nt, ng, wf, df, wf2, df2, tf, tf2, f, g, hV, hMf, hGf, hw⟩ := hI
  refine lv_aload_n hx hb dL_law_999 rfl (lv_at hl 2 rfl) ?_
  refine lv_aload_n hx hb dL_law_1000 rfl (lv_at hl 3 rfl) ?_
  refine lv_iload_n hx hb dL_law_1001 rfl (lv_at hl 0 rfl) ?_
  refine lv_iconst (v := nI 1) hx hb dL_law_1002 (by decide) ?_
  refine n_iadd hx hb dL_law_1003 ?_
  refine n_sld hx hb hXs hbl hS (k := (6 * j) + 1) (by omega) hL dL_law_1004 ?_
  refine lv_aload_n hx hb dL_law_1005 rfl (lv_at hl 3 rfl) ?_
  refine lv_iload_n hx hb dL_law_1006 rfl (lv_at hl 0 rfl) ?_
  refine lv_iconst (v := nI 2) hx hb dL_law_1007 (by decide) ?_
  refine n_iadd hx hb dL_law_1008 ?_
  refine n_sld hx hb hXs hbl hS (k := (6 * j) + 2) (by omega) hL dL_law_1009 ?_
  refine lv_aload_n hx hb dL_law_1010 rfl (lv_at hl 3 rfl) ?_
  refine lv_iload_n hx hb dL_law_1011 rfl (lv_at hl 0 rfl) ?_
  refine lv_iconst (v := nI 3) hx hb dL_law_1012 (by decide) ?_
  refine n_iadd hx hb dL_law_1013 ?_
  refine n_sld hx hb hXs hbl hS (k := (6 * j) + 3) (by omega) hL dL_law_1014 ?_
  have hw : wdH D s.heap.size (List.flatten [rows ka ra ca N C, fvb h A b nb sb v (N 0 4), shb ka (A 0) N ra, rdb ka (A 1) (d 0) rk du kd nv kf nf mf, vlw ka d np nt ng wf2 df2 tf2, rdw ka b N, ngb ka nb cn tq bq eq, trb (A 2) (C 4 60), sdw ka sb mr Mf Gf, vlw ka v (N 0 0) (N 0 1) (N 0 2) wf df tf, tkw ta N (N 0 1), mw ka hm am N C f g]) H := wdH.fr 9 rfl hw
  have hw : wdH D s.heap.size (List.flatten [shb ka (A 0) N ra, rows ka ra ca N C, fvb h A b nb sb v (N 0 4), rdb ka (A 1) (d 0) rk du kd nv kf nf mf, vlw ka d np nt ng wf2 df2 tf2, rdw ka b N, ngb ka nb cn tq bq eq, trb (A 2) (C 4 60), sdw ka sb mr Mf Gf, vlw ka v (N 0 0) (N 0 1) (N 0 2) wf df tf, tkw ta N (N 0 1), mw ka hm am N C f g]) H := wdH.fr 2 rfl hw
  have hw : wdH D s.heap.size (List.flatten [fvb h A b nb sb v (N 0 4), shb ka (A 0) N ra, rows ka ra ca N C, rdb ka (A 1) (d 0) rk du kd nv kf nf mf, vlw ka d np nt ng wf2 df2 tf2, rdw ka b N, ngb ka nb cn tq bq eq, trb (A 2) (C 4 60), sdw ka sb mr Mf Gf, vlw ka v (N 0 0) (N 0 1) (N 0 2) wf df tf, tkw ta N (N 0 1), mw ka hm am N C f g]) H := wdH.fr 2 rfl hw
  refine mu_l (mu_runV (c_X10_cell l D ka s.heap.size  h A b nb sb v ra ca N hN.1  (xs ((6 * j) + 1)) _ rfl (xs ((6 * j) + 2)) _ rfl (xs ((6 * j) + 3)) _ rfl C (List.flatten [rdb ka (A 1) (d 0) rk du kd nv kf nf mf, vlw ka d np nt ng wf2 df2 tf2, rdw ka b N, ngb ka nb cn tq bq eq, trb (A 2) (C 4 60), sdw ka sb mr Mf Gf, vlw ka v (N 0 0) (N 0 1) (N 0 2) wf df tf, tkw ta N (N 0 1), mw ka hm am N C f g])) X wd_594 wd_591 wd_592 wd_593 wd_1 on_X10_cell ⟨Nat.le_of_ble_eq_true rfl, Nat.le_of_ble_eq_true rfl⟩ (va_recv hK hw.2.1 (ci := 10) (q0 := 0) rfl rfl) hw hl.1 rfl (Nat.le_of_ble_eq_true rfl) ⟨by show ce + 0 ≤ 600000; omega, by show sl + 0 ≤ 7302250; omega⟩ dL_law_1015) hS (fun r_2 u_1 H locs hp_u_1 hw hS => ?_)
  obtain ⟨N1, C1, rfl, hr1⟩ := hp_u_1
  have hw : wdH D s.heap.size (List.flatten [fvb h A b nb sb v (N1 0 4), shb ka (A 0) N1 ra, rows ka ra ca N1 C1, rdb ka (A 1) (d 0) rk du kd nv kf nf mf, vlw ka d np nt ng wf2 df2 tf2, rdw ka b N, ngb ka nb cn tq bq eq, trb (A 2) (C 4 60), sdw ka sb mr Mf Gf, vlw ka v (N 0 0) (N 0 1) (N 0 2) wf df tf, tkw ta N (N 0 1), mw ka hm am N C f g]) H := hw
  have hok1 : OK N1 := by
    have h9 : N1 = (sp_cell N C (xs ((6 * j) + 1)).toInt (xs ((6 * j) + 2)).toInt (xs ((6 * j) + 3)).toInt).2.1 := congrArg (fun q => q.2.1) hr1
    rw [h9]; exact ok_cell hN
  have hF := fr_cell hr1
  obtain ⟨hF1, hF2, hF3⟩ := hF
  rw [← rdw_e (ka := ka) (b := b) hF2] at hw
  rw [← kp_e (ka := ka) (v := v) (wf := wf) (df := df) (tf := tf) hF1] at hw
  rw [← tk_e (ta := ta) hF1] at hw
  rw [← hF3] at hw
  have hV1 := VR_e hF1 hV
  have hw : wdH D s.heap.size (List.flatten [fvb h A b nb sb v (N1 0 4), shb ka (A 0) N1 ra, rows ka ra ca N1 C1, rdb ka (A 1) (d 0) rk du kd nv kf nf mf, vlw ka d np nt ng wf2 df2 tf2, rdw ka b N1, ngb ka nb cn tq bq eq, trb (A 2) (C1 4 60), sdw ka sb mr Mf Gf, vlw ka v (N1 0 0) (N1 0 1) (N1 0 2) wf df tf, tkw ta N1 (N1 0 1), mw ka hm am N C f g]) H := hw
  have hw : wdH D s.heap.size (List.flatten [shb ka (A 0) N1 ra, rows ka ra ca N1 C1, fvb h A b nb sb v (N1 0 4), rdb ka (A 1) (d 0) rk du kd nv kf nf mf, vlw ka d np nt ng wf2 df2 tf2, rdw ka b N1, ngb ka nb cn tq bq eq, trb (A 2) (C1 4 60), sdw ka sb mr Mf Gf, vlw ka v (N1 0 0) (N1 0 1) (N1 0 2) wf df tf, tkw ta N1 (N1 0 1), mw ka hm am N C f g]) H := wdH.bk 2 hw
  have hw : wdH D s.heap.size (List.flatten [rows ka ra ca N1 C1, fvb h A b nb sb v (N1 0 4), shb ka (A 0) N1 ra, rdb ka (A 1) (d 0) rk du kd nv kf nf mf, vlw ka d np nt ng wf2 df2 tf2, rdw ka b N1, ngb ka nb cn tq bq eq, trb (A 2) (C1 4 60), sdw ka sb mr Mf Gf, vlw ka v (N1 0 0) (N1 0 1) (N1 0 2) wf df tf, tkw ta N1 (N1 0 1), mw ka hm am N C f g]) H := wdH.bk 2 hw
  have hw : wdH D s.heap.size (List.flatten [fvb h A b nb sb v (N1 0 4), shb ka (A 0) N1 ra, rdb ka (A 1) (d 0) rk du kd nv kf nf mf, vlw ka d np nt ng wf2 df2 tf2, rdw ka b N1, ngb ka nb cn tq bq eq, trb (A 2) (C1 4 60), sdw ka sb mr Mf Gf, vlw ka v (N1 0 0) (N1 0 1) (N1 0 2) wf df tf, rows ka ra ca N1 C1, tkw ta N1 (N1 0 1), mw ka hm am N C f g]) H := wdH.bk 9 hw
  refine lv_aload_n hx hb dL_law_1018 rfl (lv_at hl 1 rfl) ?_
  refine lv_aload_n hx hb dL_law_1019 rfl (lv_at hl 3 rfl) ?_
  refine lv_iload_n hx hb dL_law_1020 rfl (lv_at hl 0 rfl) ?_
  refine lv_iconst (v := nI 1) hx hb dL_law_1021 (by decide) ?_
  refine n_iadd hx hb dL_law_1022 ?_
  refine n_sld hx hb hXs hbl hS (k := (6 * j) + 1) (by omega) hL dL_law_1023 ?_
  refine lv_aload_n hx hb dL_law_1024 rfl (lv_at hl 3 rfl) ?_
  refine lv_iload_n hx hb dL_law_1025 rfl (lv_at hl 0 rfl) ?_
  refine lv_iconst (v := nI 2) hx hb dL_law_1026 (by decide) ?_
  refine n_iadd hx hb dL_law_1027 ?_
  refine n_sld hx hb hXs hbl hS (k := (6 * j) + 2) (by omega) hL dL_law_1028 ?_
  refine lv_aload_n hx hb dL_law_1029 rfl (lv_at hl 3 rfl) ?_
  refine lv_iload_n hx hb dL_law_1030 rfl (lv_at hl 0 rfl) ?_
  refine lv_iconst (v := nI 3) hx hb dL_law_1031 (by decide) ?_
  refine n_iadd hx hb dL_law_1032 ?_
  refine n_sld hx hb hXs hbl hS (k := (6 * j) + 3) (by omega) hL dL_law_1033 ?_
  have hw : wdH D s.heap.size (List.flatten [mw ka hm am N C f g, fvb h A b nb sb v (N1 0 4), shb ka (A 0) N1 ra, rdb ka (A 1) (d 0) rk du kd nv kf nf mf, vlw ka d np nt ng wf2 df2 tf2, rdw ka b N1, ngb ka nb cn tq bq eq, trb (A 2) (C1 4 60), sdw ka sb mr Mf Gf, vlw ka v (N1 0 0) (N1 0 1) (N1 0 2) wf df tf, rows ka ra ca N1 C1, tkw ta N1 (N1 0 1)]) H := wdH.fr 11 rfl hw
  refine mu_l (mu_runV (c_X11_cell l D ka s.heap.size hm am N C f g (List.flatten [fvb h A b nb sb v (N1 0 4), shb ka (A 0) N1 ra, rdb ka (A 1) (d 0) rk du kd nv kf nf mf, vlw ka d np nt ng wf2 df2 tf2, rdw ka b N1, ngb ka nb cn tq bq eq, trb (A 2) (C1 4 60), sdw ka sb mr Mf Gf, vlw ka v (N1 0 0) (N1 0 1) (N1 0 2) wf df tf, rows ka ra ca N1 C1, tkw ta N1 (N1 0 1)]) (xs ((6 * j) + 1)) (xs ((6 * j) + 2)) (xs ((6 * j) + 3)) _ _ _ rfl rfl rfl hN.1) X wd_975 wd_972 wd_973 wd_974 wd_8 on_X11_cell ⟨Nat.le_of_ble_eq_true rfl, Nat.le_of_ble_eq_true rfl⟩ (va_recv hK hw.2.1 (ci := 11) (q0 := 0) rfl rfl) hw hl.1 rfl (Nat.le_of_ble_eq_true rfl) ⟨by show ce + 0 ≤ 600000; omega, by show sl + 0 ≤ 7302250; omega⟩ dL_law_1034) hS (fun r_4 u_3 H locs hp_u_3 hw hS => ?_)
  obtain ⟨f2, g2, N2, C2, rfl, hr2⟩ := hp_u_3
  have hw : wdH D s.heap.size (List.flatten [mw ka hm am N2 C2 f2 g2, fvb h A b nb sb v (N1 0 4), shb ka (A 0) N1 ra, rdb ka (A 1) (d 0) rk du kd nv kf nf mf, vlw ka d np nt ng wf2 df2 tf2, rdw ka b N1, ngb ka nb cn tq bq eq, trb (A 2) (C1 4 60), sdw ka sb mr Mf Gf, vlw ka v (N1 0 0) (N1 0 1) (N1 0 2) wf df tf, rows ka ra ca N1 C1, tkw ta N1 (N1 0 1)]) H := hw
  have heq := hr1.trans hr2.symm
  obtain ⟨h91, h92⟩ := Prod.mk.inj heq
  obtain ⟨h93, h94⟩ := Prod.mk.inj h92
  subst h91 h93 h94
  have hw : wdH D s.heap.size (List.flatten [mw ka hm am N1 C1 f2 g2, fvb h A b nb sb v (N1 0 4), shb ka (A 0) N1 ra, rdb ka (A 1) (d 0) rk du kd nv kf nf mf, vlw ka d np nt ng wf2 df2 tf2, rdw ka b N1, ngb ka nb cn tq bq eq, trb (A 2) (C1 4 60), sdw ka sb mr Mf Gf, vlw ka v (N1 0 0) (N1 0 1) (N1 0 2) wf df tf, rows ka ra ca N1 C1, tkw ta N1 (N1 0 1)]) H := hw
  have hw : wdH D s.heap.size (List.flatten [fvb h A b nb sb v (N1 0 4), shb ka (A 0) N1 ra, rdb ka (A 1) (d 0) rk du kd nv kf nf mf, vlw ka d np nt ng wf2 df2 tf2, rdw ka b N1, ngb ka nb cn tq bq eq, trb (A 2) (C1 4 60), sdw ka sb mr Mf Gf, vlw ka v (N1 0 0) (N1 0 1) (N1 0 2) wf df tf, rows ka ra ca N1 C1, tkw ta N1 (N1 0 1), mw ka hm am N1 C1 f2 g2]) H := wdH.bk 11 hw
  refine W.lcmp hx hb dL_law_1037 ?_
  refine lv_if_eq (tgt := 1234) hx hb dL_law_1038 (by decide) (fun _ => ?_) (fun hne => absurd (ii_eq.mpr (lg_cmp0.mpr rfl)) hne)
  refine W.widen (k := ce + 60) (n := sl + 180) (by omega) (by omega) ?_
  exact kk _ _ H locs ls hok1 ⟨A, b, nb, sb, mr, v, d, rk, ta, ra, ca, am, cn, tq, bq, eq, kf, nf, mf, Mf, Gf, du, kd, nv, np, nt, ng, wf, df, wf2, df2, tf, tf2, f2, g2, hV1, hMf, hGf, hw⟩ hS hl
set_option maxRecDepth 100000 in
set_option maxHeartbeats 4000000 in
theorem law_copy {p : Program} {l : Launch} {e : Env} {s : State} {m : MethodId} {below : List Frame} {meth : Method} {c : Code} {D : va_G} {ka : Nat → ClassId} {sc L : Nat} {xs : Nat → Int32} {Q : State → Prop} (X : Cx p s m #[Value.ref sc] c cL_law 4 RL D ka) (hXs : va_X sc L xs s s.heap) (hbl : sc < s.heap.size) (hL : L ≤ 384) {z : Nat} (hz : z = s.heap.size) {N : NN} {C : CC} (hN : OK N) {h hm j : Nat} (hj : 6 * j + 6 ≤ L) {H : Heap} {locs : List Loc} {ce sl : Nat} (hce : ce ≤ 100000) (hsl : sl ≤ 100000) (hI : INV D z ka h hm N C H) (hS : va_S (fun q => s.heap.size ≤ q) s.heap H locs) {ls : Array Slot} (hl : lv_has ls 4 [(3, .int (nI (6 * j))), (2, .ref hm), (1, .ref h), (0, .ref sc)])
    (kk : ∀ (N9 : NN) (C9 : CC) (H9 : Heap) (locs9 : List Loc) (ls9 : Array Slot), OK N9 → INV D z ka h hm N9 C9 H9 → va_S (fun q => s.heap.size ≤ q) s.heap H9 locs9 → lv_has ls9 4 [(3, .int (nI (6 * j))), (2, .ref hm), (1, .ref h), (0, .ref sc)] → W p l e room_1 s m #[Value.ref sc] below meth c H9 locs9 (ce + 60) (sl + 180) Q (F0 m 1234 ls9 [])) : W p l e room_1 s m #[Value.ref sc] below meth c H locs ce sl Q (F0 m 1043 ls []) := by
  subst hz
  obtain ⟨hx, hb, hml, hown, hts, hE⟩ := id X
  have hK := hE.1
  obtain ⟨A, b, nb, sb, mr, v, d, rk, ta, ra, ca, am, cn, tq, bq, eq, kf, nf, mf, Mf, Gf, du, kd, nv, np, nt, ng, wf, df, wf2, df2, tf, tf2, f, g, hV, hMf, hGf, hw⟩ := hI
  refine lv_aload_n hx hb dL_law_1043 rfl (lv_at hl 2 rfl) ?_
  refine lv_aload_n hx hb dL_law_1044 rfl (lv_at hl 3 rfl) ?_
  refine lv_iload_n hx hb dL_law_1045 rfl (lv_at hl 0 rfl) ?_
  refine lv_iconst (v := nI 1) hx hb dL_law_1046 (by decide) ?_
  refine n_iadd hx hb dL_law_1047 ?_
  refine n_sld hx hb hXs hbl hS (k := (6 * j) + 1) (by omega) hL dL_law_1048 ?_
  refine lv_aload_n hx hb dL_law_1049 rfl (lv_at hl 3 rfl) ?_
  refine lv_iload_n hx hb dL_law_1050 rfl (lv_at hl 0 rfl) ?_
  refine lv_iconst (v := nI 2) hx hb dL_law_1051 (by decide) ?_
  refine n_iadd hx hb dL_law_1052 ?_
  refine n_sld hx hb hXs hbl hS (k := (6 * j) + 2) (by omega) hL dL_law_1053 ?_
  refine lv_aload_n hx hb dL_law_1054 rfl (lv_at hl 3 rfl) ?_
  refine lv_iload_n hx hb dL_law_1055 rfl (lv_at hl 0 rfl) ?_
  refine lv_iconst (v := nI 3) hx hb dL_law_1056 (by decide) ?_
  refine n_iadd hx hb dL_law_1057 ?_
  refine n_sld hx hb hXs hbl hS (k := (6 * j) + 3) (by omega) hL dL_law_1058 ?_
  refine lv_aload_n hx hb dL_law_1059 rfl (lv_at hl 3 rfl) ?_
  refine lv_iload_n hx hb dL_law_1060 rfl (lv_at hl 0 rfl) ?_
  refine lv_iconst (v := nI 4) hx hb dL_law_1061 (by decide) ?_
  refine n_iadd hx hb dL_law_1062 ?_
  refine n_sld hx hb hXs hbl hS (k := (6 * j) + 4) (by omega) hL dL_law_1063 ?_
  refine lv_aload_n hx hb dL_law_1064 rfl (lv_at hl 3 rfl) ?_
  refine lv_iload_n hx hb dL_law_1065 rfl (lv_at hl 0 rfl) ?_
  refine lv_iconst (v := nI 5) hx hb dL_law_1066 (by decide) ?_
  refine n_iadd hx hb dL_law_1067 ?_
  refine n_sld hx hb hXs hbl hS (k := (6 * j) + 5) (by omega) hL dL_law_1068 ?_
  have hw : wdH D s.heap.size (List.flatten [rows ka ra ca N C, fvb h A b nb sb v (N 0 4), shb ka (A 0) N ra, rdb ka (A 1) (d 0) rk du kd nv kf nf mf, vlw ka d np nt ng wf2 df2 tf2, rdw ka b N, ngb ka nb cn tq bq eq, trb (A 2) (C 4 60), sdw ka sb mr Mf Gf, vlw ka v (N 0 0) (N 0 1) (N 0 2) wf df tf, tkw ta N (N 0 1), mw ka hm am N C f g]) H := wdH.fr 9 rfl hw
  have hw : wdH D s.heap.size (List.flatten [shb ka (A 0) N ra, rows ka ra ca N C, fvb h A b nb sb v (N 0 4), rdb ka (A 1) (d 0) rk du kd nv kf nf mf, vlw ka d np nt ng wf2 df2 tf2, rdw ka b N, ngb ka nb cn tq bq eq, trb (A 2) (C 4 60), sdw ka sb mr Mf Gf, vlw ka v (N 0 0) (N 0 1) (N 0 2) wf df tf, tkw ta N (N 0 1), mw ka hm am N C f g]) H := wdH.fr 2 rfl hw
  have hw : wdH D s.heap.size (List.flatten [fvb h A b nb sb v (N 0 4), shb ka (A 0) N ra, rows ka ra ca N C, rdb ka (A 1) (d 0) rk du kd nv kf nf mf, vlw ka d np nt ng wf2 df2 tf2, rdw ka b N, ngb ka nb cn tq bq eq, trb (A 2) (C 4 60), sdw ka sb mr Mf Gf, vlw ka v (N 0 0) (N 0 1) (N 0 2) wf df tf, tkw ta N (N 0 1), mw ka hm am N C f g]) H := wdH.fr 2 rfl hw
  refine mu_i (mu_runV (c_X10_copy l D ka s.heap.size  h A b nb sb v ra ca N hN.1  (xs ((6 * j) + 1)) _ rfl (xs ((6 * j) + 2)) _ rfl (xs ((6 * j) + 3)) _ rfl (xs ((6 * j) + 4)) _ rfl (xs ((6 * j) + 5)) _ rfl C (List.flatten [rdb ka (A 1) (d 0) rk du kd nv kf nf mf, vlw ka d np nt ng wf2 df2 tf2, rdw ka b N, ngb ka nb cn tq bq eq, trb (A 2) (C 4 60), sdw ka sb mr Mf Gf, vlw ka v (N 0 0) (N 0 1) (N 0 2) wf df tf, tkw ta N (N 0 1), mw ka hm am N C f g])) X wd_602 wd_599 wd_600 wd_601 wd_1 on_X10_copy ⟨Nat.le_of_ble_eq_true rfl, Nat.le_of_ble_eq_true rfl⟩ (va_recv hK hw.2.1 (ci := 10) (q0 := 0) rfl rfl) hw hl.1 rfl (Nat.le_of_ble_eq_true rfl) ⟨by show ce + 0 ≤ 600000; omega, by show sl + 0 ≤ 7302250; omega⟩ dL_law_1069) hS (fun r_2 u_1 H locs hp_u_1 hw hS => ?_)
  obtain ⟨N1, C1, rfl, hr1⟩ := hp_u_1
  have hw : wdH D s.heap.size (List.flatten [fvb h A b nb sb v (N1 0 4), shb ka (A 0) N1 ra, rows ka ra ca N1 C1, rdb ka (A 1) (d 0) rk du kd nv kf nf mf, vlw ka d np nt ng wf2 df2 tf2, rdw ka b N, ngb ka nb cn tq bq eq, trb (A 2) (C 4 60), sdw ka sb mr Mf Gf, vlw ka v (N 0 0) (N 0 1) (N 0 2) wf df tf, tkw ta N (N 0 1), mw ka hm am N C f g]) H := hw
  have hok1 : OK N1 := by
    have h9 : N1 = (sp_copy N C (xs ((6 * j) + 1)).toInt (xs ((6 * j) + 2)).toInt (xs ((6 * j) + 3)).toInt (xs ((6 * j) + 4)).toInt (xs ((6 * j) + 5)).toInt).2.1 := congrArg (fun q => q.2.1) hr1
    rw [h9]; exact ok_copy hN
  have hF := fr_copy hr1
  obtain ⟨hF1, hF2, hF3⟩ := hF
  rw [← rdw_e (ka := ka) (b := b) hF2] at hw
  rw [← kp_e (ka := ka) (v := v) (wf := wf) (df := df) (tf := tf) hF1] at hw
  rw [← tk_e (ta := ta) hF1] at hw
  rw [← hF3] at hw
  have hV1 := VR_e hF1 hV
  have hw : wdH D s.heap.size (List.flatten [fvb h A b nb sb v (N1 0 4), shb ka (A 0) N1 ra, rows ka ra ca N1 C1, rdb ka (A 1) (d 0) rk du kd nv kf nf mf, vlw ka d np nt ng wf2 df2 tf2, rdw ka b N1, ngb ka nb cn tq bq eq, trb (A 2) (C1 4 60), sdw ka sb mr Mf Gf, vlw ka v (N1 0 0) (N1 0 1) (N1 0 2) wf df tf, tkw ta N1 (N1 0 1), mw ka hm am N C f g]) H := hw
  have hw : wdH D s.heap.size (List.flatten [shb ka (A 0) N1 ra, rows ka ra ca N1 C1, fvb h A b nb sb v (N1 0 4), rdb ka (A 1) (d 0) rk du kd nv kf nf mf, vlw ka d np nt ng wf2 df2 tf2, rdw ka b N1, ngb ka nb cn tq bq eq, trb (A 2) (C1 4 60), sdw ka sb mr Mf Gf, vlw ka v (N1 0 0) (N1 0 1) (N1 0 2) wf df tf, tkw ta N1 (N1 0 1), mw ka hm am N C f g]) H := wdH.bk 2 hw
  have hw : wdH D s.heap.size (List.flatten [rows ka ra ca N1 C1, fvb h A b nb sb v (N1 0 4), shb ka (A 0) N1 ra, rdb ka (A 1) (d 0) rk du kd nv kf nf mf, vlw ka d np nt ng wf2 df2 tf2, rdw ka b N1, ngb ka nb cn tq bq eq, trb (A 2) (C1 4 60), sdw ka sb mr Mf Gf, vlw ka v (N1 0 0) (N1 0 1) (N1 0 2) wf df tf, tkw ta N1 (N1 0 1), mw ka hm am N C f g]) H := wdH.bk 2 hw
  have hw : wdH D s.heap.size (List.flatten [fvb h A b nb sb v (N1 0 4), shb ka (A 0) N1 ra, rdb ka (A 1) (d 0) rk du kd nv kf nf mf, vlw ka d np nt ng wf2 df2 tf2, rdw ka b N1, ngb ka nb cn tq bq eq, trb (A 2) (C1 4 60), sdw ka sb mr Mf Gf, vlw ka v (N1 0 0) (N1 0 1) (N1 0 2) wf df tf, rows ka ra ca N1 C1, tkw ta N1 (N1 0 1), mw ka hm am N C f g]) H := wdH.bk 9 hw
  refine lv_aload_n hx hb dL_law_1072 rfl (lv_at hl 1 rfl) ?_
  refine lv_aload_n hx hb dL_law_1073 rfl (lv_at hl 3 rfl) ?_
  refine lv_iload_n hx hb dL_law_1074 rfl (lv_at hl 0 rfl) ?_
  refine lv_iconst (v := nI 1) hx hb dL_law_1075 (by decide) ?_
  refine n_iadd hx hb dL_law_1076 ?_
  refine n_sld hx hb hXs hbl hS (k := (6 * j) + 1) (by omega) hL dL_law_1077 ?_
  refine lv_aload_n hx hb dL_law_1078 rfl (lv_at hl 3 rfl) ?_
  refine lv_iload_n hx hb dL_law_1079 rfl (lv_at hl 0 rfl) ?_
  refine lv_iconst (v := nI 2) hx hb dL_law_1080 (by decide) ?_
  refine n_iadd hx hb dL_law_1081 ?_
  refine n_sld hx hb hXs hbl hS (k := (6 * j) + 2) (by omega) hL dL_law_1082 ?_
  refine lv_aload_n hx hb dL_law_1083 rfl (lv_at hl 3 rfl) ?_
  refine lv_iload_n hx hb dL_law_1084 rfl (lv_at hl 0 rfl) ?_
  refine lv_iconst (v := nI 3) hx hb dL_law_1085 (by decide) ?_
  refine n_iadd hx hb dL_law_1086 ?_
  refine n_sld hx hb hXs hbl hS (k := (6 * j) + 3) (by omega) hL dL_law_1087 ?_
  refine lv_aload_n hx hb dL_law_1088 rfl (lv_at hl 3 rfl) ?_
  refine lv_iload_n hx hb dL_law_1089 rfl (lv_at hl 0 rfl) ?_
  refine lv_iconst (v := nI 4) hx hb dL_law_1090 (by decide) ?_
  refine n_iadd hx hb dL_law_1091 ?_
  refine n_sld hx hb hXs hbl hS (k := (6 * j) + 4) (by omega) hL dL_law_1092 ?_
  refine lv_aload_n hx hb dL_law_1093 rfl (lv_at hl 3 rfl) ?_
  refine lv_iload_n hx hb dL_law_1094 rfl (lv_at hl 0 rfl) ?_
  refine lv_iconst (v := nI 5) hx hb dL_law_1095 (by decide) ?_
  refine n_iadd hx hb dL_law_1096 ?_
  refine n_sld hx hb hXs hbl hS (k := (6 * j) + 5) (by omega) hL dL_law_1097 ?_
  have hw : wdH D s.heap.size (List.flatten [mw ka hm am N C f g, fvb h A b nb sb v (N1 0 4), shb ka (A 0) N1 ra, rdb ka (A 1) (d 0) rk du kd nv kf nf mf, vlw ka d np nt ng wf2 df2 tf2, rdw ka b N1, ngb ka nb cn tq bq eq, trb (A 2) (C1 4 60), sdw ka sb mr Mf Gf, vlw ka v (N1 0 0) (N1 0 1) (N1 0 2) wf df tf, rows ka ra ca N1 C1, tkw ta N1 (N1 0 1)]) H := wdH.fr 11 rfl hw
  refine mu_i (mu_runV (c_X11_copy l D ka s.heap.size hm am N C f g (List.flatten [fvb h A b nb sb v (N1 0 4), shb ka (A 0) N1 ra, rdb ka (A 1) (d 0) rk du kd nv kf nf mf, vlw ka d np nt ng wf2 df2 tf2, rdw ka b N1, ngb ka nb cn tq bq eq, trb (A 2) (C1 4 60), sdw ka sb mr Mf Gf, vlw ka v (N1 0 0) (N1 0 1) (N1 0 2) wf df tf, rows ka ra ca N1 C1, tkw ta N1 (N1 0 1)]) (xs ((6 * j) + 1)) (xs ((6 * j) + 2)) (xs ((6 * j) + 3)) (xs ((6 * j) + 4)) (xs ((6 * j) + 5)) _ _ _ _ _ rfl rfl rfl rfl rfl hN.1) X wd_983 wd_980 wd_981 wd_982 wd_8 on_X11_copy ⟨Nat.le_of_ble_eq_true rfl, Nat.le_of_ble_eq_true rfl⟩ (va_recv hK hw.2.1 (ci := 11) (q0 := 0) rfl rfl) hw hl.1 rfl (Nat.le_of_ble_eq_true rfl) ⟨by show ce + 0 ≤ 600000; omega, by show sl + 0 ≤ 7302250; omega⟩ dL_law_1098) hS (fun r_4 u_3 H locs hp_u_3 hw hS => ?_)
  obtain ⟨f2, g2, N2, C2, rfl, hr2⟩ := hp_u_3
  have hw : wdH D s.heap.size (List.flatten [mw ka hm am N2 C2 f2 g2, fvb h A b nb sb v (N1 0 4), shb ka (A 0) N1 ra, rdb ka (A 1) (d 0) rk du kd nv kf nf mf, vlw ka d np nt ng wf2 df2 tf2, rdw ka b N1, ngb ka nb cn tq bq eq, trb (A 2) (C1 4 60), sdw ka sb mr Mf Gf, vlw ka v (N1 0 0) (N1 0 1) (N1 0 2) wf df tf, rows ka ra ca N1 C1, tkw ta N1 (N1 0 1)]) H := hw
  have heq := hr1.trans hr2.symm
  obtain ⟨h91, h92⟩ := Prod.mk.inj heq
  obtain ⟨h93, h94⟩ := Prod.mk.inj h92
  subst h91 h93 h94
  have hw : wdH D s.heap.size (List.flatten [mw ka hm am N1 C1 f2 g2, fvb h A b nb sb v (N1 0 4), shb ka (A 0) N1 ra, rdb ka (A 1) (d 0) rk du kd nv kf nf mf, vlw ka d np nt ng wf2 df2 tf2, rdw ka b N1, ngb ka nb cn tq bq eq, trb (A 2) (C1 4 60), sdw ka sb mr Mf Gf, vlw ka v (N1 0 0) (N1 0 1) (N1 0 2) wf df tf, rows ka ra ca N1 C1, tkw ta N1 (N1 0 1)]) H := hw
  have hw : wdH D s.heap.size (List.flatten [fvb h A b nb sb v (N1 0 4), shb ka (A 0) N1 ra, rdb ka (A 1) (d 0) rk du kd nv kf nf mf, vlw ka d np nt ng wf2 df2 tf2, rdw ka b N1, ngb ka nb cn tq bq eq, trb (A 2) (C1 4 60), sdw ka sb mr Mf Gf, vlw ka v (N1 0 0) (N1 0 1) (N1 0 2) wf df tf, rows ka ra ca N1 C1, tkw ta N1 (N1 0 1), mw ka hm am N1 C1 f2 g2]) H := wdH.bk 11 hw
  refine lv_icmp_eq (tgt := 1234) hx hb dL_law_1101 (by decide) (fun _ => ?_) (fun hne => absurd rfl hne)
  refine W.widen (k := ce + 60) (n := sl + 180) (by omega) (by omega) ?_
  exact kk _ _ H locs ls hok1 ⟨A, b, nb, sb, mr, v, d, rk, ta, ra, ca, am, cn, tq, bq, eq, kf, nf, mf, Mf, Gf, du, kd, nv, np, nt, ng, wf, df, wf2, df2, tf, tf2, f2, g2, hV1, hMf, hGf, hw⟩ hS hl
set_option maxRecDepth 100000 in
set_option maxHeartbeats 4000000 in
theorem law_tell {p : Program} {l : Launch} {e : Env} {s : State} {m : MethodId} {below : List Frame} {meth : Method} {c : Code} {D : va_G} {ka : Nat → ClassId} {sc L : Nat} {xs : Nat → Int32} {Q : State → Prop} (X : Cx p s m #[Value.ref sc] c cL_law 4 RL D ka) (hXs : va_X sc L xs s s.heap) (hbl : sc < s.heap.size) (hL : L ≤ 384) {z : Nat} (hz : z = s.heap.size) {N : NN} {C : CC} (hN : OK N) {h hm j : Nat} (hj : 6 * j + 6 ≤ L) {H : Heap} {locs : List Loc} {ce sl : Nat} (hce : ce ≤ 100000) (hsl : sl ≤ 100000) (hI : INV D z ka h hm N C H) (hS : va_S (fun q => s.heap.size ≤ q) s.heap H locs) {ls : Array Slot} (hl : lv_has ls 4 [(3, .int (nI (6 * j))), (2, .ref hm), (1, .ref h), (0, .ref sc)])
    (kk : ∀ (N9 : NN) (C9 : CC) (H9 : Heap) (locs9 : List Loc) (ls9 : Array Slot), OK N9 → INV D z ka h hm N9 C9 H9 → va_S (fun q => s.heap.size ≤ q) s.heap H9 locs9 → lv_has ls9 4 [(3, .int (nI (6 * j))), (2, .ref hm), (1, .ref h), (0, .ref sc)] → W p l e room_1 s m #[Value.ref sc] below meth c H9 locs9 (ce + 60) (sl + 180) Q (F0 m 1234 ls9 [])) : W p l e room_1 s m #[Value.ref sc] below meth c H locs ce sl Q (F0 m 1106 ls []) := by
  subst hz
  obtain ⟨hx, hb, hml, hown, hts, hE⟩ := id X
  have hK := hE.1
  obtain ⟨A, b, nb, sb, mr, v, d, rk, ta, ra, ca, am, cn, tq, bq, eq, kf, nf, mf, Mf, Gf, du, kd, nv, np, nt, ng, wf, df, wf2, df2, tf, tf2, f, g, hV, hMf, hGf, hw⟩ := hI
  refine lv_aload_n hx hb dL_law_1106 rfl (lv_at hl 2 rfl) ?_
  refine lv_aload_n hx hb dL_law_1107 rfl (lv_at hl 3 rfl) ?_
  refine lv_iload_n hx hb dL_law_1108 rfl (lv_at hl 0 rfl) ?_
  refine lv_iconst (v := nI 1) hx hb dL_law_1109 (by decide) ?_
  refine n_iadd hx hb dL_law_1110 ?_
  refine n_sld hx hb hXs hbl hS (k := (6 * j) + 1) (by omega) hL dL_law_1111 ?_
  have hw : wdH D s.heap.size (List.flatten [tkw ta N (N 0 1), fvb h A b nb sb v (N 0 4), shb ka (A 0) N ra, rdb ka (A 1) (d 0) rk du kd nv kf nf mf, vlw ka d np nt ng wf2 df2 tf2, rdw ka b N, ngb ka nb cn tq bq eq, trb (A 2) (C 4 60), sdw ka sb mr Mf Gf, vlw ka v (N 0 0) (N 0 1) (N 0 2) wf df tf, rows ka ra ca N C, mw ka hm am N C f g]) H := wdH.fr 10 rfl hw
  have hw : wdH D s.heap.size (List.flatten [vlw ka v (N 0 0) (N 0 1) (N 0 2) wf df tf, tkw ta N (N 0 1), fvb h A b nb sb v (N 0 4), shb ka (A 0) N ra, rdb ka (A 1) (d 0) rk du kd nv kf nf mf, vlw ka d np nt ng wf2 df2 tf2, rdw ka b N, ngb ka nb cn tq bq eq, trb (A 2) (C 4 60), sdw ka sb mr Mf Gf, rows ka ra ca N C, mw ka hm am N C f g]) H := wdH.fr 9 rfl hw
  have hw : wdH D s.heap.size (List.flatten [trb (A 2) (C 4 60), vlw ka v (N 0 0) (N 0 1) (N 0 2) wf df tf, tkw ta N (N 0 1), fvb h A b nb sb v (N 0 4), shb ka (A 0) N ra, rdb ka (A 1) (d 0) rk du kd nv kf nf mf, vlw ka d np nt ng wf2 df2 tf2, rdw ka b N, ngb ka nb cn tq bq eq, sdw ka sb mr Mf Gf, rows ka ra ca N C, mw ka hm am N C f g]) H := wdH.fr 8 rfl hw
  have hw : wdH D s.heap.size (List.flatten [fvb h A b nb sb v (N 0 4), trb (A 2) (C 4 60), vlw ka v (N 0 0) (N 0 1) (N 0 2) wf df tf, tkw ta N (N 0 1), shb ka (A 0) N ra, rdb ka (A 1) (d 0) rk du kd nv kf nf mf, vlw ka d np nt ng wf2 df2 tf2, rdw ka b N, ngb ka nb cn tq bq eq, sdw ka sb mr Mf Gf, rows ka ra ca N C, mw ka hm am N C f g]) H := wdH.fr 3 rfl hw
  refine mu_i (mu_runV (c_X10_tell l D ka s.heap.size  h A b nb sb v ta N wf df tf hV hN.1 hN.2  (xs ((6 * j) + 1)) _ rfl C (List.flatten [shb ka (A 0) N ra, rdb ka (A 1) (d 0) rk du kd nv kf nf mf, vlw ka d np nt ng wf2 df2 tf2, rdw ka b N, ngb ka nb cn tq bq eq, sdw ka sb mr Mf Gf, rows ka ra ca N C, mw ka hm am N C f g])) X wd_609 wd_606 wd_607 wd_608 wd_1 on_X10_tell ⟨Nat.le_of_ble_eq_true rfl, Nat.le_of_ble_eq_true rfl⟩ (va_recv hK hw.2.1 (ci := 10) (q0 := 0) rfl rfl) hw hl.1 rfl (Nat.le_of_ble_eq_true rfl) ⟨by show ce + 0 ≤ 600000; omega, by show sl + 0 ≤ 7302250; omega⟩ dL_law_1112) hS (fun r_2 u_1 H locs hp_u_1 hw hS => ?_)
  obtain ⟨N1, C1, rfl, hV1, hr1⟩ := hp_u_1
  have hw : wdH D s.heap.size (List.flatten [fvb h A b nb sb v (N1 0 4), trb (A 2) (C1 4 60), vlw ka v (N1 0 0) (N1 0 1) (N1 0 2) wf df tf, tkw ta N1 (N1 0 1), shb ka (A 0) N ra, rdb ka (A 1) (d 0) rk du kd nv kf nf mf, vlw ka d np nt ng wf2 df2 tf2, rdw ka b N, ngb ka nb cn tq bq eq, sdw ka sb mr Mf Gf, rows ka ra ca N C, mw ka hm am N C f g]) H := hw
  have hok1 : OK N1 := by
    have h9 : N1 = (sp_tell N C (xs ((6 * j) + 1)).toInt).2.1 := congrArg (fun q => q.2.1) hr1
    rw [h9]; exact ok_tell hN
  have hF := fr_tell hr1
  obtain ⟨hF1, hF2, hF3⟩ := hF
  rw [← shb_e (ka := ka) (a := A 0) (ra := ra) hF1] at hw
  rw [← rdw_e (ka := ka) (b := b) hF2] at hw
  rw [← rows_e (ka := ka) (ra := ra) (ca := ca) hF1 hF3] at hw
  have hw : wdH D s.heap.size (List.flatten [fvb h A b nb sb v (N1 0 4), trb (A 2) (C1 4 60), vlw ka v (N1 0 0) (N1 0 1) (N1 0 2) wf df tf, tkw ta N1 (N1 0 1), shb ka (A 0) N1 ra, rdb ka (A 1) (d 0) rk du kd nv kf nf mf, vlw ka d np nt ng wf2 df2 tf2, rdw ka b N1, ngb ka nb cn tq bq eq, sdw ka sb mr Mf Gf, rows ka ra ca N1 C1, mw ka hm am N C f g]) H := hw
  have hw : wdH D s.heap.size (List.flatten [trb (A 2) (C1 4 60), vlw ka v (N1 0 0) (N1 0 1) (N1 0 2) wf df tf, tkw ta N1 (N1 0 1), fvb h A b nb sb v (N1 0 4), shb ka (A 0) N1 ra, rdb ka (A 1) (d 0) rk du kd nv kf nf mf, vlw ka d np nt ng wf2 df2 tf2, rdw ka b N1, ngb ka nb cn tq bq eq, sdw ka sb mr Mf Gf, rows ka ra ca N1 C1, mw ka hm am N C f g]) H := wdH.bk 3 hw
  have hw : wdH D s.heap.size (List.flatten [vlw ka v (N1 0 0) (N1 0 1) (N1 0 2) wf df tf, tkw ta N1 (N1 0 1), fvb h A b nb sb v (N1 0 4), shb ka (A 0) N1 ra, rdb ka (A 1) (d 0) rk du kd nv kf nf mf, vlw ka d np nt ng wf2 df2 tf2, rdw ka b N1, ngb ka nb cn tq bq eq, trb (A 2) (C1 4 60), sdw ka sb mr Mf Gf, rows ka ra ca N1 C1, mw ka hm am N C f g]) H := wdH.bk 8 hw
  have hw : wdH D s.heap.size (List.flatten [tkw ta N1 (N1 0 1), fvb h A b nb sb v (N1 0 4), shb ka (A 0) N1 ra, rdb ka (A 1) (d 0) rk du kd nv kf nf mf, vlw ka d np nt ng wf2 df2 tf2, rdw ka b N1, ngb ka nb cn tq bq eq, trb (A 2) (C1 4 60), sdw ka sb mr Mf Gf, vlw ka v (N1 0 0) (N1 0 1) (N1 0 2) wf df tf, rows ka ra ca N1 C1, mw ka hm am N C f g]) H := wdH.bk 9 hw
  have hw : wdH D s.heap.size (List.flatten [fvb h A b nb sb v (N1 0 4), shb ka (A 0) N1 ra, rdb ka (A 1) (d 0) rk du kd nv kf nf mf, vlw ka d np nt ng wf2 df2 tf2, rdw ka b N1, ngb ka nb cn tq bq eq, trb (A 2) (C1 4 60), sdw ka sb mr Mf Gf, vlw ka v (N1 0 0) (N1 0 1) (N1 0 2) wf df tf, rows ka ra ca N1 C1, tkw ta N1 (N1 0 1), mw ka hm am N C f g]) H := wdH.bk 10 hw
  refine lv_aload_n hx hb dL_law_1115 rfl (lv_at hl 1 rfl) ?_
  refine lv_aload_n hx hb dL_law_1116 rfl (lv_at hl 3 rfl) ?_
  refine lv_iload_n hx hb dL_law_1117 rfl (lv_at hl 0 rfl) ?_
  refine lv_iconst (v := nI 1) hx hb dL_law_1118 (by decide) ?_
  refine n_iadd hx hb dL_law_1119 ?_
  refine n_sld hx hb hXs hbl hS (k := (6 * j) + 1) (by omega) hL dL_law_1120 ?_
  have hw : wdH D s.heap.size (List.flatten [mw ka hm am N C f g, fvb h A b nb sb v (N1 0 4), shb ka (A 0) N1 ra, rdb ka (A 1) (d 0) rk du kd nv kf nf mf, vlw ka d np nt ng wf2 df2 tf2, rdw ka b N1, ngb ka nb cn tq bq eq, trb (A 2) (C1 4 60), sdw ka sb mr Mf Gf, vlw ka v (N1 0 0) (N1 0 1) (N1 0 2) wf df tf, rows ka ra ca N1 C1, tkw ta N1 (N1 0 1)]) H := wdH.fr 11 rfl hw
  refine mu_i (mu_runV (c_X11_tell l D ka s.heap.size hm am N C f g (List.flatten [fvb h A b nb sb v (N1 0 4), shb ka (A 0) N1 ra, rdb ka (A 1) (d 0) rk du kd nv kf nf mf, vlw ka d np nt ng wf2 df2 tf2, rdw ka b N1, ngb ka nb cn tq bq eq, trb (A 2) (C1 4 60), sdw ka sb mr Mf Gf, vlw ka v (N1 0 0) (N1 0 1) (N1 0 2) wf df tf, rows ka ra ca N1 C1, tkw ta N1 (N1 0 1)]) (xs ((6 * j) + 1)) _ rfl hN.1) X wd_987 wd_984 wd_985 wd_986 wd_8 on_X11_tell ⟨Nat.le_of_ble_eq_true rfl, Nat.le_of_ble_eq_true rfl⟩ (va_recv hK hw.2.1 (ci := 11) (q0 := 0) rfl rfl) hw hl.1 rfl (Nat.le_of_ble_eq_true rfl) ⟨by show ce + 0 ≤ 600000; omega, by show sl + 0 ≤ 7302250; omega⟩ dL_law_1121) hS (fun r_4 u_3 H locs hp_u_3 hw hS => ?_)
  obtain ⟨f2, g2, N2, C2, rfl, hr2⟩ := hp_u_3
  have hw : wdH D s.heap.size (List.flatten [mw ka hm am N2 C2 f2 g2, fvb h A b nb sb v (N1 0 4), shb ka (A 0) N1 ra, rdb ka (A 1) (d 0) rk du kd nv kf nf mf, vlw ka d np nt ng wf2 df2 tf2, rdw ka b N1, ngb ka nb cn tq bq eq, trb (A 2) (C1 4 60), sdw ka sb mr Mf Gf, vlw ka v (N1 0 0) (N1 0 1) (N1 0 2) wf df tf, rows ka ra ca N1 C1, tkw ta N1 (N1 0 1)]) H := hw
  have heq := hr1.trans hr2.symm
  obtain ⟨h91, h92⟩ := Prod.mk.inj heq
  obtain ⟨h93, h94⟩ := Prod.mk.inj h92
  subst h91 h93 h94
  have hw : wdH D s.heap.size (List.flatten [mw ka hm am N1 C1 f2 g2, fvb h A b nb sb v (N1 0 4), shb ka (A 0) N1 ra, rdb ka (A 1) (d 0) rk du kd nv kf nf mf, vlw ka d np nt ng wf2 df2 tf2, rdw ka b N1, ngb ka nb cn tq bq eq, trb (A 2) (C1 4 60), sdw ka sb mr Mf Gf, vlw ka v (N1 0 0) (N1 0 1) (N1 0 2) wf df tf, rows ka ra ca N1 C1, tkw ta N1 (N1 0 1)]) H := hw
  have hw : wdH D s.heap.size (List.flatten [fvb h A b nb sb v (N1 0 4), shb ka (A 0) N1 ra, rdb ka (A 1) (d 0) rk du kd nv kf nf mf, vlw ka d np nt ng wf2 df2 tf2, rdw ka b N1, ngb ka nb cn tq bq eq, trb (A 2) (C1 4 60), sdw ka sb mr Mf Gf, vlw ka v (N1 0 0) (N1 0 1) (N1 0 2) wf df tf, rows ka ra ca N1 C1, tkw ta N1 (N1 0 1), mw ka hm am N1 C1 f2 g2]) H := wdH.bk 11 hw
  refine lv_icmp_eq (tgt := 1234) hx hb dL_law_1124 (by decide) (fun _ => ?_) (fun hne => absurd rfl hne)
  refine W.widen (k := ce + 60) (n := sl + 180) (by omega) (by omega) ?_
  exact kk _ _ H locs ls hok1 ⟨A, b, nb, sb, mr, v, d, rk, ta, ra, ca, am, cn, tq, bq, eq, kf, nf, mf, Mf, Gf, du, kd, nv, np, nt, ng, wf, df, wf2, df2, tf, tf2, f2, g2, hV1, hMf, hGf, hw⟩ hS hl
set_option maxRecDepth 100000 in
set_option maxHeartbeats 4000000 in
theorem law_ring {p : Program} {l : Launch} {e : Env} {s : State} {m : MethodId} {below : List Frame} {meth : Method} {c : Code} {D : va_G} {ka : Nat → ClassId} {sc L : Nat} {xs : Nat → Int32} {Q : State → Prop} (X : Cx p s m #[Value.ref sc] c cL_law 4 RL D ka) (hXs : va_X sc L xs s s.heap) (hbl : sc < s.heap.size) (hL : L ≤ 384) {z : Nat} (hz : z = s.heap.size) {N : NN} {C : CC} (hN : OK N) {h hm j : Nat} (hj : 6 * j + 6 ≤ L) {H : Heap} {locs : List Loc} {ce sl : Nat} (hce : ce ≤ 100000) (hsl : sl ≤ 100000) (hI : INV D z ka h hm N C H) (hS : va_S (fun q => s.heap.size ≤ q) s.heap H locs) {ls : Array Slot} (hl : lv_has ls 4 [(3, .int (nI (6 * j))), (2, .ref hm), (1, .ref h), (0, .ref sc)])
    (kk : ∀ (N9 : NN) (C9 : CC) (H9 : Heap) (locs9 : List Loc) (ls9 : Array Slot), OK N9 → INV D z ka h hm N9 C9 H9 → va_S (fun q => s.heap.size ≤ q) s.heap H9 locs9 → lv_has ls9 4 [(3, .int (nI (6 * j))), (2, .ref hm), (1, .ref h), (0, .ref sc)] → W p l e room_1 s m #[Value.ref sc] below meth c H9 locs9 (ce + 60) (sl + 180) Q (F0 m 1234 ls9 [])) : W p l e room_1 s m #[Value.ref sc] below meth c H locs ce sl Q (F0 m 1129 ls []) := by
  subst hz
  obtain ⟨hx, hb, hml, hown, hts, hE⟩ := id X
  have hK := hE.1
  obtain ⟨A, b, nb, sb, mr, v, d, rk, ta, ra, ca, am, cn, tq, bq, eq, kf, nf, mf, Mf, Gf, du, kd, nv, np, nt, ng, wf, df, wf2, df2, tf, tf2, f, g, hV, hMf, hGf, hw⟩ := hI
  refine lv_aload_n hx hb dL_law_1129 rfl (lv_at hl 2 rfl) ?_
  refine lv_aload_n hx hb dL_law_1130 rfl (lv_at hl 3 rfl) ?_
  refine lv_iload_n hx hb dL_law_1131 rfl (lv_at hl 0 rfl) ?_
  refine lv_iconst (v := nI 1) hx hb dL_law_1132 (by decide) ?_
  refine n_iadd hx hb dL_law_1133 ?_
  refine n_sld hx hb hXs hbl hS (k := (6 * j) + 1) (by omega) hL dL_law_1134 ?_
  have hw : wdH D s.heap.size (List.flatten [tkw ta N (N 0 1), fvb h A b nb sb v (N 0 4), shb ka (A 0) N ra, rdb ka (A 1) (d 0) rk du kd nv kf nf mf, vlw ka d np nt ng wf2 df2 tf2, rdw ka b N, ngb ka nb cn tq bq eq, trb (A 2) (C 4 60), sdw ka sb mr Mf Gf, vlw ka v (N 0 0) (N 0 1) (N 0 2) wf df tf, rows ka ra ca N C, mw ka hm am N C f g]) H := wdH.fr 10 rfl hw
  have hw : wdH D s.heap.size (List.flatten [vlw ka v (N 0 0) (N 0 1) (N 0 2) wf df tf, tkw ta N (N 0 1), fvb h A b nb sb v (N 0 4), shb ka (A 0) N ra, rdb ka (A 1) (d 0) rk du kd nv kf nf mf, vlw ka d np nt ng wf2 df2 tf2, rdw ka b N, ngb ka nb cn tq bq eq, trb (A 2) (C 4 60), sdw ka sb mr Mf Gf, rows ka ra ca N C, mw ka hm am N C f g]) H := wdH.fr 9 rfl hw
  have hw : wdH D s.heap.size (List.flatten [trb (A 2) (C 4 60), vlw ka v (N 0 0) (N 0 1) (N 0 2) wf df tf, tkw ta N (N 0 1), fvb h A b nb sb v (N 0 4), shb ka (A 0) N ra, rdb ka (A 1) (d 0) rk du kd nv kf nf mf, vlw ka d np nt ng wf2 df2 tf2, rdw ka b N, ngb ka nb cn tq bq eq, sdw ka sb mr Mf Gf, rows ka ra ca N C, mw ka hm am N C f g]) H := wdH.fr 8 rfl hw
  have hw : wdH D s.heap.size (List.flatten [fvb h A b nb sb v (N 0 4), trb (A 2) (C 4 60), vlw ka v (N 0 0) (N 0 1) (N 0 2) wf df tf, tkw ta N (N 0 1), shb ka (A 0) N ra, rdb ka (A 1) (d 0) rk du kd nv kf nf mf, vlw ka d np nt ng wf2 df2 tf2, rdw ka b N, ngb ka nb cn tq bq eq, sdw ka sb mr Mf Gf, rows ka ra ca N C, mw ka hm am N C f g]) H := wdH.fr 3 rfl hw
  refine mu_i (mu_runV (c_X10_ring l D ka s.heap.size  h A b nb sb v ta N wf df tf hV hN.1 hN.2  (xs ((6 * j) + 1)) _ rfl C (List.flatten [shb ka (A 0) N ra, rdb ka (A 1) (d 0) rk du kd nv kf nf mf, vlw ka d np nt ng wf2 df2 tf2, rdw ka b N, ngb ka nb cn tq bq eq, sdw ka sb mr Mf Gf, rows ka ra ca N C, mw ka hm am N C f g])) X wd_642 wd_639 wd_640 wd_641 wd_1 on_X10_ring ⟨Nat.le_of_ble_eq_true rfl, Nat.le_of_ble_eq_true rfl⟩ (va_recv hK hw.2.1 (ci := 10) (q0 := 0) rfl rfl) hw hl.1 rfl (Nat.le_of_ble_eq_true rfl) ⟨by show ce + 0 ≤ 600000; omega, by show sl + 0 ≤ 7302250; omega⟩ dL_law_1135) hS (fun r_2 u_1 H locs hp_u_1 hw hS => ?_)
  obtain ⟨N1, C1, rfl, hV1, hr1⟩ := hp_u_1
  have hw : wdH D s.heap.size (List.flatten [fvb h A b nb sb v (N1 0 4), trb (A 2) (C1 4 60), vlw ka v (N1 0 0) (N1 0 1) (N1 0 2) wf df tf, tkw ta N1 (N1 0 1), shb ka (A 0) N ra, rdb ka (A 1) (d 0) rk du kd nv kf nf mf, vlw ka d np nt ng wf2 df2 tf2, rdw ka b N, ngb ka nb cn tq bq eq, sdw ka sb mr Mf Gf, rows ka ra ca N C, mw ka hm am N C f g]) H := hw
  have hok1 : OK N1 := by
    have h9 : N1 = (sp_ring N C (xs ((6 * j) + 1)).toInt).2.1 := congrArg (fun q => q.2.1) hr1
    rw [h9]; exact ok_ring hN
  have hF := fr_ring hr1
  obtain ⟨hF1, hF2, hF3⟩ := hF
  rw [← shb_e (ka := ka) (a := A 0) (ra := ra) hF1] at hw
  rw [← rdw_e (ka := ka) (b := b) hF2] at hw
  rw [← rows_e (ka := ka) (ra := ra) (ca := ca) hF1 hF3] at hw
  have hw : wdH D s.heap.size (List.flatten [fvb h A b nb sb v (N1 0 4), trb (A 2) (C1 4 60), vlw ka v (N1 0 0) (N1 0 1) (N1 0 2) wf df tf, tkw ta N1 (N1 0 1), shb ka (A 0) N1 ra, rdb ka (A 1) (d 0) rk du kd nv kf nf mf, vlw ka d np nt ng wf2 df2 tf2, rdw ka b N1, ngb ka nb cn tq bq eq, sdw ka sb mr Mf Gf, rows ka ra ca N1 C1, mw ka hm am N C f g]) H := hw
  have hw : wdH D s.heap.size (List.flatten [trb (A 2) (C1 4 60), vlw ka v (N1 0 0) (N1 0 1) (N1 0 2) wf df tf, tkw ta N1 (N1 0 1), fvb h A b nb sb v (N1 0 4), shb ka (A 0) N1 ra, rdb ka (A 1) (d 0) rk du kd nv kf nf mf, vlw ka d np nt ng wf2 df2 tf2, rdw ka b N1, ngb ka nb cn tq bq eq, sdw ka sb mr Mf Gf, rows ka ra ca N1 C1, mw ka hm am N C f g]) H := wdH.bk 3 hw
  have hw : wdH D s.heap.size (List.flatten [vlw ka v (N1 0 0) (N1 0 1) (N1 0 2) wf df tf, tkw ta N1 (N1 0 1), fvb h A b nb sb v (N1 0 4), shb ka (A 0) N1 ra, rdb ka (A 1) (d 0) rk du kd nv kf nf mf, vlw ka d np nt ng wf2 df2 tf2, rdw ka b N1, ngb ka nb cn tq bq eq, trb (A 2) (C1 4 60), sdw ka sb mr Mf Gf, rows ka ra ca N1 C1, mw ka hm am N C f g]) H := wdH.bk 8 hw
  have hw : wdH D s.heap.size (List.flatten [tkw ta N1 (N1 0 1), fvb h A b nb sb v (N1 0 4), shb ka (A 0) N1 ra, rdb ka (A 1) (d 0) rk du kd nv kf nf mf, vlw ka d np nt ng wf2 df2 tf2, rdw ka b N1, ngb ka nb cn tq bq eq, trb (A 2) (C1 4 60), sdw ka sb mr Mf Gf, vlw ka v (N1 0 0) (N1 0 1) (N1 0 2) wf df tf, rows ka ra ca N1 C1, mw ka hm am N C f g]) H := wdH.bk 9 hw
  have hw : wdH D s.heap.size (List.flatten [fvb h A b nb sb v (N1 0 4), shb ka (A 0) N1 ra, rdb ka (A 1) (d 0) rk du kd nv kf nf mf, vlw ka d np nt ng wf2 df2 tf2, rdw ka b N1, ngb ka nb cn tq bq eq, trb (A 2) (C1 4 60), sdw ka sb mr Mf Gf, vlw ka v (N1 0 0) (N1 0 1) (N1 0 2) wf df tf, rows ka ra ca N1 C1, tkw ta N1 (N1 0 1), mw ka hm am N C f g]) H := wdH.bk 10 hw
  refine lv_aload_n hx hb dL_law_1138 rfl (lv_at hl 1 rfl) ?_
  refine lv_aload_n hx hb dL_law_1139 rfl (lv_at hl 3 rfl) ?_
  refine lv_iload_n hx hb dL_law_1140 rfl (lv_at hl 0 rfl) ?_
  refine lv_iconst (v := nI 1) hx hb dL_law_1141 (by decide) ?_
  refine n_iadd hx hb dL_law_1142 ?_
  refine n_sld hx hb hXs hbl hS (k := (6 * j) + 1) (by omega) hL dL_law_1143 ?_
  have hw : wdH D s.heap.size (List.flatten [mw ka hm am N C f g, fvb h A b nb sb v (N1 0 4), shb ka (A 0) N1 ra, rdb ka (A 1) (d 0) rk du kd nv kf nf mf, vlw ka d np nt ng wf2 df2 tf2, rdw ka b N1, ngb ka nb cn tq bq eq, trb (A 2) (C1 4 60), sdw ka sb mr Mf Gf, vlw ka v (N1 0 0) (N1 0 1) (N1 0 2) wf df tf, rows ka ra ca N1 C1, tkw ta N1 (N1 0 1)]) H := wdH.fr 11 rfl hw
  refine mu_i (mu_runV (c_X11_ring l D ka s.heap.size hm am N C f g (List.flatten [fvb h A b nb sb v (N1 0 4), shb ka (A 0) N1 ra, rdb ka (A 1) (d 0) rk du kd nv kf nf mf, vlw ka d np nt ng wf2 df2 tf2, rdw ka b N1, ngb ka nb cn tq bq eq, trb (A 2) (C1 4 60), sdw ka sb mr Mf Gf, vlw ka v (N1 0 0) (N1 0 1) (N1 0 2) wf df tf, rows ka ra ca N1 C1, tkw ta N1 (N1 0 1)]) (xs ((6 * j) + 1)) _ rfl hN.1) X wd_995 wd_992 wd_993 wd_994 wd_8 on_X11_ring ⟨Nat.le_of_ble_eq_true rfl, Nat.le_of_ble_eq_true rfl⟩ (va_recv hK hw.2.1 (ci := 11) (q0 := 0) rfl rfl) hw hl.1 rfl (Nat.le_of_ble_eq_true rfl) ⟨by show ce + 0 ≤ 600000; omega, by show sl + 0 ≤ 7302250; omega⟩ dL_law_1144) hS (fun r_4 u_3 H locs hp_u_3 hw hS => ?_)
  obtain ⟨f2, g2, N2, C2, rfl, hr2⟩ := hp_u_3
  have hw : wdH D s.heap.size (List.flatten [mw ka hm am N2 C2 f2 g2, fvb h A b nb sb v (N1 0 4), shb ka (A 0) N1 ra, rdb ka (A 1) (d 0) rk du kd nv kf nf mf, vlw ka d np nt ng wf2 df2 tf2, rdw ka b N1, ngb ka nb cn tq bq eq, trb (A 2) (C1 4 60), sdw ka sb mr Mf Gf, vlw ka v (N1 0 0) (N1 0 1) (N1 0 2) wf df tf, rows ka ra ca N1 C1, tkw ta N1 (N1 0 1)]) H := hw
  have heq := hr1.trans hr2.symm
  obtain ⟨h91, h92⟩ := Prod.mk.inj heq
  obtain ⟨h93, h94⟩ := Prod.mk.inj h92
  subst h91 h93 h94
  have hw : wdH D s.heap.size (List.flatten [mw ka hm am N1 C1 f2 g2, fvb h A b nb sb v (N1 0 4), shb ka (A 0) N1 ra, rdb ka (A 1) (d 0) rk du kd nv kf nf mf, vlw ka d np nt ng wf2 df2 tf2, rdw ka b N1, ngb ka nb cn tq bq eq, trb (A 2) (C1 4 60), sdw ka sb mr Mf Gf, vlw ka v (N1 0 0) (N1 0 1) (N1 0 2) wf df tf, rows ka ra ca N1 C1, tkw ta N1 (N1 0 1)]) H := hw
  have hw : wdH D s.heap.size (List.flatten [fvb h A b nb sb v (N1 0 4), shb ka (A 0) N1 ra, rdb ka (A 1) (d 0) rk du kd nv kf nf mf, vlw ka d np nt ng wf2 df2 tf2, rdw ka b N1, ngb ka nb cn tq bq eq, trb (A 2) (C1 4 60), sdw ka sb mr Mf Gf, vlw ka v (N1 0 0) (N1 0 1) (N1 0 2) wf df tf, rows ka ra ca N1 C1, tkw ta N1 (N1 0 1), mw ka hm am N1 C1 f2 g2]) H := wdH.bk 11 hw
  refine lv_icmp_eq (tgt := 1234) hx hb dL_law_1147 (by decide) (fun _ => ?_) (fun hne => absurd rfl hne)
  refine W.widen (k := ce + 60) (n := sl + 180) (by omega) (by omega) ?_
  exact kk _ _ H locs ls hok1 ⟨A, b, nb, sb, mr, v, d, rk, ta, ra, ca, am, cn, tq, bq, eq, kf, nf, mf, Mf, Gf, du, kd, nv, np, nt, ng, wf, df, wf2, df2, tf, tf2, f2, g2, hV1, hMf, hGf, hw⟩ hS hl
set_option maxRecDepth 100000 in
set_option maxHeartbeats 4000000 in
theorem law_as {p : Program} {l : Launch} {e : Env} {s : State} {m : MethodId} {below : List Frame} {meth : Method} {c : Code} {D : va_G} {ka : Nat → ClassId} {sc L : Nat} {xs : Nat → Int32} {Q : State → Prop} (X : Cx p s m #[Value.ref sc] c cL_law 4 RL D ka) (hXs : va_X sc L xs s s.heap) (hbl : sc < s.heap.size) (hL : L ≤ 384) {z : Nat} (hz : z = s.heap.size) {N : NN} {C : CC} (hN : OK N) {h hm j : Nat} (hj : 6 * j + 6 ≤ L) {H : Heap} {locs : List Loc} {ce sl : Nat} (hce : ce ≤ 100000) (hsl : sl ≤ 100000) (hI : INV D z ka h hm N C H) (hS : va_S (fun q => s.heap.size ≤ q) s.heap H locs) {ls : Array Slot} (hl : lv_has ls 4 [(3, .int (nI (6 * j))), (2, .ref hm), (1, .ref h), (0, .ref sc)])
    (kk : ∀ (N9 : NN) (C9 : CC) (H9 : Heap) (locs9 : List Loc) (ls9 : Array Slot), OK N9 → INV D z ka h hm N9 C9 H9 → va_S (fun q => s.heap.size ≤ q) s.heap H9 locs9 → lv_has ls9 4 [(3, .int (nI (6 * j))), (2, .ref hm), (1, .ref h), (0, .ref sc)] → W p l e room_1 s m #[Value.ref sc] below meth c H9 locs9 (ce + 60) (sl + 180) Q (F0 m 1234 ls9 [])) : W p l e room_1 s m #[Value.ref sc] below meth c H locs ce sl Q (F0 m 1152 ls []) := by
  subst hz
  obtain ⟨hx, hb, hml, hown, hts, hE⟩ := id X
  have hK := hE.1
  obtain ⟨A, b, nb, sb, mr, v, d, rk, ta, ra, ca, am, cn, tq, bq, eq, kf, nf, mf, Mf, Gf, du, kd, nv, np, nt, ng, wf, df, wf2, df2, tf, tf2, f, g, hV, hMf, hGf, hw⟩ := hI
  refine lv_aload_n hx hb dL_law_1152 rfl (lv_at hl 2 rfl) ?_
  refine lv_aload_n hx hb dL_law_1153 rfl (lv_at hl 3 rfl) ?_
  refine lv_iload_n hx hb dL_law_1154 rfl (lv_at hl 0 rfl) ?_
  refine lv_iconst (v := nI 1) hx hb dL_law_1155 (by decide) ?_
  refine n_iadd hx hb dL_law_1156 ?_
  refine n_sld hx hb hXs hbl hS (k := (6 * j) + 1) (by omega) hL dL_law_1157 ?_
  refine lv_aload_n hx hb dL_law_1158 rfl (lv_at hl 3 rfl) ?_
  refine lv_iload_n hx hb dL_law_1159 rfl (lv_at hl 0 rfl) ?_
  refine lv_iconst (v := nI 2) hx hb dL_law_1160 (by decide) ?_
  refine n_iadd hx hb dL_law_1161 ?_
  refine n_sld hx hb hXs hbl hS (k := (6 * j) + 2) (by omega) hL dL_law_1162 ?_
  have hw : wdH D s.heap.size (List.flatten [tkw ta N (N 0 1), fvb h A b nb sb v (N 0 4), shb ka (A 0) N ra, rdb ka (A 1) (d 0) rk du kd nv kf nf mf, vlw ka d np nt ng wf2 df2 tf2, rdw ka b N, ngb ka nb cn tq bq eq, trb (A 2) (C 4 60), sdw ka sb mr Mf Gf, vlw ka v (N 0 0) (N 0 1) (N 0 2) wf df tf, rows ka ra ca N C, mw ka hm am N C f g]) H := wdH.fr 10 rfl hw
  have hw : wdH D s.heap.size (List.flatten [vlw ka v (N 0 0) (N 0 1) (N 0 2) wf df tf, tkw ta N (N 0 1), fvb h A b nb sb v (N 0 4), shb ka (A 0) N ra, rdb ka (A 1) (d 0) rk du kd nv kf nf mf, vlw ka d np nt ng wf2 df2 tf2, rdw ka b N, ngb ka nb cn tq bq eq, trb (A 2) (C 4 60), sdw ka sb mr Mf Gf, rows ka ra ca N C, mw ka hm am N C f g]) H := wdH.fr 9 rfl hw
  have hw : wdH D s.heap.size (List.flatten [fvb h A b nb sb v (N 0 4), vlw ka v (N 0 0) (N 0 1) (N 0 2) wf df tf, tkw ta N (N 0 1), shb ka (A 0) N ra, rdb ka (A 1) (d 0) rk du kd nv kf nf mf, vlw ka d np nt ng wf2 df2 tf2, rdw ka b N, ngb ka nb cn tq bq eq, trb (A 2) (C 4 60), sdw ka sb mr Mf Gf, rows ka ra ca N C, mw ka hm am N C f g]) H := wdH.fr 2 rfl hw
  refine mu_i (mu_runV (c_X10_as l D ka s.heap.size  h A b nb sb v ta N wf df tf hV hN.1 hN.2  (xs ((6 * j) + 1)) _ rfl (xs ((6 * j) + 2)) _ rfl C (List.flatten [shb ka (A 0) N ra, rdb ka (A 1) (d 0) rk du kd nv kf nf mf, vlw ka d np nt ng wf2 df2 tf2, rdw ka b N, ngb ka nb cn tq bq eq, trb (A 2) (C 4 60), sdw ka sb mr Mf Gf, rows ka ra ca N C, mw ka hm am N C f g])) X wd_655 wd_652 wd_653 wd_654 wd_1 on_X10_as ⟨Nat.le_of_ble_eq_true rfl, Nat.le_of_ble_eq_true rfl⟩ (va_recv hK hw.2.1 (ci := 10) (q0 := 0) rfl rfl) hw hl.1 rfl (Nat.le_of_ble_eq_true rfl) ⟨by show ce + 0 ≤ 600000; omega, by show sl + 0 ≤ 7302250; omega⟩ dL_law_1163) hS (fun r_2 u_1 H locs hp_u_1 hw hS => ?_)
  obtain ⟨N1, C1, rfl, hV1, hr1⟩ := hp_u_1
  have hw : wdH D s.heap.size (List.flatten [fvb h A b nb sb v (N1 0 4), vlw ka v (N1 0 0) (N1 0 1) (N1 0 2) wf df tf, tkw ta N1 (N1 0 1), shb ka (A 0) N ra, rdb ka (A 1) (d 0) rk du kd nv kf nf mf, vlw ka d np nt ng wf2 df2 tf2, rdw ka b N, ngb ka nb cn tq bq eq, trb (A 2) (C 4 60), sdw ka sb mr Mf Gf, rows ka ra ca N C, mw ka hm am N C f g]) H := hw
  have hok1 : OK N1 := by
    have h9 : N1 = (sp_as N C (xs ((6 * j) + 1)).toInt (xs ((6 * j) + 2)).toInt).2.1 := congrArg (fun q => q.2.1) hr1
    rw [h9]; exact ok_as hN
  have hF := fr_as hr1
  obtain ⟨hF1, hF2, rfl⟩ := hF
  rw [← shb_e (ka := ka) (a := A 0) (ra := ra) hF1] at hw
  rw [← rdw_e (ka := ka) (b := b) hF2] at hw
  rw [← rows_e (ka := ka) (ra := ra) (ca := ca) hF1 (eRF.rf _)] at hw
  have hw : wdH D s.heap.size (List.flatten [fvb h A b nb sb v (N1 0 4), vlw ka v (N1 0 0) (N1 0 1) (N1 0 2) wf df tf, tkw ta N1 (N1 0 1), shb ka (A 0) N1 ra, rdb ka (A 1) (d 0) rk du kd nv kf nf mf, vlw ka d np nt ng wf2 df2 tf2, rdw ka b N1, ngb ka nb cn tq bq eq, trb (A 2) (C1 4 60), sdw ka sb mr Mf Gf, rows ka ra ca N1 C1, mw ka hm am N C1 f g]) H := hw
  have hw : wdH D s.heap.size (List.flatten [vlw ka v (N1 0 0) (N1 0 1) (N1 0 2) wf df tf, tkw ta N1 (N1 0 1), fvb h A b nb sb v (N1 0 4), shb ka (A 0) N1 ra, rdb ka (A 1) (d 0) rk du kd nv kf nf mf, vlw ka d np nt ng wf2 df2 tf2, rdw ka b N1, ngb ka nb cn tq bq eq, trb (A 2) (C1 4 60), sdw ka sb mr Mf Gf, rows ka ra ca N1 C1, mw ka hm am N C1 f g]) H := wdH.bk 2 hw
  have hw : wdH D s.heap.size (List.flatten [tkw ta N1 (N1 0 1), fvb h A b nb sb v (N1 0 4), shb ka (A 0) N1 ra, rdb ka (A 1) (d 0) rk du kd nv kf nf mf, vlw ka d np nt ng wf2 df2 tf2, rdw ka b N1, ngb ka nb cn tq bq eq, trb (A 2) (C1 4 60), sdw ka sb mr Mf Gf, vlw ka v (N1 0 0) (N1 0 1) (N1 0 2) wf df tf, rows ka ra ca N1 C1, mw ka hm am N C1 f g]) H := wdH.bk 9 hw
  have hw : wdH D s.heap.size (List.flatten [fvb h A b nb sb v (N1 0 4), shb ka (A 0) N1 ra, rdb ka (A 1) (d 0) rk du kd nv kf nf mf, vlw ka d np nt ng wf2 df2 tf2, rdw ka b N1, ngb ka nb cn tq bq eq, trb (A 2) (C1 4 60), sdw ka sb mr Mf Gf, vlw ka v (N1 0 0) (N1 0 1) (N1 0 2) wf df tf, rows ka ra ca N1 C1, tkw ta N1 (N1 0 1), mw ka hm am N C1 f g]) H := wdH.bk 10 hw
  refine lv_aload_n hx hb dL_law_1166 rfl (lv_at hl 1 rfl) ?_
  refine lv_aload_n hx hb dL_law_1167 rfl (lv_at hl 3 rfl) ?_
  refine lv_iload_n hx hb dL_law_1168 rfl (lv_at hl 0 rfl) ?_
  refine lv_iconst (v := nI 1) hx hb dL_law_1169 (by decide) ?_
  refine n_iadd hx hb dL_law_1170 ?_
  refine n_sld hx hb hXs hbl hS (k := (6 * j) + 1) (by omega) hL dL_law_1171 ?_
  refine lv_aload_n hx hb dL_law_1172 rfl (lv_at hl 3 rfl) ?_
  refine lv_iload_n hx hb dL_law_1173 rfl (lv_at hl 0 rfl) ?_
  refine lv_iconst (v := nI 2) hx hb dL_law_1174 (by decide) ?_
  refine n_iadd hx hb dL_law_1175 ?_
  refine n_sld hx hb hXs hbl hS (k := (6 * j) + 2) (by omega) hL dL_law_1176 ?_
  have hw : wdH D s.heap.size (List.flatten [mw ka hm am N C1 f g, fvb h A b nb sb v (N1 0 4), shb ka (A 0) N1 ra, rdb ka (A 1) (d 0) rk du kd nv kf nf mf, vlw ka d np nt ng wf2 df2 tf2, rdw ka b N1, ngb ka nb cn tq bq eq, trb (A 2) (C1 4 60), sdw ka sb mr Mf Gf, vlw ka v (N1 0 0) (N1 0 1) (N1 0 2) wf df tf, rows ka ra ca N1 C1, tkw ta N1 (N1 0 1)]) H := wdH.fr 11 rfl hw
  refine mu_i (mu_runV (c_X11_as l D ka s.heap.size hm am N C1 f g (List.flatten [fvb h A b nb sb v (N1 0 4), shb ka (A 0) N1 ra, rdb ka (A 1) (d 0) rk du kd nv kf nf mf, vlw ka d np nt ng wf2 df2 tf2, rdw ka b N1, ngb ka nb cn tq bq eq, trb (A 2) (C1 4 60), sdw ka sb mr Mf Gf, vlw ka v (N1 0 0) (N1 0 1) (N1 0 2) wf df tf, rows ka ra ca N1 C1, tkw ta N1 (N1 0 1)]) (xs ((6 * j) + 1)) (xs ((6 * j) + 2)) _ _ rfl rfl hN.1) X wd_999 wd_996 wd_997 wd_998 wd_8 on_X11_as ⟨Nat.le_of_ble_eq_true rfl, Nat.le_of_ble_eq_true rfl⟩ (va_recv hK hw.2.1 (ci := 11) (q0 := 0) rfl rfl) hw hl.1 rfl (Nat.le_of_ble_eq_true rfl) ⟨by show ce + 0 ≤ 600000; omega, by show sl + 0 ≤ 7302250; omega⟩ dL_law_1177) hS (fun r_4 u_3 H locs hp_u_3 hw hS => ?_)
  obtain ⟨f2, g2, N2, C2, rfl, hr2⟩ := hp_u_3
  have hw : wdH D s.heap.size (List.flatten [mw ka hm am N2 C2 f2 g2, fvb h A b nb sb v (N1 0 4), shb ka (A 0) N1 ra, rdb ka (A 1) (d 0) rk du kd nv kf nf mf, vlw ka d np nt ng wf2 df2 tf2, rdw ka b N1, ngb ka nb cn tq bq eq, trb (A 2) (C1 4 60), sdw ka sb mr Mf Gf, vlw ka v (N1 0 0) (N1 0 1) (N1 0 2) wf df tf, rows ka ra ca N1 C1, tkw ta N1 (N1 0 1)]) H := hw
  have heq := hr1.trans hr2.symm
  obtain ⟨h91, h92⟩ := Prod.mk.inj heq
  obtain ⟨h93, h94⟩ := Prod.mk.inj h92
  subst h91 h93 h94
  have hw : wdH D s.heap.size (List.flatten [mw ka hm am N1 C1 f2 g2, fvb h A b nb sb v (N1 0 4), shb ka (A 0) N1 ra, rdb ka (A 1) (d 0) rk du kd nv kf nf mf, vlw ka d np nt ng wf2 df2 tf2, rdw ka b N1, ngb ka nb cn tq bq eq, trb (A 2) (C1 4 60), sdw ka sb mr Mf Gf, vlw ka v (N1 0 0) (N1 0 1) (N1 0 2) wf df tf, rows ka ra ca N1 C1, tkw ta N1 (N1 0 1)]) H := hw
  have hw : wdH D s.heap.size (List.flatten [fvb h A b nb sb v (N1 0 4), shb ka (A 0) N1 ra, rdb ka (A 1) (d 0) rk du kd nv kf nf mf, vlw ka d np nt ng wf2 df2 tf2, rdw ka b N1, ngb ka nb cn tq bq eq, trb (A 2) (C1 4 60), sdw ka sb mr Mf Gf, vlw ka v (N1 0 0) (N1 0 1) (N1 0 2) wf df tf, rows ka ra ca N1 C1, tkw ta N1 (N1 0 1), mw ka hm am N1 C1 f2 g2]) H := wdH.bk 11 hw
  refine lv_icmp_eq (tgt := 1234) hx hb dL_law_1180 (by decide) (fun _ => ?_) (fun hne => absurd rfl hne)
  refine W.widen (k := ce + 60) (n := sl + 180) (by omega) (by omega) ?_
  exact kk _ _ H locs ls hok1 ⟨A, b, nb, sb, mr, v, d, rk, ta, ra, ca, am, cn, tq, bq, eq, kf, nf, mf, Mf, Gf, du, kd, nv, np, nt, ng, wf, df, wf2, df2, tf, tf2, f2, g2, hV1, hMf, hGf, hw⟩ hS hl
set_option maxRecDepth 100000 in
set_option maxHeartbeats 4000000 in
theorem law_trace {p : Program} {l : Launch} {e : Env} {s : State} {m : MethodId} {below : List Frame} {meth : Method} {c : Code} {D : va_G} {ka : Nat → ClassId} {sc L : Nat} {xs : Nat → Int32} {Q : State → Prop} (X : Cx p s m #[Value.ref sc] c cL_law 4 RL D ka) (hXs : va_X sc L xs s s.heap) (hbl : sc < s.heap.size) (hL : L ≤ 384) {z : Nat} (hz : z = s.heap.size) {N : NN} {C : CC} (hN : OK N) {h hm j : Nat} (hj : 6 * j + 6 ≤ L) {H : Heap} {locs : List Loc} {ce sl : Nat} (hce : ce ≤ 100000) (hsl : sl ≤ 100000) (hI : INV D z ka h hm N C H) (hS : va_S (fun q => s.heap.size ≤ q) s.heap H locs) {ls : Array Slot} (hl : lv_has ls 4 [(3, .int (nI (6 * j))), (2, .ref hm), (1, .ref h), (0, .ref sc)])
    (kk : ∀ (N9 : NN) (C9 : CC) (H9 : Heap) (locs9 : List Loc) (ls9 : Array Slot), OK N9 → INV D z ka h hm N9 C9 H9 → va_S (fun q => s.heap.size ≤ q) s.heap H9 locs9 → lv_has ls9 4 [(3, .int (nI (6 * j))), (2, .ref hm), (1, .ref h), (0, .ref sc)] → W p l e room_1 s m #[Value.ref sc] below meth c H9 locs9 (ce + 60) (sl + 180) Q (F0 m 1234 ls9 [])) : W p l e room_1 s m #[Value.ref sc] below meth c H locs ce sl Q (F0 m 1185 ls []) := by
  subst hz
  obtain ⟨hx, hb, hml, hown, hts, hE⟩ := id X
  have hK := hE.1
  obtain ⟨A, b, nb, sb, mr, v, d, rk, ta, ra, ca, am, cn, tq, bq, eq, kf, nf, mf, Mf, Gf, du, kd, nv, np, nt, ng, wf, df, wf2, df2, tf, tf2, f, g, hV, hMf, hGf, hw⟩ := hI
  refine lv_aload_n hx hb dL_law_1185 rfl (lv_at hl 2 rfl) ?_
  have hwf := hw
  have hwf : wdH D s.heap.size (List.flatten [tkw ta N (N 0 1), fvb h A b nb sb v (N 0 4), shb ka (A 0) N ra, rdb ka (A 1) (d 0) rk du kd nv kf nf mf, vlw ka d np nt ng wf2 df2 tf2, rdw ka b N, ngb ka nb cn tq bq eq, trb (A 2) (C 4 60), sdw ka sb mr Mf Gf, vlw ka v (N 0 0) (N 0 1) (N 0 2) wf df tf, rows ka ra ca N C, mw ka hm am N C f g]) H := wdH.fr 10 rfl hwf
  have hwf : wdH D s.heap.size (List.flatten [vlw ka v (N 0 0) (N 0 1) (N 0 2) wf df tf, tkw ta N (N 0 1), fvb h A b nb sb v (N 0 4), shb ka (A 0) N ra, rdb ka (A 1) (d 0) rk du kd nv kf nf mf, vlw ka d np nt ng wf2 df2 tf2, rdw ka b N, ngb ka nb cn tq bq eq, trb (A 2) (C 4 60), sdw ka sb mr Mf Gf, rows ka ra ca N C, mw ka hm am N C f g]) H := wdH.fr 9 rfl hwf
  have hwf : wdH D s.heap.size (List.flatten [trb (A 2) (C 4 60), vlw ka v (N 0 0) (N 0 1) (N 0 2) wf df tf, tkw ta N (N 0 1), fvb h A b nb sb v (N 0 4), shb ka (A 0) N ra, rdb ka (A 1) (d 0) rk du kd nv kf nf mf, vlw ka d np nt ng wf2 df2 tf2, rdw ka b N, ngb ka nb cn tq bq eq, sdw ka sb mr Mf Gf, rows ka ra ca N C, mw ka hm am N C f g]) H := wdH.fr 8 rfl hwf
  have hwf : wdH D s.heap.size (List.flatten [fvb h A b nb sb v (N 0 4), trb (A 2) (C 4 60), vlw ka v (N 0 0) (N 0 1) (N 0 2) wf df tf, tkw ta N (N 0 1), shb ka (A 0) N ra, rdb ka (A 1) (d 0) rk du kd nv kf nf mf, vlw ka d np nt ng wf2 df2 tf2, rdw ka b N, ngb ka nb cn tq bq eq, sdw ka sb mr Mf Gf, rows ka ra ca N C, mw ka hm am N C f g]) H := wdH.fr 3 rfl hwf
  have hkw : va_P D vwCl (kw ka v ta N wf df tf) H := kw_of (w := fvb h A b nb sb v (N 0 4) ++ trb (A 2) (C 4 60)) (R := List.flatten [shb ka (A 0) N ra, rdb ka (A 1) (d 0) rk du kd nv kf nf mf, vlw ka d np nt ng wf2 df2 tf2, rdw ka b N, ngb ka nb cn tq bq eq, sdw ka sb mr Mf Gf, rows ka ra ca N C, mw ka hm am N C f g]) hwf.2.1
  refine vp_callSi (ro_runV (c_X10_trace l D ka h A b nb sb v ta N wf df tf hV hN.1 hN.2  (C 4 60) _) X wd_659 wd_656 wd_657 wd_658 wd_1 on_X10_trace ⟨Nat.le_of_ble_eq_true rfl, Nat.le_of_ble_eq_true rfl⟩ (va_recv hK hwf.2.1 (ci := 10) (q0 := 0) rfl rfl) ⟨hwf.2.1, hkw⟩ hl.1 rfl (Nat.le_of_ble_eq_true rfl) ⟨(by show ce ≤ 600000; omega), (by show sl ≤ 7302250; omega)⟩ dL_law_1186) (fun r_1 hr_1 => ?_)
  subst hr_1
  refine lv_aload_n hx hb dL_law_1189 rfl (lv_at hl 1 rfl) ?_
  have hwm := hw
  have hwm : wdH D s.heap.size (List.flatten [mw ka hm am N C f g, fvb h A b nb sb v (N 0 4), shb ka (A 0) N ra, rdb ka (A 1) (d 0) rk du kd nv kf nf mf, vlw ka d np nt ng wf2 df2 tf2, rdw ka b N, ngb ka nb cn tq bq eq, trb (A 2) (C 4 60), sdw ka sb mr Mf Gf, vlw ka v (N 0 0) (N 0 1) (N 0 2) wf df tf, rows ka ra ca N C, tkw ta N (N 0 1)]) H := wdH.fr 11 rfl hwm
  refine vp_callSi (ro_runV (c_X11_trace l D ka hm am N C f g (List.flatten [fvb h A b nb sb v (N 0 4), shb ka (A 0) N ra, rdb ka (A 1) (d 0) rk du kd nv kf nf mf, vlw ka d np nt ng wf2 df2 tf2, rdw ka b N, ngb ka nb cn tq bq eq, trb (A 2) (C 4 60), sdw ka sb mr Mf Gf, vlw ka v (N 0 0) (N 0 1) (N 0 2) wf df tf, rows ka ra ca N C, tkw ta N (N 0 1)]) ) X wd_1003 wd_1000 wd_1001 wd_1002 wd_8 on_X11_trace ⟨Nat.le_of_ble_eq_true rfl, Nat.le_of_ble_eq_true rfl⟩ (va_recv hK hwm.2.1 (ci := 11) (q0 := 0) rfl rfl) hwm.2.1 hl.1 rfl (Nat.le_of_ble_eq_true rfl) ⟨(by show ce ≤ 600000; omega), (by show sl ≤ 7302250; omega)⟩ dL_law_1190) (fun r_2 hr_2 => ?_)
  subst hr_2
  refine lv_icmp_eq (tgt := 1234) hx hb dL_law_1193 (by decide) (fun _ => ?_) (fun hne => absurd rfl hne)
  refine W.widen (k := ce + 60) (n := sl + 180) (by omega) (by omega) ?_
  exact kk _ _ H locs ls hN ⟨A, b, nb, sb, mr, v, d, rk, ta, ra, ca, am, cn, tq, bq, eq, kf, nf, mf, Mf, Gf, du, kd, nv, np, nt, ng, wf, df, wf2, df2, tf, tf2, f, g, hV, hMf, hGf, hw⟩ hS hl
set_option maxRecDepth 100000 in
set_option maxHeartbeats 4000000 in
theorem law_fault {p : Program} {l : Launch} {e : Env} {s : State} {m : MethodId} {below : List Frame} {meth : Method} {c : Code} {D : va_G} {ka : Nat → ClassId} {sc L : Nat} {xs : Nat → Int32} {Q : State → Prop} (X : Cx p s m #[Value.ref sc] c cL_law 4 RL D ka) (hXs : va_X sc L xs s s.heap) (hbl : sc < s.heap.size) (hL : L ≤ 384) {z : Nat} (hz : z = s.heap.size) {N : NN} {C : CC} (hN : OK N) {h hm j : Nat} (hj : 6 * j + 6 ≤ L) {H : Heap} {locs : List Loc} {ce sl : Nat} (hce : ce ≤ 100000) (hsl : sl ≤ 100000) (hI : INV D z ka h hm N C H) (hS : va_S (fun q => s.heap.size ≤ q) s.heap H locs) {ls : Array Slot} (hl : lv_has ls 4 [(3, .int (nI (6 * j))), (2, .ref hm), (1, .ref h), (0, .ref sc)])
    (kk : ∀ (N9 : NN) (C9 : CC) (H9 : Heap) (locs9 : List Loc) (ls9 : Array Slot), OK N9 → INV D z ka h hm N9 C9 H9 → va_S (fun q => s.heap.size ≤ q) s.heap H9 locs9 → lv_has ls9 4 [(3, .int (nI (6 * j))), (2, .ref hm), (1, .ref h), (0, .ref sc)] → W p l e room_1 s m #[Value.ref sc] below meth c H9 locs9 (ce + 60) (sl + 180) Q (F0 m 1234 ls9 [])) : W p l e room_1 s m #[Value.ref sc] below meth c H locs ce sl Q (F0 m 1198 ls []) := by
  subst hz
  obtain ⟨hx, hb, hml, hown, hts, hE⟩ := id X
  have hK := hE.1
  obtain ⟨A, b, nb, sb, mr, v, d, rk, ta, ra, ca, am, cn, tq, bq, eq, kf, nf, mf, Mf, Gf, du, kd, nv, np, nt, ng, wf, df, wf2, df2, tf, tf2, f, g, hV, hMf, hGf, hw⟩ := hI
  refine lv_aload_n hx hb dL_law_1198 rfl (lv_at hl 2 rfl) ?_
  have hwf := hw
  have hwf : wdH D s.heap.size (List.flatten [tkw ta N (N 0 1), fvb h A b nb sb v (N 0 4), shb ka (A 0) N ra, rdb ka (A 1) (d 0) rk du kd nv kf nf mf, vlw ka d np nt ng wf2 df2 tf2, rdw ka b N, ngb ka nb cn tq bq eq, trb (A 2) (C 4 60), sdw ka sb mr Mf Gf, vlw ka v (N 0 0) (N 0 1) (N 0 2) wf df tf, rows ka ra ca N C, mw ka hm am N C f g]) H := wdH.fr 10 rfl hwf
  have hwf : wdH D s.heap.size (List.flatten [vlw ka v (N 0 0) (N 0 1) (N 0 2) wf df tf, tkw ta N (N 0 1), fvb h A b nb sb v (N 0 4), shb ka (A 0) N ra, rdb ka (A 1) (d 0) rk du kd nv kf nf mf, vlw ka d np nt ng wf2 df2 tf2, rdw ka b N, ngb ka nb cn tq bq eq, trb (A 2) (C 4 60), sdw ka sb mr Mf Gf, rows ka ra ca N C, mw ka hm am N C f g]) H := wdH.fr 9 rfl hwf
  have hwf : wdH D s.heap.size (List.flatten [fvb h A b nb sb v (N 0 4), vlw ka v (N 0 0) (N 0 1) (N 0 2) wf df tf, tkw ta N (N 0 1), shb ka (A 0) N ra, rdb ka (A 1) (d 0) rk du kd nv kf nf mf, vlw ka d np nt ng wf2 df2 tf2, rdw ka b N, ngb ka nb cn tq bq eq, trb (A 2) (C 4 60), sdw ka sb mr Mf Gf, rows ka ra ca N C, mw ka hm am N C f g]) H := wdH.fr 2 rfl hwf
  have hkw : va_P D vwCl (kw ka v ta N wf df tf) H := kw_of (w := fvb h A b nb sb v (N 0 4)) (R := List.flatten [shb ka (A 0) N ra, rdb ka (A 1) (d 0) rk du kd nv kf nf mf, vlw ka d np nt ng wf2 df2 tf2, rdw ka b N, ngb ka nb cn tq bq eq, trb (A 2) (C 4 60), sdw ka sb mr Mf Gf, rows ka ra ca N C, mw ka hm am N C f g]) hwf.2.1
  refine vp_callSi (ro_runV (c_X10_fault l D ka h A b nb sb v ta N wf df tf hV hN.1 hN.2  (List.flatten [vlw ka v (N 0 0) (N 0 1) (N 0 2) wf df tf, tkw ta N (N 0 1), shb ka (A 0) N ra, rdb ka (A 1) (d 0) rk du kd nv kf nf mf, vlw ka d np nt ng wf2 df2 tf2, rdw ka b N, ngb ka nb cn tq bq eq, trb (A 2) (C 4 60), sdw ka sb mr Mf Gf, rows ka ra ca N C, mw ka hm am N C f g])) X wd_663 wd_660 wd_661 wd_662 wd_1 on_X10_fault ⟨Nat.le_of_ble_eq_true rfl, Nat.le_of_ble_eq_true rfl⟩ (va_recv hK hwf.2.1 (ci := 10) (q0 := 0) rfl rfl) ⟨hwf.2.1, hkw⟩ hl.1 rfl (Nat.le_of_ble_eq_true rfl) ⟨(by show ce ≤ 600000; omega), (by show sl ≤ 7302250; omega)⟩ dL_law_1199) (fun r_1 hr_1 => ?_)
  subst hr_1
  refine lv_aload_n hx hb dL_law_1202 rfl (lv_at hl 1 rfl) ?_
  have hwm := hw
  have hwm : wdH D s.heap.size (List.flatten [mw ka hm am N C f g, fvb h A b nb sb v (N 0 4), shb ka (A 0) N ra, rdb ka (A 1) (d 0) rk du kd nv kf nf mf, vlw ka d np nt ng wf2 df2 tf2, rdw ka b N, ngb ka nb cn tq bq eq, trb (A 2) (C 4 60), sdw ka sb mr Mf Gf, vlw ka v (N 0 0) (N 0 1) (N 0 2) wf df tf, rows ka ra ca N C, tkw ta N (N 0 1)]) H := wdH.fr 11 rfl hwm
  refine vp_callSi (ro_runV (c_X11_fault l D ka hm am N C f g (List.flatten [fvb h A b nb sb v (N 0 4), shb ka (A 0) N ra, rdb ka (A 1) (d 0) rk du kd nv kf nf mf, vlw ka d np nt ng wf2 df2 tf2, rdw ka b N, ngb ka nb cn tq bq eq, trb (A 2) (C 4 60), sdw ka sb mr Mf Gf, vlw ka v (N 0 0) (N 0 1) (N 0 2) wf df tf, rows ka ra ca N C, tkw ta N (N 0 1)]) ) X wd_1007 wd_1004 wd_1005 wd_1006 wd_8 on_X11_fault ⟨Nat.le_of_ble_eq_true rfl, Nat.le_of_ble_eq_true rfl⟩ (va_recv hK hwm.2.1 (ci := 11) (q0 := 0) rfl rfl) hwm.2.1 hl.1 rfl (Nat.le_of_ble_eq_true rfl) ⟨(by show ce ≤ 600000; omega), (by show sl ≤ 7302250; omega)⟩ dL_law_1203) (fun r_2 hr_2 => ?_)
  subst hr_2
  refine lv_icmp_eq (tgt := 1234) hx hb dL_law_1206 (by decide) (fun _ => ?_) (fun hne => absurd rfl hne)
  refine W.widen (k := ce + 60) (n := sl + 180) (by omega) (by omega) ?_
  exact kk _ _ H locs ls hN ⟨A, b, nb, sb, mr, v, d, rk, ta, ra, ca, am, cn, tq, bq, eq, kf, nf, mf, Mf, Gf, du, kd, nv, np, nt, ng, wf, df, wf2, df2, tf, tf2, f, g, hV, hMf, hGf, hw⟩ hS hl
set_option maxRecDepth 100000 in
set_option maxHeartbeats 4000000 in
theorem law_many {p : Program} {l : Launch} {e : Env} {s : State} {m : MethodId} {below : List Frame} {meth : Method} {c : Code} {D : va_G} {ka : Nat → ClassId} {sc L : Nat} {xs : Nat → Int32} {Q : State → Prop} (X : Cx p s m #[Value.ref sc] c cL_law 4 RL D ka) (hXs : va_X sc L xs s s.heap) (hbl : sc < s.heap.size) (hL : L ≤ 384) {z : Nat} (hz : z = s.heap.size) {N : NN} {C : CC} (hN : OK N) {h hm j : Nat} (hj : 6 * j + 6 ≤ L) {H : Heap} {locs : List Loc} {ce sl : Nat} (hce : ce ≤ 100000) (hsl : sl ≤ 100000) (hI : INV D z ka h hm N C H) (hS : va_S (fun q => s.heap.size ≤ q) s.heap H locs) {ls : Array Slot} (hl : lv_has ls 4 [(3, .int (nI (6 * j))), (2, .ref hm), (1, .ref h), (0, .ref sc)])
    (kk : ∀ (N9 : NN) (C9 : CC) (H9 : Heap) (locs9 : List Loc) (ls9 : Array Slot), OK N9 → INV D z ka h hm N9 C9 H9 → va_S (fun q => s.heap.size ≤ q) s.heap H9 locs9 → lv_has ls9 4 [(3, .int (nI (6 * j))), (2, .ref hm), (1, .ref h), (0, .ref sc)] → W p l e room_1 s m #[Value.ref sc] below meth c H9 locs9 (ce + 60) (sl + 180) Q (F0 m 1234 ls9 [])) : W p l e room_1 s m #[Value.ref sc] below meth c H locs ce sl Q (F0 m 1211 ls []) := by
  subst hz
  obtain ⟨hx, hb, hml, hown, hts, hE⟩ := id X
  have hK := hE.1
  obtain ⟨A, b, nb, sb, mr, v, d, rk, ta, ra, ca, am, cn, tq, bq, eq, kf, nf, mf, Mf, Gf, du, kd, nv, np, nt, ng, wf, df, wf2, df2, tf, tf2, f, g, hV, hMf, hGf, hw⟩ := hI
  refine lv_aload_n hx hb dL_law_1211 rfl (lv_at hl 2 rfl) ?_
  refine lv_aload_n hx hb dL_law_1212 rfl (lv_at hl 3 rfl) ?_
  refine lv_iload_n hx hb dL_law_1213 rfl (lv_at hl 0 rfl) ?_
  refine lv_iconst (v := nI 1) hx hb dL_law_1214 (by decide) ?_
  refine n_iadd hx hb dL_law_1215 ?_
  refine n_sld hx hb hXs hbl hS (k := (6 * j) + 1) (by omega) hL dL_law_1216 ?_
  have hwf := hw
  have hwf : wdH D s.heap.size (List.flatten [tkw ta N (N 0 1), fvb h A b nb sb v (N 0 4), shb ka (A 0) N ra, rdb ka (A 1) (d 0) rk du kd nv kf nf mf, vlw ka d np nt ng wf2 df2 tf2, rdw ka b N, ngb ka nb cn tq bq eq, trb (A 2) (C 4 60), sdw ka sb mr Mf Gf, vlw ka v (N 0 0) (N 0 1) (N 0 2) wf df tf, rows ka ra ca N C, mw ka hm am N C f g]) H := wdH.fr 10 rfl hwf
  have hwf : wdH D s.heap.size (List.flatten [vlw ka v (N 0 0) (N 0 1) (N 0 2) wf df tf, tkw ta N (N 0 1), fvb h A b nb sb v (N 0 4), shb ka (A 0) N ra, rdb ka (A 1) (d 0) rk du kd nv kf nf mf, vlw ka d np nt ng wf2 df2 tf2, rdw ka b N, ngb ka nb cn tq bq eq, trb (A 2) (C 4 60), sdw ka sb mr Mf Gf, rows ka ra ca N C, mw ka hm am N C f g]) H := wdH.fr 9 rfl hwf
  have hwf : wdH D s.heap.size (List.flatten [rdw ka b N, vlw ka v (N 0 0) (N 0 1) (N 0 2) wf df tf, tkw ta N (N 0 1), fvb h A b nb sb v (N 0 4), shb ka (A 0) N ra, rdb ka (A 1) (d 0) rk du kd nv kf nf mf, vlw ka d np nt ng wf2 df2 tf2, ngb ka nb cn tq bq eq, trb (A 2) (C 4 60), sdw ka sb mr Mf Gf, rows ka ra ca N C, mw ka hm am N C f g]) H := wdH.fr 6 rfl hwf
  have hwf : wdH D s.heap.size (List.flatten [fvb h A b nb sb v (N 0 4), rdw ka b N, vlw ka v (N 0 0) (N 0 1) (N 0 2) wf df tf, tkw ta N (N 0 1), shb ka (A 0) N ra, rdb ka (A 1) (d 0) rk du kd nv kf nf mf, vlw ka d np nt ng wf2 df2 tf2, ngb ka nb cn tq bq eq, trb (A 2) (C 4 60), sdw ka sb mr Mf Gf, rows ka ra ca N C, mw ka hm am N C f g]) H := wdH.fr 3 rfl hwf
  have hkw : va_P D vwCl (kw ka v ta N wf df tf) H := kw_of (w := fvb h A b nb sb v (N 0 4) ++ rdw ka b N) (R := List.flatten [shb ka (A 0) N ra, rdb ka (A 1) (d 0) rk du kd nv kf nf mf, vlw ka d np nt ng wf2 df2 tf2, ngb ka nb cn tq bq eq, trb (A 2) (C 4 60), sdw ka sb mr Mf Gf, rows ka ra ca N C, mw ka hm am N C f g]) hwf.2.1
  refine vp_callSi (ro_runV (c_X10_many l D ka h A b nb sb v ta N wf df tf hV hN.1 hN.2 (xs ((6 * j) + 1)) _ rfl _) X wd_667 wd_664 wd_665 wd_666 wd_1 on_X10_many ⟨Nat.le_of_ble_eq_true rfl, Nat.le_of_ble_eq_true rfl⟩ (va_recv hK hwf.2.1 (ci := 10) (q0 := 0) rfl rfl) ⟨hwf.2.1, hkw⟩ hl.1 rfl (Nat.le_of_ble_eq_true rfl) ⟨(by show ce ≤ 600000; omega), (by show sl ≤ 7302250; omega)⟩ dL_law_1217) (fun r_1 hr_1 => ?_)
  subst hr_1
  refine lv_aload_n hx hb dL_law_1220 rfl (lv_at hl 1 rfl) ?_
  refine lv_aload_n hx hb dL_law_1221 rfl (lv_at hl 3 rfl) ?_
  refine lv_iload_n hx hb dL_law_1222 rfl (lv_at hl 0 rfl) ?_
  refine lv_iconst (v := nI 1) hx hb dL_law_1223 (by decide) ?_
  refine n_iadd hx hb dL_law_1224 ?_
  refine n_sld hx hb hXs hbl hS (k := (6 * j) + 1) (by omega) hL dL_law_1225 ?_
  have hwm := hw
  have hwm : wdH D s.heap.size (List.flatten [mw ka hm am N C f g, fvb h A b nb sb v (N 0 4), shb ka (A 0) N ra, rdb ka (A 1) (d 0) rk du kd nv kf nf mf, vlw ka d np nt ng wf2 df2 tf2, rdw ka b N, ngb ka nb cn tq bq eq, trb (A 2) (C 4 60), sdw ka sb mr Mf Gf, vlw ka v (N 0 0) (N 0 1) (N 0 2) wf df tf, rows ka ra ca N C, tkw ta N (N 0 1)]) H := wdH.fr 11 rfl hwm
  refine vp_callSi (ro_runV (c_X11_many l D ka hm am N C f g (List.flatten [fvb h A b nb sb v (N 0 4), shb ka (A 0) N ra, rdb ka (A 1) (d 0) rk du kd nv kf nf mf, vlw ka d np nt ng wf2 df2 tf2, rdw ka b N, ngb ka nb cn tq bq eq, trb (A 2) (C 4 60), sdw ka sb mr Mf Gf, vlw ka v (N 0 0) (N 0 1) (N 0 2) wf df tf, rows ka ra ca N C, tkw ta N (N 0 1)]) (xs ((6 * j) + 1)) _ rfl) X wd_1011 wd_1008 wd_1009 wd_1010 wd_8 on_X11_many ⟨Nat.le_of_ble_eq_true rfl, Nat.le_of_ble_eq_true rfl⟩ (va_recv hK hwm.2.1 (ci := 11) (q0 := 0) rfl rfl) hwm.2.1 hl.1 rfl (Nat.le_of_ble_eq_true rfl) ⟨(by show ce ≤ 600000; omega), (by show sl ≤ 7302250; omega)⟩ dL_law_1226) (fun r_2 hr_2 => ?_)
  subst hr_2
  refine lv_icmp_eq (tgt := 1234) hx hb dL_law_1229 (by decide) (fun _ => ?_) (fun hne => absurd rfl hne)
  refine W.widen (k := ce + 60) (n := sl + 180) (by omega) (by omega) ?_
  exact kk _ _ H locs ls hN ⟨A, b, nb, sb, mr, v, d, rk, ta, ra, ca, am, cn, tq, bq, eq, kf, nf, mf, Mf, Gf, du, kd, nv, np, nt, ng, wf, df, wf2, df2, tf, tf2, f, g, hV, hMf, hGf, hw⟩ hS hl
