set_option maxRecDepth 100000 in
set_option maxHeartbeats 4000000 in
theorem law_back {p : Program} {l : Launch} {e : Env} {s : State} {m : MethodId} {below : List Frame} {meth : Method} {c : Code} {D : va_G} {ka : Nat → ClassId} {sc L : Nat} {xs : Nat → Int32} {Q : State → Prop} (X : Cx p s m #[Value.ref sc] c cL_law 4 RL D ka) (hXs : va_X sc L xs s s.heap) (hbl : sc < s.heap.size) (hL : L ≤ 384) {z : Nat} (hz : z = s.heap.size) {N : NN} {C : CC} (hN : OK N) {h hm j : Nat} (hj : 6 * j + 6 ≤ L) {H : Heap} {locs : List Loc} {ce sl : Nat} (hce : ce ≤ 100000) (hsl : sl ≤ 100000) (hI : INV D z ka h hm N C H) (hS : va_S (fun q => s.heap.size ≤ q) s.heap H locs) {ls : Array Slot} (hl : lv_has ls 4 [(3, .int (nI (6 * j))), (2, .ref hm), (1, .ref h), (0, .ref sc)])
    (kk : ∀ (N9 : NN) (C9 : CC) (H9 : Heap) (locs9 : List Loc) (ls9 : Array Slot), OK N9 → INV D z ka h hm N9 C9 H9 → va_S (fun q => s.heap.size ≤ q) s.heap H9 locs9 → lv_has ls9 4 [(3, .int (nI (6 * j))), (2, .ref hm), (1, .ref h), (0, .ref sc)] → W p l e room_1 s m #[Value.ref sc] below meth c H9 locs9 (ce + 60) (sl + 180) Q (F0 m 1234 ls9 [])) : W p l e room_1 s m #[Value.ref sc] below meth c H locs ce sl Q (F0 m 754 ls []) := by
  subst hz
  obtain ⟨hx, hb, hml, hown, hts, hE⟩ := id X
  have hK := hE.1
  obtain ⟨A, b, nb, sb, mr, v, d, rk, ta, ra, ca, am, cn, tq, bq, eq, kf, nf, mf, Mf, Gf, du, kd, nv, np, nt, ng, wf, df, wf2, df2, tf, tf2, f, g, hV, hMf, hGf, hw⟩ := hI
  refine lv_aload_n hx hb dL_law_754 rfl (lv_at hl 2 rfl) ?_
  refine lv_aload_n hx hb dL_law_755 rfl (lv_at hl 3 rfl) ?_
  refine lv_iload_n hx hb dL_law_756 rfl (lv_at hl 0 rfl) ?_
  refine lv_iconst (v := nI 1) hx hb dL_law_757 (by decide) ?_
  refine n_iadd hx hb dL_law_758 ?_
  refine n_sld hx hb hXs hbl hS (k := (6 * j) + 1) (by omega) hL dL_law_759 ?_
  have hw : wdH D s.heap.size (List.flatten [tkw ta N (N 0 1), fvb h A b nb sb v (N 0 4), shb ka (A 0) N ra, rdb ka (A 1) (d 0) rk du kd nv kf nf mf, vlw ka d np nt ng wf2 df2 tf2, rdw ka b N, ngb ka nb cn tq bq eq, trb (A 2) (C 4 60), sdw ka sb mr Mf Gf, vlw ka v (N 0 0) (N 0 1) (N 0 2) wf df tf, rows ka ra ca N C, mw ka hm am N C f g]) H := wdH.fr 10 rfl hw
  have hw : wdH D s.heap.size (List.flatten [vlw ka v (N 0 0) (N 0 1) (N 0 2) wf df tf, tkw ta N (N 0 1), fvb h A b nb sb v (N 0 4), shb ka (A 0) N ra, rdb ka (A 1) (d 0) rk du kd nv kf nf mf, vlw ka d np nt ng wf2 df2 tf2, rdw ka b N, ngb ka nb cn tq bq eq, trb (A 2) (C 4 60), sdw ka sb mr Mf Gf, rows ka ra ca N C, mw ka hm am N C f g]) H := wdH.fr 9 rfl hw
  have hw : wdH D s.heap.size (List.flatten [rdw ka b N, vlw ka v (N 0 0) (N 0 1) (N 0 2) wf df tf, tkw ta N (N 0 1), fvb h A b nb sb v (N 0 4), shb ka (A 0) N ra, rdb ka (A 1) (d 0) rk du kd nv kf nf mf, vlw ka d np nt ng wf2 df2 tf2, ngb ka nb cn tq bq eq, trb (A 2) (C 4 60), sdw ka sb mr Mf Gf, rows ka ra ca N C, mw ka hm am N C f g]) H := wdH.fr 6 rfl hw
  have hw : wdH D s.heap.size (List.flatten [fvb h A b nb sb v (N 0 4), rdw ka b N, vlw ka v (N 0 0) (N 0 1) (N 0 2) wf df tf, tkw ta N (N 0 1), shb ka (A 0) N ra, rdb ka (A 1) (d 0) rk du kd nv kf nf mf, vlw ka d np nt ng wf2 df2 tf2, ngb ka nb cn tq bq eq, trb (A 2) (C 4 60), sdw ka sb mr Mf Gf, rows ka ra ca N C, mw ka hm am N C f g]) H := wdH.fr 3 rfl hw
  refine mu_i (mu_runV (c_X10_back l D ka s.heap.size  h A b nb sb v ta N wf df tf hV hN.1 hN.2  (xs ((6 * j) + 1)) _ rfl C (List.flatten [shb ka (A 0) N ra, rdb ka (A 1) (d 0) rk du kd nv kf nf mf, vlw ka d np nt ng wf2 df2 tf2, ngb ka nb cn tq bq eq, trb (A 2) (C 4 60), sdw ka sb mr Mf Gf, rows ka ra ca N C, mw ka hm am N C f g])) X wd_525 wd_522 wd_523 wd_524 wd_1 on_X10_back ⟨Nat.le_of_ble_eq_true rfl, Nat.le_of_ble_eq_true rfl⟩ (va_recv hK hw.2.1 (ci := 10) (q0 := 0) rfl rfl) hw hl.1 rfl (Nat.le_of_ble_eq_true rfl) ⟨by show ce + 0 ≤ 600000; omega, by show sl + 0 ≤ 7302250; omega⟩ dL_law_760) hS (fun r_2 u_1 H locs hp_u_1 hw hS => ?_)
  obtain ⟨N1, C1, rfl, hV1, hr1⟩ := hp_u_1
  have hw : wdH D s.heap.size (List.flatten [fvb h A b nb sb v (N1 0 4), rdw ka b N1, vlw ka v (N1 0 0) (N1 0 1) (N1 0 2) wf df tf, tkw ta N1 (N1 0 1), shb ka (A 0) N ra, rdb ka (A 1) (d 0) rk du kd nv kf nf mf, vlw ka d np nt ng wf2 df2 tf2, ngb ka nb cn tq bq eq, trb (A 2) (C 4 60), sdw ka sb mr Mf Gf, rows ka ra ca N C, mw ka hm am N C f g]) H := hw
  have hok1 : OK N1 := by
    have h9 : N1 = (sp_back N C (xs ((6 * j) + 1)).toInt).2.1 := congrArg (fun q => q.2.1) hr1
    rw [h9]; exact ok_back hN
  have hF := fr_back hr1
  obtain ⟨hF1, rfl⟩ := hF
  rw [← shb_e (ka := ka) (a := A 0) (ra := ra) hF1] at hw
  rw [← rows_e (ka := ka) (ra := ra) (ca := ca) hF1 (eRF.rf _)] at hw
  have hw : wdH D s.heap.size (List.flatten [fvb h A b nb sb v (N1 0 4), rdw ka b N1, vlw ka v (N1 0 0) (N1 0 1) (N1 0 2) wf df tf, tkw ta N1 (N1 0 1), shb ka (A 0) N1 ra, rdb ka (A 1) (d 0) rk du kd nv kf nf mf, vlw ka d np nt ng wf2 df2 tf2, ngb ka nb cn tq bq eq, trb (A 2) (C1 4 60), sdw ka sb mr Mf Gf, rows ka ra ca N1 C1, mw ka hm am N C1 f g]) H := hw
  have hw : wdH D s.heap.size (List.flatten [rdw ka b N1, vlw ka v (N1 0 0) (N1 0 1) (N1 0 2) wf df tf, tkw ta N1 (N1 0 1), fvb h A b nb sb v (N1 0 4), shb ka (A 0) N1 ra, rdb ka (A 1) (d 0) rk du kd nv kf nf mf, vlw ka d np nt ng wf2 df2 tf2, ngb ka nb cn tq bq eq, trb (A 2) (C1 4 60), sdw ka sb mr Mf Gf, rows ka ra ca N1 C1, mw ka hm am N C1 f g]) H := wdH.bk 3 hw
  have hw : wdH D s.heap.size (List.flatten [vlw ka v (N1 0 0) (N1 0 1) (N1 0 2) wf df tf, tkw ta N1 (N1 0 1), fvb h A b nb sb v (N1 0 4), shb ka (A 0) N1 ra, rdb ka (A 1) (d 0) rk du kd nv kf nf mf, vlw ka d np nt ng wf2 df2 tf2, rdw ka b N1, ngb ka nb cn tq bq eq, trb (A 2) (C1 4 60), sdw ka sb mr Mf Gf, rows ka ra ca N1 C1, mw ka hm am N C1 f g]) H := wdH.bk 6 hw
  have hw : wdH D s.heap.size (List.flatten [tkw ta N1 (N1 0 1), fvb h A b nb sb v (N1 0 4), shb ka (A 0) N1 ra, rdb ka (A 1) (d 0) rk du kd nv kf nf mf, vlw ka d np nt ng wf2 df2 tf2, rdw ka b N1, ngb ka nb cn tq bq eq, trb (A 2) (C1 4 60), sdw ka sb mr Mf Gf, vlw ka v (N1 0 0) (N1 0 1) (N1 0 2) wf df tf, rows ka ra ca N1 C1, mw ka hm am N C1 f g]) H := wdH.bk 9 hw
  have hw : wdH D s.heap.size (List.flatten [fvb h A b nb sb v (N1 0 4), shb ka (A 0) N1 ra, rdb ka (A 1) (d 0) rk du kd nv kf nf mf, vlw ka d np nt ng wf2 df2 tf2, rdw ka b N1, ngb ka nb cn tq bq eq, trb (A 2) (C1 4 60), sdw ka sb mr Mf Gf, vlw ka v (N1 0 0) (N1 0 1) (N1 0 2) wf df tf, rows ka ra ca N1 C1, tkw ta N1 (N1 0 1), mw ka hm am N C1 f g]) H := wdH.bk 10 hw
  refine lv_aload_n hx hb dL_law_763 rfl (lv_at hl 1 rfl) ?_
  refine lv_aload_n hx hb dL_law_764 rfl (lv_at hl 3 rfl) ?_
  refine lv_iload_n hx hb dL_law_765 rfl (lv_at hl 0 rfl) ?_
  refine lv_iconst (v := nI 1) hx hb dL_law_766 (by decide) ?_
  refine n_iadd hx hb dL_law_767 ?_
  refine n_sld hx hb hXs hbl hS (k := (6 * j) + 1) (by omega) hL dL_law_768 ?_
  have hw : wdH D s.heap.size (List.flatten [mw ka hm am N C1 f g, fvb h A b nb sb v (N1 0 4), shb ka (A 0) N1 ra, rdb ka (A 1) (d 0) rk du kd nv kf nf mf, vlw ka d np nt ng wf2 df2 tf2, rdw ka b N1, ngb ka nb cn tq bq eq, trb (A 2) (C1 4 60), sdw ka sb mr Mf Gf, vlw ka v (N1 0 0) (N1 0 1) (N1 0 2) wf df tf, rows ka ra ca N1 C1, tkw ta N1 (N1 0 1)]) H := wdH.fr 11 rfl hw
  refine mu_i (mu_runV (c_X11_back l D ka s.heap.size hm am N C1 f g (List.flatten [fvb h A b nb sb v (N1 0 4), shb ka (A 0) N1 ra, rdb ka (A 1) (d 0) rk du kd nv kf nf mf, vlw ka d np nt ng wf2 df2 tf2, rdw ka b N1, ngb ka nb cn tq bq eq, trb (A 2) (C1 4 60), sdw ka sb mr Mf Gf, vlw ka v (N1 0 0) (N1 0 1) (N1 0 2) wf df tf, rows ka ra ca N1 C1, tkw ta N1 (N1 0 1)]) (xs ((6 * j) + 1)) _ rfl hN.1) X wd_935 wd_932 wd_933 wd_934 wd_8 on_X11_back ⟨Nat.le_of_ble_eq_true rfl, Nat.le_of_ble_eq_true rfl⟩ (va_recv hK hw.2.1 (ci := 11) (q0 := 0) rfl rfl) hw hl.1 rfl (Nat.le_of_ble_eq_true rfl) ⟨by show ce + 0 ≤ 600000; omega, by show sl + 0 ≤ 7302250; omega⟩ dL_law_769) hS (fun r_4 u_3 H locs hp_u_3 hw hS => ?_)
  obtain ⟨f2, g2, N2, C2, rfl, hr2⟩ := hp_u_3
  have hw : wdH D s.heap.size (List.flatten [mw ka hm am N2 C2 f2 g2, fvb h A b nb sb v (N1 0 4), shb ka (A 0) N1 ra, rdb ka (A 1) (d 0) rk du kd nv kf nf mf, vlw ka d np nt ng wf2 df2 tf2, rdw ka b N1, ngb ka nb cn tq bq eq, trb (A 2) (C1 4 60), sdw ka sb mr Mf Gf, vlw ka v (N1 0 0) (N1 0 1) (N1 0 2) wf df tf, rows ka ra ca N1 C1, tkw ta N1 (N1 0 1)]) H := hw
  have heq := hr1.trans hr2.symm
  obtain ⟨h91, h92⟩ := Prod.mk.inj heq
  obtain ⟨h93, h94⟩ := Prod.mk.inj h92
  subst h91 h93 h94
  have hw : wdH D s.heap.size (List.flatten [mw ka hm am N1 C1 f2 g2, fvb h A b nb sb v (N1 0 4), shb ka (A 0) N1 ra, rdb ka (A 1) (d 0) rk du kd nv kf nf mf, vlw ka d np nt ng wf2 df2 tf2, rdw ka b N1, ngb ka nb cn tq bq eq, trb (A 2) (C1 4 60), sdw ka sb mr Mf Gf, vlw ka v (N1 0 0) (N1 0 1) (N1 0 2) wf df tf, rows ka ra ca N1 C1, tkw ta N1 (N1 0 1)]) H := hw
  have hw : wdH D s.heap.size (List.flatten [fvb h A b nb sb v (N1 0 4), shb ka (A 0) N1 ra, rdb ka (A 1) (d 0) rk du kd nv kf nf mf, vlw ka d np nt ng wf2 df2 tf2, rdw ka b N1, ngb ka nb cn tq bq eq, trb (A 2) (C1 4 60), sdw ka sb mr Mf Gf, vlw ka v (N1 0 0) (N1 0 1) (N1 0 2) wf df tf, rows ka ra ca N1 C1, tkw ta N1 (N1 0 1), mw ka hm am N1 C1 f2 g2]) H := wdH.bk 11 hw
  refine lv_icmp_eq (tgt := 1234) hx hb dL_law_772 (by decide) (fun _ => ?_) (fun hne => absurd rfl hne)
  refine W.widen (k := ce + 60) (n := sl + 180) (by omega) (by omega) ?_
  exact kk _ _ H locs ls hok1 ⟨A, b, nb, sb, mr, v, d, rk, ta, ra, ca, am, cn, tq, bq, eq, kf, nf, mf, Mf, Gf, du, kd, nv, np, nt, ng, wf, df, wf2, df2, tf, tf2, f2, g2, hV1, hMf, hGf, hw⟩ hS hl
set_option maxRecDepth 100000 in
set_option maxHeartbeats 4000000 in
theorem law_minds {p : Program} {l : Launch} {e : Env} {s : State} {m : MethodId} {below : List Frame} {meth : Method} {c : Code} {D : va_G} {ka : Nat → ClassId} {sc L : Nat} {xs : Nat → Int32} {Q : State → Prop} (X : Cx p s m #[Value.ref sc] c cL_law 4 RL D ka) (hXs : va_X sc L xs s s.heap) (hbl : sc < s.heap.size) (hL : L ≤ 384) {z : Nat} (hz : z = s.heap.size) {N : NN} {C : CC} (hN : OK N) {h hm j : Nat} (hj : 6 * j + 6 ≤ L) {H : Heap} {locs : List Loc} {ce sl : Nat} (hce : ce ≤ 100000) (hsl : sl ≤ 100000) (hI : INV D z ka h hm N C H) (hS : va_S (fun q => s.heap.size ≤ q) s.heap H locs) {ls : Array Slot} (hl : lv_has ls 4 [(3, .int (nI (6 * j))), (2, .ref hm), (1, .ref h), (0, .ref sc)])
    (kk : ∀ (N9 : NN) (C9 : CC) (H9 : Heap) (locs9 : List Loc) (ls9 : Array Slot), OK N9 → INV D z ka h hm N9 C9 H9 → va_S (fun q => s.heap.size ≤ q) s.heap H9 locs9 → lv_has ls9 4 [(3, .int (nI (6 * j))), (2, .ref hm), (1, .ref h), (0, .ref sc)] → W p l e room_1 s m #[Value.ref sc] below meth c H9 locs9 (ce + 60) (sl + 180) Q (F0 m 1234 ls9 [])) : W p l e room_1 s m #[Value.ref sc] below meth c H locs ce sl Q (F0 m 777 ls []) := by
  subst hz
  obtain ⟨hx, hb, hml, hown, hts, hE⟩ := id X
  have hK := hE.1
  obtain ⟨A, b, nb, sb, mr, v, d, rk, ta, ra, ca, am, cn, tq, bq, eq, kf, nf, mf, Mf, Gf, du, kd, nv, np, nt, ng, wf, df, wf2, df2, tf, tf2, f, g, hV, hMf, hGf, hw⟩ := hI
  refine lv_aload_n hx hb dL_law_777 rfl (lv_at hl 2 rfl) ?_
  refine lv_aload_n hx hb dL_law_778 rfl (lv_at hl 3 rfl) ?_
  refine lv_iload_n hx hb dL_law_779 rfl (lv_at hl 0 rfl) ?_
  refine lv_iconst (v := nI 1) hx hb dL_law_780 (by decide) ?_
  refine n_iadd hx hb dL_law_781 ?_
  refine n_sld hx hb hXs hbl hS (k := (6 * j) + 1) (by omega) hL dL_law_782 ?_
  have hw : wdH D s.heap.size (List.flatten [tkw ta N (N 0 1), fvb h A b nb sb v (N 0 4), shb ka (A 0) N ra, rdb ka (A 1) (d 0) rk du kd nv kf nf mf, vlw ka d np nt ng wf2 df2 tf2, rdw ka b N, ngb ka nb cn tq bq eq, trb (A 2) (C 4 60), sdw ka sb mr Mf Gf, vlw ka v (N 0 0) (N 0 1) (N 0 2) wf df tf, rows ka ra ca N C, mw ka hm am N C f g]) H := wdH.fr 10 rfl hw
  have hw : wdH D s.heap.size (List.flatten [vlw ka v (N 0 0) (N 0 1) (N 0 2) wf df tf, tkw ta N (N 0 1), fvb h A b nb sb v (N 0 4), shb ka (A 0) N ra, rdb ka (A 1) (d 0) rk du kd nv kf nf mf, vlw ka d np nt ng wf2 df2 tf2, rdw ka b N, ngb ka nb cn tq bq eq, trb (A 2) (C 4 60), sdw ka sb mr Mf Gf, rows ka ra ca N C, mw ka hm am N C f g]) H := wdH.fr 9 rfl hw
  have hw : wdH D s.heap.size (List.flatten [rdw ka b N, vlw ka v (N 0 0) (N 0 1) (N 0 2) wf df tf, tkw ta N (N 0 1), fvb h A b nb sb v (N 0 4), shb ka (A 0) N ra, rdb ka (A 1) (d 0) rk du kd nv kf nf mf, vlw ka d np nt ng wf2 df2 tf2, ngb ka nb cn tq bq eq, trb (A 2) (C 4 60), sdw ka sb mr Mf Gf, rows ka ra ca N C, mw ka hm am N C f g]) H := wdH.fr 6 rfl hw
  have hw : wdH D s.heap.size (List.flatten [fvb h A b nb sb v (N 0 4), rdw ka b N, vlw ka v (N 0 0) (N 0 1) (N 0 2) wf df tf, tkw ta N (N 0 1), shb ka (A 0) N ra, rdb ka (A 1) (d 0) rk du kd nv kf nf mf, vlw ka d np nt ng wf2 df2 tf2, ngb ka nb cn tq bq eq, trb (A 2) (C 4 60), sdw ka sb mr Mf Gf, rows ka ra ca N C, mw ka hm am N C f g]) H := wdH.fr 3 rfl hw
  refine mu_i (mu_runV (c_X10_minds l D ka s.heap.size  h A b nb sb v ta N wf df tf hV hN.1 hN.2  (xs ((6 * j) + 1)) _ rfl C (List.flatten [shb ka (A 0) N ra, rdb ka (A 1) (d 0) rk du kd nv kf nf mf, vlw ka d np nt ng wf2 df2 tf2, ngb ka nb cn tq bq eq, trb (A 2) (C 4 60), sdw ka sb mr Mf Gf, rows ka ra ca N C, mw ka hm am N C f g])) X wd_529 wd_526 wd_527 wd_528 wd_1 on_X10_minds ⟨Nat.le_of_ble_eq_true rfl, Nat.le_of_ble_eq_true rfl⟩ (va_recv hK hw.2.1 (ci := 10) (q0 := 0) rfl rfl) hw hl.1 rfl (Nat.le_of_ble_eq_true rfl) ⟨by show ce + 0 ≤ 600000; omega, by show sl + 0 ≤ 7302250; omega⟩ dL_law_783) hS (fun r_2 u_1 H locs hp_u_1 hw hS => ?_)
  obtain ⟨N1, C1, rfl, hV1, hr1⟩ := hp_u_1
  have hw : wdH D s.heap.size (List.flatten [fvb h A b nb sb v (N1 0 4), rdw ka b N1, vlw ka v (N1 0 0) (N1 0 1) (N1 0 2) wf df tf, tkw ta N1 (N1 0 1), shb ka (A 0) N ra, rdb ka (A 1) (d 0) rk du kd nv kf nf mf, vlw ka d np nt ng wf2 df2 tf2, ngb ka nb cn tq bq eq, trb (A 2) (C 4 60), sdw ka sb mr Mf Gf, rows ka ra ca N C, mw ka hm am N C f g]) H := hw
  have hok1 : OK N1 := by
    have h9 : N1 = (sp_minds N C (xs ((6 * j) + 1)).toInt).2.1 := congrArg (fun q => q.2.1) hr1
    rw [h9]; exact ok_minds hN
  have hF := fr_minds hr1
  obtain ⟨hF1, rfl⟩ := hF
  rw [← shb_e (ka := ka) (a := A 0) (ra := ra) hF1] at hw
  rw [← rows_e (ka := ka) (ra := ra) (ca := ca) hF1 (eRF.rf _)] at hw
  have hw : wdH D s.heap.size (List.flatten [fvb h A b nb sb v (N1 0 4), rdw ka b N1, vlw ka v (N1 0 0) (N1 0 1) (N1 0 2) wf df tf, tkw ta N1 (N1 0 1), shb ka (A 0) N1 ra, rdb ka (A 1) (d 0) rk du kd nv kf nf mf, vlw ka d np nt ng wf2 df2 tf2, ngb ka nb cn tq bq eq, trb (A 2) (C1 4 60), sdw ka sb mr Mf Gf, rows ka ra ca N1 C1, mw ka hm am N C1 f g]) H := hw
  have hw : wdH D s.heap.size (List.flatten [rdw ka b N1, vlw ka v (N1 0 0) (N1 0 1) (N1 0 2) wf df tf, tkw ta N1 (N1 0 1), fvb h A b nb sb v (N1 0 4), shb ka (A 0) N1 ra, rdb ka (A 1) (d 0) rk du kd nv kf nf mf, vlw ka d np nt ng wf2 df2 tf2, ngb ka nb cn tq bq eq, trb (A 2) (C1 4 60), sdw ka sb mr Mf Gf, rows ka ra ca N1 C1, mw ka hm am N C1 f g]) H := wdH.bk 3 hw
  have hw : wdH D s.heap.size (List.flatten [vlw ka v (N1 0 0) (N1 0 1) (N1 0 2) wf df tf, tkw ta N1 (N1 0 1), fvb h A b nb sb v (N1 0 4), shb ka (A 0) N1 ra, rdb ka (A 1) (d 0) rk du kd nv kf nf mf, vlw ka d np nt ng wf2 df2 tf2, rdw ka b N1, ngb ka nb cn tq bq eq, trb (A 2) (C1 4 60), sdw ka sb mr Mf Gf, rows ka ra ca N1 C1, mw ka hm am N C1 f g]) H := wdH.bk 6 hw
  have hw : wdH D s.heap.size (List.flatten [tkw ta N1 (N1 0 1), fvb h A b nb sb v (N1 0 4), shb ka (A 0) N1 ra, rdb ka (A 1) (d 0) rk du kd nv kf nf mf, vlw ka d np nt ng wf2 df2 tf2, rdw ka b N1, ngb ka nb cn tq bq eq, trb (A 2) (C1 4 60), sdw ka sb mr Mf Gf, vlw ka v (N1 0 0) (N1 0 1) (N1 0 2) wf df tf, rows ka ra ca N1 C1, mw ka hm am N C1 f g]) H := wdH.bk 9 hw
  have hw : wdH D s.heap.size (List.flatten [fvb h A b nb sb v (N1 0 4), shb ka (A 0) N1 ra, rdb ka (A 1) (d 0) rk du kd nv kf nf mf, vlw ka d np nt ng wf2 df2 tf2, rdw ka b N1, ngb ka nb cn tq bq eq, trb (A 2) (C1 4 60), sdw ka sb mr Mf Gf, vlw ka v (N1 0 0) (N1 0 1) (N1 0 2) wf df tf, rows ka ra ca N1 C1, tkw ta N1 (N1 0 1), mw ka hm am N C1 f g]) H := wdH.bk 10 hw
  refine lv_aload_n hx hb dL_law_786 rfl (lv_at hl 1 rfl) ?_
  refine lv_aload_n hx hb dL_law_787 rfl (lv_at hl 3 rfl) ?_
  refine lv_iload_n hx hb dL_law_788 rfl (lv_at hl 0 rfl) ?_
  refine lv_iconst (v := nI 1) hx hb dL_law_789 (by decide) ?_
  refine n_iadd hx hb dL_law_790 ?_
  refine n_sld hx hb hXs hbl hS (k := (6 * j) + 1) (by omega) hL dL_law_791 ?_
  have hw : wdH D s.heap.size (List.flatten [mw ka hm am N C1 f g, fvb h A b nb sb v (N1 0 4), shb ka (A 0) N1 ra, rdb ka (A 1) (d 0) rk du kd nv kf nf mf, vlw ka d np nt ng wf2 df2 tf2, rdw ka b N1, ngb ka nb cn tq bq eq, trb (A 2) (C1 4 60), sdw ka sb mr Mf Gf, vlw ka v (N1 0 0) (N1 0 1) (N1 0 2) wf df tf, rows ka ra ca N1 C1, tkw ta N1 (N1 0 1)]) H := wdH.fr 11 rfl hw
  refine mu_i (mu_runV (c_X11_minds l D ka s.heap.size hm am N C1 f g (List.flatten [fvb h A b nb sb v (N1 0 4), shb ka (A 0) N1 ra, rdb ka (A 1) (d 0) rk du kd nv kf nf mf, vlw ka d np nt ng wf2 df2 tf2, rdw ka b N1, ngb ka nb cn tq bq eq, trb (A 2) (C1 4 60), sdw ka sb mr Mf Gf, vlw ka v (N1 0 0) (N1 0 1) (N1 0 2) wf df tf, rows ka ra ca N1 C1, tkw ta N1 (N1 0 1)]) (xs ((6 * j) + 1)) _ rfl hN.1) X wd_939 wd_936 wd_937 wd_938 wd_8 on_X11_minds ⟨Nat.le_of_ble_eq_true rfl, Nat.le_of_ble_eq_true rfl⟩ (va_recv hK hw.2.1 (ci := 11) (q0 := 0) rfl rfl) hw hl.1 rfl (Nat.le_of_ble_eq_true rfl) ⟨by show ce + 0 ≤ 600000; omega, by show sl + 0 ≤ 7302250; omega⟩ dL_law_792) hS (fun r_4 u_3 H locs hp_u_3 hw hS => ?_)
  obtain ⟨f2, g2, N2, C2, rfl, hr2⟩ := hp_u_3
  have hw : wdH D s.heap.size (List.flatten [mw ka hm am N2 C2 f2 g2, fvb h A b nb sb v (N1 0 4), shb ka (A 0) N1 ra, rdb ka (A 1) (d 0) rk du kd nv kf nf mf, vlw ka d np nt ng wf2 df2 tf2, rdw ka b N1, ngb ka nb cn tq bq eq, trb (A 2) (C1 4 60), sdw ka sb mr Mf Gf, vlw ka v (N1 0 0) (N1 0 1) (N1 0 2) wf df tf, rows ka ra ca N1 C1, tkw ta N1 (N1 0 1)]) H := hw
  have heq := hr1.trans hr2.symm
  obtain ⟨h91, h92⟩ := Prod.mk.inj heq
  obtain ⟨h93, h94⟩ := Prod.mk.inj h92
  subst h91 h93 h94
  have hw : wdH D s.heap.size (List.flatten [mw ka hm am N1 C1 f2 g2, fvb h A b nb sb v (N1 0 4), shb ka (A 0) N1 ra, rdb ka (A 1) (d 0) rk du kd nv kf nf mf, vlw ka d np nt ng wf2 df2 tf2, rdw ka b N1, ngb ka nb cn tq bq eq, trb (A 2) (C1 4 60), sdw ka sb mr Mf Gf, vlw ka v (N1 0 0) (N1 0 1) (N1 0 2) wf df tf, rows ka ra ca N1 C1, tkw ta N1 (N1 0 1)]) H := hw
  have hw : wdH D s.heap.size (List.flatten [fvb h A b nb sb v (N1 0 4), shb ka (A 0) N1 ra, rdb ka (A 1) (d 0) rk du kd nv kf nf mf, vlw ka d np nt ng wf2 df2 tf2, rdw ka b N1, ngb ka nb cn tq bq eq, trb (A 2) (C1 4 60), sdw ka sb mr Mf Gf, vlw ka v (N1 0 0) (N1 0 1) (N1 0 2) wf df tf, rows ka ra ca N1 C1, tkw ta N1 (N1 0 1), mw ka hm am N1 C1 f2 g2]) H := wdH.bk 11 hw
  refine lv_icmp_eq (tgt := 1234) hx hb dL_law_795 (by decide) (fun _ => ?_) (fun hne => absurd rfl hne)
  refine W.widen (k := ce + 60) (n := sl + 180) (by omega) (by omega) ?_
  exact kk _ _ H locs ls hok1 ⟨A, b, nb, sb, mr, v, d, rk, ta, ra, ca, am, cn, tq, bq, eq, kf, nf, mf, Mf, Gf, du, kd, nv, np, nt, ng, wf, df, wf2, df2, tf, tf2, f2, g2, hV1, hMf, hGf, hw⟩ hS hl
set_option maxRecDepth 100000 in
set_option maxHeartbeats 4000000 in
theorem law_kinds {p : Program} {l : Launch} {e : Env} {s : State} {m : MethodId} {below : List Frame} {meth : Method} {c : Code} {D : va_G} {ka : Nat → ClassId} {sc L : Nat} {xs : Nat → Int32} {Q : State → Prop} (X : Cx p s m #[Value.ref sc] c cL_law 4 RL D ka) (hXs : va_X sc L xs s s.heap) (hbl : sc < s.heap.size) (hL : L ≤ 384) {z : Nat} (hz : z = s.heap.size) {N : NN} {C : CC} (hN : OK N) {h hm j : Nat} (hj : 6 * j + 6 ≤ L) {H : Heap} {locs : List Loc} {ce sl : Nat} (hce : ce ≤ 100000) (hsl : sl ≤ 100000) (hI : INV D z ka h hm N C H) (hS : va_S (fun q => s.heap.size ≤ q) s.heap H locs) {ls : Array Slot} (hl : lv_has ls 4 [(3, .int (nI (6 * j))), (2, .ref hm), (1, .ref h), (0, .ref sc)])
    (kk : ∀ (N9 : NN) (C9 : CC) (H9 : Heap) (locs9 : List Loc) (ls9 : Array Slot), OK N9 → INV D z ka h hm N9 C9 H9 → va_S (fun q => s.heap.size ≤ q) s.heap H9 locs9 → lv_has ls9 4 [(3, .int (nI (6 * j))), (2, .ref hm), (1, .ref h), (0, .ref sc)] → W p l e room_1 s m #[Value.ref sc] below meth c H9 locs9 (ce + 60) (sl + 180) Q (F0 m 1234 ls9 [])) : W p l e room_1 s m #[Value.ref sc] below meth c H locs ce sl Q (F0 m 800 ls []) := by
  subst hz
  obtain ⟨hx, hb, hml, hown, hts, hE⟩ := id X
  have hK := hE.1
  obtain ⟨A, b, nb, sb, mr, v, d, rk, ta, ra, ca, am, cn, tq, bq, eq, kf, nf, mf, Mf, Gf, du, kd, nv, np, nt, ng, wf, df, wf2, df2, tf, tf2, f, g, hV, hMf, hGf, hw⟩ := hI
  refine lv_aload_n hx hb dL_law_800 rfl (lv_at hl 2 rfl) ?_
  refine lv_aload_n hx hb dL_law_801 rfl (lv_at hl 3 rfl) ?_
  refine lv_iload_n hx hb dL_law_802 rfl (lv_at hl 0 rfl) ?_
  refine lv_iconst (v := nI 1) hx hb dL_law_803 (by decide) ?_
  refine n_iadd hx hb dL_law_804 ?_
  refine n_sld hx hb hXs hbl hS (k := (6 * j) + 1) (by omega) hL dL_law_805 ?_
  have hw : wdH D s.heap.size (List.flatten [tkw ta N (N 0 1), fvb h A b nb sb v (N 0 4), shb ka (A 0) N ra, rdb ka (A 1) (d 0) rk du kd nv kf nf mf, vlw ka d np nt ng wf2 df2 tf2, rdw ka b N, ngb ka nb cn tq bq eq, trb (A 2) (C 4 60), sdw ka sb mr Mf Gf, vlw ka v (N 0 0) (N 0 1) (N 0 2) wf df tf, rows ka ra ca N C, mw ka hm am N C f g]) H := wdH.fr 10 rfl hw
  have hw : wdH D s.heap.size (List.flatten [vlw ka v (N 0 0) (N 0 1) (N 0 2) wf df tf, tkw ta N (N 0 1), fvb h A b nb sb v (N 0 4), shb ka (A 0) N ra, rdb ka (A 1) (d 0) rk du kd nv kf nf mf, vlw ka d np nt ng wf2 df2 tf2, rdw ka b N, ngb ka nb cn tq bq eq, trb (A 2) (C 4 60), sdw ka sb mr Mf Gf, rows ka ra ca N C, mw ka hm am N C f g]) H := wdH.fr 9 rfl hw
  have hw : wdH D s.heap.size (List.flatten [rdw ka b N, vlw ka v (N 0 0) (N 0 1) (N 0 2) wf df tf, tkw ta N (N 0 1), fvb h A b nb sb v (N 0 4), shb ka (A 0) N ra, rdb ka (A 1) (d 0) rk du kd nv kf nf mf, vlw ka d np nt ng wf2 df2 tf2, ngb ka nb cn tq bq eq, trb (A 2) (C 4 60), sdw ka sb mr Mf Gf, rows ka ra ca N C, mw ka hm am N C f g]) H := wdH.fr 6 rfl hw
  have hw : wdH D s.heap.size (List.flatten [fvb h A b nb sb v (N 0 4), rdw ka b N, vlw ka v (N 0 0) (N 0 1) (N 0 2) wf df tf, tkw ta N (N 0 1), shb ka (A 0) N ra, rdb ka (A 1) (d 0) rk du kd nv kf nf mf, vlw ka d np nt ng wf2 df2 tf2, ngb ka nb cn tq bq eq, trb (A 2) (C 4 60), sdw ka sb mr Mf Gf, rows ka ra ca N C, mw ka hm am N C f g]) H := wdH.fr 3 rfl hw
  refine mu_i (mu_runV (c_X10_kinds l D ka s.heap.size  h A b nb sb v ta N wf df tf hV hN.1 hN.2  (xs ((6 * j) + 1)) _ rfl C (List.flatten [shb ka (A 0) N ra, rdb ka (A 1) (d 0) rk du kd nv kf nf mf, vlw ka d np nt ng wf2 df2 tf2, ngb ka nb cn tq bq eq, trb (A 2) (C 4 60), sdw ka sb mr Mf Gf, rows ka ra ca N C, mw ka hm am N C f g])) X wd_539 wd_536 wd_537 wd_538 wd_1 on_X10_kinds ⟨Nat.le_of_ble_eq_true rfl, Nat.le_of_ble_eq_true rfl⟩ (va_recv hK hw.2.1 (ci := 10) (q0 := 0) rfl rfl) hw hl.1 rfl (Nat.le_of_ble_eq_true rfl) ⟨by show ce + 3 ≤ 600000; omega, by show sl + 9 ≤ 7302250; omega⟩ dL_law_806) hS (fun r_2 u_1 H locs hp_u_1 hw hS => ?_)
  obtain ⟨N1, C1, tf1, rfl, hV1, hr1⟩ := hp_u_1
  have hw : wdH D s.heap.size (List.flatten [fvb h A b nb sb v (N1 0 4), rdw ka b N1, vlw ka v (N1 0 0) (N1 0 1) (N1 0 2) wf df tf1, tkw ta N1 (N1 0 1), shb ka (A 0) N ra, rdb ka (A 1) (d 0) rk du kd nv kf nf mf, vlw ka d np nt ng wf2 df2 tf2, ngb ka nb cn tq bq eq, trb (A 2) (C 4 60), sdw ka sb mr Mf Gf, rows ka ra ca N C, mw ka hm am N C f g]) H := hw
  have hok1 : OK N1 := by
    have h9 : N1 = (sp_kinds N C (xs ((6 * j) + 1)).toInt).2.1 := congrArg (fun q => q.2.1) hr1
    rw [h9]; exact ok_kinds hN
  have hF := fr_kinds hr1
  obtain ⟨hF1, rfl⟩ := hF
  rw [← shb_e (ka := ka) (a := A 0) (ra := ra) hF1] at hw
  rw [← rows_e (ka := ka) (ra := ra) (ca := ca) hF1 (eRF.rf _)] at hw
  have hw : wdH D s.heap.size (List.flatten [fvb h A b nb sb v (N1 0 4), rdw ka b N1, vlw ka v (N1 0 0) (N1 0 1) (N1 0 2) wf df tf1, tkw ta N1 (N1 0 1), shb ka (A 0) N1 ra, rdb ka (A 1) (d 0) rk du kd nv kf nf mf, vlw ka d np nt ng wf2 df2 tf2, ngb ka nb cn tq bq eq, trb (A 2) (C1 4 60), sdw ka sb mr Mf Gf, rows ka ra ca N1 C1, mw ka hm am N C1 f g]) H := hw
  have hw : wdH D s.heap.size (List.flatten [rdw ka b N1, vlw ka v (N1 0 0) (N1 0 1) (N1 0 2) wf df tf1, tkw ta N1 (N1 0 1), fvb h A b nb sb v (N1 0 4), shb ka (A 0) N1 ra, rdb ka (A 1) (d 0) rk du kd nv kf nf mf, vlw ka d np nt ng wf2 df2 tf2, ngb ka nb cn tq bq eq, trb (A 2) (C1 4 60), sdw ka sb mr Mf Gf, rows ka ra ca N1 C1, mw ka hm am N C1 f g]) H := wdH.bk 3 hw
  have hw : wdH D s.heap.size (List.flatten [vlw ka v (N1 0 0) (N1 0 1) (N1 0 2) wf df tf1, tkw ta N1 (N1 0 1), fvb h A b nb sb v (N1 0 4), shb ka (A 0) N1 ra, rdb ka (A 1) (d 0) rk du kd nv kf nf mf, vlw ka d np nt ng wf2 df2 tf2, rdw ka b N1, ngb ka nb cn tq bq eq, trb (A 2) (C1 4 60), sdw ka sb mr Mf Gf, rows ka ra ca N1 C1, mw ka hm am N C1 f g]) H := wdH.bk 6 hw
  have hw : wdH D s.heap.size (List.flatten [tkw ta N1 (N1 0 1), fvb h A b nb sb v (N1 0 4), shb ka (A 0) N1 ra, rdb ka (A 1) (d 0) rk du kd nv kf nf mf, vlw ka d np nt ng wf2 df2 tf2, rdw ka b N1, ngb ka nb cn tq bq eq, trb (A 2) (C1 4 60), sdw ka sb mr Mf Gf, vlw ka v (N1 0 0) (N1 0 1) (N1 0 2) wf df tf1, rows ka ra ca N1 C1, mw ka hm am N C1 f g]) H := wdH.bk 9 hw
  have hw : wdH D s.heap.size (List.flatten [fvb h A b nb sb v (N1 0 4), shb ka (A 0) N1 ra, rdb ka (A 1) (d 0) rk du kd nv kf nf mf, vlw ka d np nt ng wf2 df2 tf2, rdw ka b N1, ngb ka nb cn tq bq eq, trb (A 2) (C1 4 60), sdw ka sb mr Mf Gf, vlw ka v (N1 0 0) (N1 0 1) (N1 0 2) wf df tf1, rows ka ra ca N1 C1, tkw ta N1 (N1 0 1), mw ka hm am N C1 f g]) H := wdH.bk 10 hw
  refine lv_aload_n hx hb dL_law_809 rfl (lv_at hl 1 rfl) ?_
  refine lv_aload_n hx hb dL_law_810 rfl (lv_at hl 3 rfl) ?_
  refine lv_iload_n hx hb dL_law_811 rfl (lv_at hl 0 rfl) ?_
  refine lv_iconst (v := nI 1) hx hb dL_law_812 (by decide) ?_
  refine n_iadd hx hb dL_law_813 ?_
  refine n_sld hx hb hXs hbl hS (k := (6 * j) + 1) (by omega) hL dL_law_814 ?_
  have hw : wdH D s.heap.size (List.flatten [mw ka hm am N C1 f g, fvb h A b nb sb v (N1 0 4), shb ka (A 0) N1 ra, rdb ka (A 1) (d 0) rk du kd nv kf nf mf, vlw ka d np nt ng wf2 df2 tf2, rdw ka b N1, ngb ka nb cn tq bq eq, trb (A 2) (C1 4 60), sdw ka sb mr Mf Gf, vlw ka v (N1 0 0) (N1 0 1) (N1 0 2) wf df tf1, rows ka ra ca N1 C1, tkw ta N1 (N1 0 1)]) H := wdH.fr 11 rfl hw
  refine mu_i (mu_runV (c_X11_kinds l D ka s.heap.size hm am N C1 f g (List.flatten [fvb h A b nb sb v (N1 0 4), shb ka (A 0) N1 ra, rdb ka (A 1) (d 0) rk du kd nv kf nf mf, vlw ka d np nt ng wf2 df2 tf2, rdw ka b N1, ngb ka nb cn tq bq eq, trb (A 2) (C1 4 60), sdw ka sb mr Mf Gf, vlw ka v (N1 0 0) (N1 0 1) (N1 0 2) wf df tf1, rows ka ra ca N1 C1, tkw ta N1 (N1 0 1)]) (xs ((6 * j) + 1)) _ rfl hN.1) X wd_947 wd_944 wd_945 wd_946 wd_8 on_X11_kinds ⟨Nat.le_of_ble_eq_true rfl, Nat.le_of_ble_eq_true rfl⟩ (va_recv hK hw.2.1 (ci := 11) (q0 := 0) rfl rfl) hw hl.1 rfl (Nat.le_of_ble_eq_true rfl) ⟨by show ce + 3 + 0 ≤ 600000; omega, by show sl + 9 + 0 ≤ 7302250; omega⟩ dL_law_815) hS (fun r_4 u_3 H locs hp_u_3 hw hS => ?_)
  obtain ⟨f2, g2, N2, C2, rfl, hr2⟩ := hp_u_3
  have hw : wdH D s.heap.size (List.flatten [mw ka hm am N2 C2 f2 g2, fvb h A b nb sb v (N1 0 4), shb ka (A 0) N1 ra, rdb ka (A 1) (d 0) rk du kd nv kf nf mf, vlw ka d np nt ng wf2 df2 tf2, rdw ka b N1, ngb ka nb cn tq bq eq, trb (A 2) (C1 4 60), sdw ka sb mr Mf Gf, vlw ka v (N1 0 0) (N1 0 1) (N1 0 2) wf df tf1, rows ka ra ca N1 C1, tkw ta N1 (N1 0 1)]) H := hw
  have heq := hr1.trans hr2.symm
  obtain ⟨h91, h92⟩ := Prod.mk.inj heq
  obtain ⟨h93, h94⟩ := Prod.mk.inj h92
  subst h91 h93 h94
  have hw : wdH D s.heap.size (List.flatten [mw ka hm am N1 C1 f2 g2, fvb h A b nb sb v (N1 0 4), shb ka (A 0) N1 ra, rdb ka (A 1) (d 0) rk du kd nv kf nf mf, vlw ka d np nt ng wf2 df2 tf2, rdw ka b N1, ngb ka nb cn tq bq eq, trb (A 2) (C1 4 60), sdw ka sb mr Mf Gf, vlw ka v (N1 0 0) (N1 0 1) (N1 0 2) wf df tf1, rows ka ra ca N1 C1, tkw ta N1 (N1 0 1)]) H := hw
  have hw : wdH D s.heap.size (List.flatten [fvb h A b nb sb v (N1 0 4), shb ka (A 0) N1 ra, rdb ka (A 1) (d 0) rk du kd nv kf nf mf, vlw ka d np nt ng wf2 df2 tf2, rdw ka b N1, ngb ka nb cn tq bq eq, trb (A 2) (C1 4 60), sdw ka sb mr Mf Gf, vlw ka v (N1 0 0) (N1 0 1) (N1 0 2) wf df tf1, rows ka ra ca N1 C1, tkw ta N1 (N1 0 1), mw ka hm am N1 C1 f2 g2]) H := wdH.bk 11 hw
  refine lv_icmp_eq (tgt := 1234) hx hb dL_law_818 (by decide) (fun _ => ?_) (fun hne => absurd rfl hne)
  refine W.widen (k := ce + 60) (n := sl + 180) (by omega) (by omega) ?_
  exact kk _ _ H locs ls hok1 ⟨A, b, nb, sb, mr, v, d, rk, ta, ra, ca, am, cn, tq, bq, eq, kf, nf, mf, Mf, Gf, du, kd, nv, np, nt, ng, wf, df, wf2, df2, tf1, tf2, f2, g2, hV1, hMf, hGf, hw⟩ hS hl
set_option maxRecDepth 100000 in
set_option maxHeartbeats 4000000 in
theorem law_glooms {p : Program} {l : Launch} {e : Env} {s : State} {m : MethodId} {below : List Frame} {meth : Method} {c : Code} {D : va_G} {ka : Nat → ClassId} {sc L : Nat} {xs : Nat → Int32} {Q : State → Prop} (X : Cx p s m #[Value.ref sc] c cL_law 4 RL D ka) (hXs : va_X sc L xs s s.heap) (hbl : sc < s.heap.size) (hL : L ≤ 384) {z : Nat} (hz : z = s.heap.size) {N : NN} {C : CC} (hN : OK N) {h hm j : Nat} (hj : 6 * j + 6 ≤ L) {H : Heap} {locs : List Loc} {ce sl : Nat} (hce : ce ≤ 100000) (hsl : sl ≤ 100000) (hI : INV D z ka h hm N C H) (hS : va_S (fun q => s.heap.size ≤ q) s.heap H locs) {ls : Array Slot} (hl : lv_has ls 4 [(3, .int (nI (6 * j))), (2, .ref hm), (1, .ref h), (0, .ref sc)])
    (kk : ∀ (N9 : NN) (C9 : CC) (H9 : Heap) (locs9 : List Loc) (ls9 : Array Slot), OK N9 → INV D z ka h hm N9 C9 H9 → va_S (fun q => s.heap.size ≤ q) s.heap H9 locs9 → lv_has ls9 4 [(3, .int (nI (6 * j))), (2, .ref hm), (1, .ref h), (0, .ref sc)] → W p l e room_1 s m #[Value.ref sc] below meth c H9 locs9 (ce + 60) (sl + 180) Q (F0 m 1234 ls9 [])) : W p l e room_1 s m #[Value.ref sc] below meth c H locs ce sl Q (F0 m 823 ls []) := by
  subst hz
  obtain ⟨hx, hb, hml, hown, hts, hE⟩ := id X
  have hK := hE.1
  obtain ⟨A, b, nb, sb, mr, v, d, rk, ta, ra, ca, am, cn, tq, bq, eq, kf, nf, mf, Mf, Gf, du, kd, nv, np, nt, ng, wf, df, wf2, df2, tf, tf2, f, g, hV, hMf, hGf, hw⟩ := hI
  refine lv_aload_n hx hb dL_law_823 rfl (lv_at hl 2 rfl) ?_
  refine lv_aload_n hx hb dL_law_824 rfl (lv_at hl 3 rfl) ?_
  refine lv_iload_n hx hb dL_law_825 rfl (lv_at hl 0 rfl) ?_
  refine lv_iconst (v := nI 1) hx hb dL_law_826 (by decide) ?_
  refine n_iadd hx hb dL_law_827 ?_
  refine n_sld hx hb hXs hbl hS (k := (6 * j) + 1) (by omega) hL dL_law_828 ?_
  have hw : wdH D s.heap.size (List.flatten [tkw ta N (N 0 1), fvb h A b nb sb v (N 0 4), shb ka (A 0) N ra, rdb ka (A 1) (d 0) rk du kd nv kf nf mf, vlw ka d np nt ng wf2 df2 tf2, rdw ka b N, ngb ka nb cn tq bq eq, trb (A 2) (C 4 60), sdw ka sb mr Mf Gf, vlw ka v (N 0 0) (N 0 1) (N 0 2) wf df tf, rows ka ra ca N C, mw ka hm am N C f g]) H := wdH.fr 10 rfl hw
  have hw : wdH D s.heap.size (List.flatten [vlw ka v (N 0 0) (N 0 1) (N 0 2) wf df tf, tkw ta N (N 0 1), fvb h A b nb sb v (N 0 4), shb ka (A 0) N ra, rdb ka (A 1) (d 0) rk du kd nv kf nf mf, vlw ka d np nt ng wf2 df2 tf2, rdw ka b N, ngb ka nb cn tq bq eq, trb (A 2) (C 4 60), sdw ka sb mr Mf Gf, rows ka ra ca N C, mw ka hm am N C f g]) H := wdH.fr 9 rfl hw
  have hw : wdH D s.heap.size (List.flatten [rdw ka b N, vlw ka v (N 0 0) (N 0 1) (N 0 2) wf df tf, tkw ta N (N 0 1), fvb h A b nb sb v (N 0 4), shb ka (A 0) N ra, rdb ka (A 1) (d 0) rk du kd nv kf nf mf, vlw ka d np nt ng wf2 df2 tf2, ngb ka nb cn tq bq eq, trb (A 2) (C 4 60), sdw ka sb mr Mf Gf, rows ka ra ca N C, mw ka hm am N C f g]) H := wdH.fr 6 rfl hw
  have hw : wdH D s.heap.size (List.flatten [fvb h A b nb sb v (N 0 4), rdw ka b N, vlw ka v (N 0 0) (N 0 1) (N 0 2) wf df tf, tkw ta N (N 0 1), shb ka (A 0) N ra, rdb ka (A 1) (d 0) rk du kd nv kf nf mf, vlw ka d np nt ng wf2 df2 tf2, ngb ka nb cn tq bq eq, trb (A 2) (C 4 60), sdw ka sb mr Mf Gf, rows ka ra ca N C, mw ka hm am N C f g]) H := wdH.fr 3 rfl hw
  refine mu_i (mu_runV (c_X10_glooms l D ka s.heap.size  h A b nb sb v ta N wf df tf hV hN.1 hN.2  (xs ((6 * j) + 1)) _ rfl C (List.flatten [shb ka (A 0) N ra, rdb ka (A 1) (d 0) rk du kd nv kf nf mf, vlw ka d np nt ng wf2 df2 tf2, ngb ka nb cn tq bq eq, trb (A 2) (C 4 60), sdw ka sb mr Mf Gf, rows ka ra ca N C, mw ka hm am N C f g])) X wd_544 wd_541 wd_542 wd_543 wd_1 on_X10_glooms ⟨Nat.le_of_ble_eq_true rfl, Nat.le_of_ble_eq_true rfl⟩ (va_recv hK hw.2.1 (ci := 10) (q0 := 0) rfl rfl) hw hl.1 rfl (Nat.le_of_ble_eq_true rfl) ⟨by show ce + 0 ≤ 600000; omega, by show sl + 0 ≤ 7302250; omega⟩ dL_law_829) hS (fun r_2 u_1 H locs hp_u_1 hw hS => ?_)
  obtain ⟨N1, C1, wf1, rfl, hV1, hr1⟩ := hp_u_1
  have hw : wdH D s.heap.size (List.flatten [fvb h A b nb sb v (N1 0 4), rdw ka b N1, vlw ka v (N1 0 0) (N1 0 1) (N1 0 2) wf1 df tf, tkw ta N1 (N1 0 1), shb ka (A 0) N ra, rdb ka (A 1) (d 0) rk du kd nv kf nf mf, vlw ka d np nt ng wf2 df2 tf2, ngb ka nb cn tq bq eq, trb (A 2) (C 4 60), sdw ka sb mr Mf Gf, rows ka ra ca N C, mw ka hm am N C f g]) H := hw
  have hok1 : OK N1 := by
    have h9 : N1 = (sp_glooms N C (xs ((6 * j) + 1)).toInt).2.1 := congrArg (fun q => q.2.1) hr1
    rw [h9]; exact ok_glooms hN
  have hF := fr_glooms hr1
  obtain ⟨hF1, rfl⟩ := hF
  rw [← shb_e (ka := ka) (a := A 0) (ra := ra) hF1] at hw
  rw [← rows_e (ka := ka) (ra := ra) (ca := ca) hF1 (eRF.rf _)] at hw
  have hw : wdH D s.heap.size (List.flatten [fvb h A b nb sb v (N1 0 4), rdw ka b N1, vlw ka v (N1 0 0) (N1 0 1) (N1 0 2) wf1 df tf, tkw ta N1 (N1 0 1), shb ka (A 0) N1 ra, rdb ka (A 1) (d 0) rk du kd nv kf nf mf, vlw ka d np nt ng wf2 df2 tf2, ngb ka nb cn tq bq eq, trb (A 2) (C1 4 60), sdw ka sb mr Mf Gf, rows ka ra ca N1 C1, mw ka hm am N C1 f g]) H := hw
  have hw : wdH D s.heap.size (List.flatten [rdw ka b N1, vlw ka v (N1 0 0) (N1 0 1) (N1 0 2) wf1 df tf, tkw ta N1 (N1 0 1), fvb h A b nb sb v (N1 0 4), shb ka (A 0) N1 ra, rdb ka (A 1) (d 0) rk du kd nv kf nf mf, vlw ka d np nt ng wf2 df2 tf2, ngb ka nb cn tq bq eq, trb (A 2) (C1 4 60), sdw ka sb mr Mf Gf, rows ka ra ca N1 C1, mw ka hm am N C1 f g]) H := wdH.bk 3 hw
  have hw : wdH D s.heap.size (List.flatten [vlw ka v (N1 0 0) (N1 0 1) (N1 0 2) wf1 df tf, tkw ta N1 (N1 0 1), fvb h A b nb sb v (N1 0 4), shb ka (A 0) N1 ra, rdb ka (A 1) (d 0) rk du kd nv kf nf mf, vlw ka d np nt ng wf2 df2 tf2, rdw ka b N1, ngb ka nb cn tq bq eq, trb (A 2) (C1 4 60), sdw ka sb mr Mf Gf, rows ka ra ca N1 C1, mw ka hm am N C1 f g]) H := wdH.bk 6 hw
  have hw : wdH D s.heap.size (List.flatten [tkw ta N1 (N1 0 1), fvb h A b nb sb v (N1 0 4), shb ka (A 0) N1 ra, rdb ka (A 1) (d 0) rk du kd nv kf nf mf, vlw ka d np nt ng wf2 df2 tf2, rdw ka b N1, ngb ka nb cn tq bq eq, trb (A 2) (C1 4 60), sdw ka sb mr Mf Gf, vlw ka v (N1 0 0) (N1 0 1) (N1 0 2) wf1 df tf, rows ka ra ca N1 C1, mw ka hm am N C1 f g]) H := wdH.bk 9 hw
  have hw : wdH D s.heap.size (List.flatten [fvb h A b nb sb v (N1 0 4), shb ka (A 0) N1 ra, rdb ka (A 1) (d 0) rk du kd nv kf nf mf, vlw ka d np nt ng wf2 df2 tf2, rdw ka b N1, ngb ka nb cn tq bq eq, trb (A 2) (C1 4 60), sdw ka sb mr Mf Gf, vlw ka v (N1 0 0) (N1 0 1) (N1 0 2) wf1 df tf, rows ka ra ca N1 C1, tkw ta N1 (N1 0 1), mw ka hm am N C1 f g]) H := wdH.bk 10 hw
  refine lv_aload_n hx hb dL_law_832 rfl (lv_at hl 1 rfl) ?_
  refine lv_aload_n hx hb dL_law_833 rfl (lv_at hl 3 rfl) ?_
  refine lv_iload_n hx hb dL_law_834 rfl (lv_at hl 0 rfl) ?_
  refine lv_iconst (v := nI 1) hx hb dL_law_835 (by decide) ?_
  refine n_iadd hx hb dL_law_836 ?_
  refine n_sld hx hb hXs hbl hS (k := (6 * j) + 1) (by omega) hL dL_law_837 ?_
  have hw : wdH D s.heap.size (List.flatten [mw ka hm am N C1 f g, fvb h A b nb sb v (N1 0 4), shb ka (A 0) N1 ra, rdb ka (A 1) (d 0) rk du kd nv kf nf mf, vlw ka d np nt ng wf2 df2 tf2, rdw ka b N1, ngb ka nb cn tq bq eq, trb (A 2) (C1 4 60), sdw ka sb mr Mf Gf, vlw ka v (N1 0 0) (N1 0 1) (N1 0 2) wf1 df tf, rows ka ra ca N1 C1, tkw ta N1 (N1 0 1)]) H := wdH.fr 11 rfl hw
  refine mu_i (mu_runV (c_X11_glooms l D ka s.heap.size hm am N C1 f g (List.flatten [fvb h A b nb sb v (N1 0 4), shb ka (A 0) N1 ra, rdb ka (A 1) (d 0) rk du kd nv kf nf mf, vlw ka d np nt ng wf2 df2 tf2, rdw ka b N1, ngb ka nb cn tq bq eq, trb (A 2) (C1 4 60), sdw ka sb mr Mf Gf, vlw ka v (N1 0 0) (N1 0 1) (N1 0 2) wf1 df tf, rows ka ra ca N1 C1, tkw ta N1 (N1 0 1)]) (xs ((6 * j) + 1)) _ rfl hN.1) X wd_951 wd_948 wd_949 wd_950 wd_8 on_X11_glooms ⟨Nat.le_of_ble_eq_true rfl, Nat.le_of_ble_eq_true rfl⟩ (va_recv hK hw.2.1 (ci := 11) (q0 := 0) rfl rfl) hw hl.1 rfl (Nat.le_of_ble_eq_true rfl) ⟨by show ce + 0 ≤ 600000; omega, by show sl + 0 ≤ 7302250; omega⟩ dL_law_838) hS (fun r_4 u_3 H locs hp_u_3 hw hS => ?_)
  obtain ⟨f2, g2, N2, C2, rfl, hr2⟩ := hp_u_3
  have hw : wdH D s.heap.size (List.flatten [mw ka hm am N2 C2 f2 g2, fvb h A b nb sb v (N1 0 4), shb ka (A 0) N1 ra, rdb ka (A 1) (d 0) rk du kd nv kf nf mf, vlw ka d np nt ng wf2 df2 tf2, rdw ka b N1, ngb ka nb cn tq bq eq, trb (A 2) (C1 4 60), sdw ka sb mr Mf Gf, vlw ka v (N1 0 0) (N1 0 1) (N1 0 2) wf1 df tf, rows ka ra ca N1 C1, tkw ta N1 (N1 0 1)]) H := hw
  have heq := hr1.trans hr2.symm
  obtain ⟨h91, h92⟩ := Prod.mk.inj heq
  obtain ⟨h93, h94⟩ := Prod.mk.inj h92
  subst h91 h93 h94
  have hw : wdH D s.heap.size (List.flatten [mw ka hm am N1 C1 f2 g2, fvb h A b nb sb v (N1 0 4), shb ka (A 0) N1 ra, rdb ka (A 1) (d 0) rk du kd nv kf nf mf, vlw ka d np nt ng wf2 df2 tf2, rdw ka b N1, ngb ka nb cn tq bq eq, trb (A 2) (C1 4 60), sdw ka sb mr Mf Gf, vlw ka v (N1 0 0) (N1 0 1) (N1 0 2) wf1 df tf, rows ka ra ca N1 C1, tkw ta N1 (N1 0 1)]) H := hw
  have hw : wdH D s.heap.size (List.flatten [fvb h A b nb sb v (N1 0 4), shb ka (A 0) N1 ra, rdb ka (A 1) (d 0) rk du kd nv kf nf mf, vlw ka d np nt ng wf2 df2 tf2, rdw ka b N1, ngb ka nb cn tq bq eq, trb (A 2) (C1 4 60), sdw ka sb mr Mf Gf, vlw ka v (N1 0 0) (N1 0 1) (N1 0 2) wf1 df tf, rows ka ra ca N1 C1, tkw ta N1 (N1 0 1), mw ka hm am N1 C1 f2 g2]) H := wdH.bk 11 hw
  refine lv_icmp_eq (tgt := 1234) hx hb dL_law_841 (by decide) (fun _ => ?_) (fun hne => absurd rfl hne)
  refine W.widen (k := ce + 60) (n := sl + 180) (by omega) (by omega) ?_
  exact kk _ _ H locs ls hok1 ⟨A, b, nb, sb, mr, v, d, rk, ta, ra, ca, am, cn, tq, bq, eq, kf, nf, mf, Mf, Gf, du, kd, nv, np, nt, ng, wf1, df, wf2, df2, tf, tf2, f2, g2, hV1, hMf, hGf, hw⟩ hS hl
set_option maxRecDepth 100000 in
set_option maxHeartbeats 4000000 in
theorem law_odds {p : Program} {l : Launch} {e : Env} {s : State} {m : MethodId} {below : List Frame} {meth : Method} {c : Code} {D : va_G} {ka : Nat → ClassId} {sc L : Nat} {xs : Nat → Int32} {Q : State → Prop} (X : Cx p s m #[Value.ref sc] c cL_law 4 RL D ka) (hXs : va_X sc L xs s s.heap) (hbl : sc < s.heap.size) (hL : L ≤ 384) {z : Nat} (hz : z = s.heap.size) {N : NN} {C : CC} (hN : OK N) {h hm j : Nat} (hj : 6 * j + 6 ≤ L) {H : Heap} {locs : List Loc} {ce sl : Nat} (hce : ce ≤ 100000) (hsl : sl ≤ 100000) (hI : INV D z ka h hm N C H) (hS : va_S (fun q => s.heap.size ≤ q) s.heap H locs) {ls : Array Slot} (hl : lv_has ls 4 [(3, .int (nI (6 * j))), (2, .ref hm), (1, .ref h), (0, .ref sc)])
    (kk : ∀ (N9 : NN) (C9 : CC) (H9 : Heap) (locs9 : List Loc) (ls9 : Array Slot), OK N9 → INV D z ka h hm N9 C9 H9 → va_S (fun q => s.heap.size ≤ q) s.heap H9 locs9 → lv_has ls9 4 [(3, .int (nI (6 * j))), (2, .ref hm), (1, .ref h), (0, .ref sc)] → W p l e room_1 s m #[Value.ref sc] below meth c H9 locs9 (ce + 60) (sl + 180) Q (F0 m 1234 ls9 [])) : W p l e room_1 s m #[Value.ref sc] below meth c H locs ce sl Q (F0 m 846 ls []) := by
  subst hz
  obtain ⟨hx, hb, hml, hown, hts, hE⟩ := id X
  have hK := hE.1
  obtain ⟨A, b, nb, sb, mr, v, d, rk, ta, ra, ca, am, cn, tq, bq, eq, kf, nf, mf, Mf, Gf, du, kd, nv, np, nt, ng, wf, df, wf2, df2, tf, tf2, f, g, hV, hMf, hGf, hw⟩ := hI
  refine lv_aload_n hx hb dL_law_846 rfl (lv_at hl 2 rfl) ?_
  refine lv_aload_n hx hb dL_law_847 rfl (lv_at hl 3 rfl) ?_
  refine lv_iload_n hx hb dL_law_848 rfl (lv_at hl 0 rfl) ?_
  refine lv_iconst (v := nI 1) hx hb dL_law_849 (by decide) ?_
  refine n_iadd hx hb dL_law_850 ?_
  refine n_sld hx hb hXs hbl hS (k := (6 * j) + 1) (by omega) hL dL_law_851 ?_
  refine lv_aload_n hx hb dL_law_852 rfl (lv_at hl 3 rfl) ?_
  refine lv_iload_n hx hb dL_law_853 rfl (lv_at hl 0 rfl) ?_
  refine lv_iconst (v := nI 2) hx hb dL_law_854 (by decide) ?_
  refine n_iadd hx hb dL_law_855 ?_
  refine n_sld hx hb hXs hbl hS (k := (6 * j) + 2) (by omega) hL dL_law_856 ?_
  refine lv_aload_n hx hb dL_law_857 rfl (lv_at hl 3 rfl) ?_
  refine lv_iload_n hx hb dL_law_858 rfl (lv_at hl 0 rfl) ?_
  refine lv_iconst (v := nI 3) hx hb dL_law_859 (by decide) ?_
  refine n_iadd hx hb dL_law_860 ?_
  refine n_sld hx hb hXs hbl hS (k := (6 * j) + 3) (by omega) hL dL_law_861 ?_
  have hwf := hw
  have hwf : wdH D s.heap.size (List.flatten [tkw ta N (N 0 1), fvb h A b nb sb v (N 0 4), shb ka (A 0) N ra, rdb ka (A 1) (d 0) rk du kd nv kf nf mf, vlw ka d np nt ng wf2 df2 tf2, rdw ka b N, ngb ka nb cn tq bq eq, trb (A 2) (C 4 60), sdw ka sb mr Mf Gf, vlw ka v (N 0 0) (N 0 1) (N 0 2) wf df tf, rows ka ra ca N C, mw ka hm am N C f g]) H := wdH.fr 10 rfl hwf
  have hwf : wdH D s.heap.size (List.flatten [vlw ka v (N 0 0) (N 0 1) (N 0 2) wf df tf, tkw ta N (N 0 1), fvb h A b nb sb v (N 0 4), shb ka (A 0) N ra, rdb ka (A 1) (d 0) rk du kd nv kf nf mf, vlw ka d np nt ng wf2 df2 tf2, rdw ka b N, ngb ka nb cn tq bq eq, trb (A 2) (C 4 60), sdw ka sb mr Mf Gf, rows ka ra ca N C, mw ka hm am N C f g]) H := wdH.fr 9 rfl hwf
  have hwf : wdH D s.heap.size (List.flatten [fvb h A b nb sb v (N 0 4), vlw ka v (N 0 0) (N 0 1) (N 0 2) wf df tf, tkw ta N (N 0 1), shb ka (A 0) N ra, rdb ka (A 1) (d 0) rk du kd nv kf nf mf, vlw ka d np nt ng wf2 df2 tf2, rdw ka b N, ngb ka nb cn tq bq eq, trb (A 2) (C 4 60), sdw ka sb mr Mf Gf, rows ka ra ca N C, mw ka hm am N C f g]) H := wdH.fr 2 rfl hwf
  have hkw : va_P D vwCl (kw ka v ta N wf df tf) H := kw_of (w := fvb h A b nb sb v (N 0 4)) (R := List.flatten [shb ka (A 0) N ra, rdb ka (A 1) (d 0) rk du kd nv kf nf mf, vlw ka d np nt ng wf2 df2 tf2, rdw ka b N, ngb ka nb cn tq bq eq, trb (A 2) (C 4 60), sdw ka sb mr Mf Gf, rows ka ra ca N C, mw ka hm am N C f g]) hwf.2.1
  refine vp_callSl (ro_runV (c_X10_odds l D ka h A b nb sb v ta N wf df tf hV hN.1 hN.2 (xs ((6 * j) + 1)) _ rfl (xs ((6 * j) + 2)) _ rfl (xs ((6 * j) + 3)) _ rfl (List.flatten [vlw ka v (N 0 0) (N 0 1) (N 0 2) wf df tf, tkw ta N (N 0 1), shb ka (A 0) N ra, rdb ka (A 1) (d 0) rk du kd nv kf nf mf, vlw ka d np nt ng wf2 df2 tf2, rdw ka b N, ngb ka nb cn tq bq eq, trb (A 2) (C 4 60), sdw ka sb mr Mf Gf, rows ka ra ca N C, mw ka hm am N C f g])) X wd_548 wd_545 wd_546 wd_547 wd_1 on_X10_odds ⟨Nat.le_of_ble_eq_true rfl, Nat.le_of_ble_eq_true rfl⟩ (va_recv hK hwf.2.1 (ci := 10) (q0 := 0) rfl rfl) ⟨hwf.2.1, hkw⟩ hl.1 rfl (Nat.le_of_ble_eq_true rfl) ⟨(by show ce ≤ 600000; omega), (by show sl ≤ 7302250; omega)⟩ dL_law_862) (fun r_1 hr_1 => ?_)
  subst hr_1
  refine lv_aload_n hx hb dL_law_865 rfl (lv_at hl 1 rfl) ?_
  refine lv_aload_n hx hb dL_law_866 rfl (lv_at hl 3 rfl) ?_
  refine lv_iload_n hx hb dL_law_867 rfl (lv_at hl 0 rfl) ?_
  refine lv_iconst (v := nI 1) hx hb dL_law_868 (by decide) ?_
  refine n_iadd hx hb dL_law_869 ?_
  refine n_sld hx hb hXs hbl hS (k := (6 * j) + 1) (by omega) hL dL_law_870 ?_
  refine lv_aload_n hx hb dL_law_871 rfl (lv_at hl 3 rfl) ?_
  refine lv_iload_n hx hb dL_law_872 rfl (lv_at hl 0 rfl) ?_
  refine lv_iconst (v := nI 2) hx hb dL_law_873 (by decide) ?_
  refine n_iadd hx hb dL_law_874 ?_
  refine n_sld hx hb hXs hbl hS (k := (6 * j) + 2) (by omega) hL dL_law_875 ?_
  refine lv_aload_n hx hb dL_law_876 rfl (lv_at hl 3 rfl) ?_
  refine lv_iload_n hx hb dL_law_877 rfl (lv_at hl 0 rfl) ?_
  refine lv_iconst (v := nI 3) hx hb dL_law_878 (by decide) ?_
  refine n_iadd hx hb dL_law_879 ?_
  refine n_sld hx hb hXs hbl hS (k := (6 * j) + 3) (by omega) hL dL_law_880 ?_
  have hw : wdH D s.heap.size (List.flatten [mw ka hm am N C f g, fvb h A b nb sb v (N 0 4), shb ka (A 0) N ra, rdb ka (A 1) (d 0) rk du kd nv kf nf mf, vlw ka d np nt ng wf2 df2 tf2, rdw ka b N, ngb ka nb cn tq bq eq, trb (A 2) (C 4 60), sdw ka sb mr Mf Gf, vlw ka v (N 0 0) (N 0 1) (N 0 2) wf df tf, rows ka ra ca N C, tkw ta N (N 0 1)]) H := wdH.fr 11 rfl hw
  refine mu_l (mu_runV (c_X11_odds l D ka s.heap.size hm am N C f g (List.flatten [fvb h A b nb sb v (N 0 4), shb ka (A 0) N ra, rdb ka (A 1) (d 0) rk du kd nv kf nf mf, vlw ka d np nt ng wf2 df2 tf2, rdw ka b N, ngb ka nb cn tq bq eq, trb (A 2) (C 4 60), sdw ka sb mr Mf Gf, vlw ka v (N 0 0) (N 0 1) (N 0 2) wf df tf, rows ka ra ca N C, tkw ta N (N 0 1)]) (xs ((6 * j) + 1)) (xs ((6 * j) + 2)) (xs ((6 * j) + 3)) _ _ _ rfl rfl rfl hN.2 hN.1) X wd_955 wd_952 wd_953 wd_954 wd_8 on_X11_odds ⟨Nat.le_of_ble_eq_true rfl, Nat.le_of_ble_eq_true rfl⟩ (va_recv hK hw.2.1 (ci := 11) (q0 := 0) rfl rfl) hw hl.1 rfl (Nat.le_of_ble_eq_true rfl) ⟨by show ce + 0 ≤ 600000; omega, by show sl + 0 ≤ 7302250; omega⟩ dL_law_881) hS (fun r_3 u_2 H locs hp_u_2 hw hS => ?_)
  obtain ⟨f2, g2, N2, C2, rfl, hr2⟩ := hp_u_2
  have hw : wdH D s.heap.size (List.flatten [mw ka hm am N2 C2 f2 g2, fvb h A b nb sb v (N 0 4), shb ka (A 0) N ra, rdb ka (A 1) (d 0) rk du kd nv kf nf mf, vlw ka d np nt ng wf2 df2 tf2, rdw ka b N, ngb ka nb cn tq bq eq, trb (A 2) (C 4 60), sdw ka sb mr Mf Gf, vlw ka v (N 0 0) (N 0 1) (N 0 2) wf df tf, rows ka ra ca N C, tkw ta N (N 0 1)]) H := hw
  rw [sp_odds_eq] at hr2
  obtain ⟨h91, h92⟩ := Prod.mk.inj hr2
  obtain ⟨h93, h94⟩ := Prod.mk.inj h92
  subst h91 h93 h94
  have hw : wdH D s.heap.size (List.flatten [mw ka hm am N2 C2 f2 g2, fvb h A b nb sb v (N2 0 4), shb ka (A 0) N2 ra, rdb ka (A 1) (d 0) rk du kd nv kf nf mf, vlw ka d np nt ng wf2 df2 tf2, rdw ka b N2, ngb ka nb cn tq bq eq, trb (A 2) (C2 4 60), sdw ka sb mr Mf Gf, vlw ka v (N2 0 0) (N2 0 1) (N2 0 2) wf df tf, rows ka ra ca N2 C2, tkw ta N2 (N2 0 1)]) H := hw
  have hw : wdH D s.heap.size (List.flatten [fvb h A b nb sb v (N2 0 4), shb ka (A 0) N2 ra, rdb ka (A 1) (d 0) rk du kd nv kf nf mf, vlw ka d np nt ng wf2 df2 tf2, rdw ka b N2, ngb ka nb cn tq bq eq, trb (A 2) (C2 4 60), sdw ka sb mr Mf Gf, vlw ka v (N2 0 0) (N2 0 1) (N2 0 2) wf df tf, rows ka ra ca N2 C2, tkw ta N2 (N2 0 1), mw ka hm am N2 C2 f2 g2]) H := wdH.bk 11 hw
  refine W.lcmp hx hb dL_law_884 ?_
  refine lv_if_eq (tgt := 1234) hx hb dL_law_885 (by decide) (fun _ => ?_) (fun hne => absurd (ii_eq.mpr (lg_cmp0.mpr rfl)) hne)
  refine W.widen (k := ce + 60) (n := sl + 180) (by omega) (by omega) ?_
  exact kk _ _ H locs ls hN ⟨A, b, nb, sb, mr, v, d, rk, ta, ra, ca, am, cn, tq, bq, eq, kf, nf, mf, Mf, Gf, du, kd, nv, np, nt, ng, wf, df, wf2, df2, tf, tf2, f2, g2, hV, hMf, hGf, hw⟩ hS hl
set_option maxRecDepth 100000 in
set_option maxHeartbeats 4000000 in
theorem law_sheet {p : Program} {l : Launch} {e : Env} {s : State} {m : MethodId} {below : List Frame} {meth : Method} {c : Code} {D : va_G} {ka : Nat → ClassId} {sc L : Nat} {xs : Nat → Int32} {Q : State → Prop} (X : Cx p s m #[Value.ref sc] c cL_law 4 RL D ka) (hXs : va_X sc L xs s s.heap) (hbl : sc < s.heap.size) (hL : L ≤ 384) {z : Nat} (hz : z = s.heap.size) {N : NN} {C : CC} (hN : OK N) {h hm j : Nat} (hj : 6 * j + 6 ≤ L) {H : Heap} {locs : List Loc} {ce sl : Nat} (hce : ce ≤ 100000) (hsl : sl ≤ 100000) (hI : INV D z ka h hm N C H) (hS : va_S (fun q => s.heap.size ≤ q) s.heap H locs) {ls : Array Slot} (hl : lv_has ls 4 [(3, .int (nI (6 * j))), (2, .ref hm), (1, .ref h), (0, .ref sc)])
    (kk : ∀ (N9 : NN) (C9 : CC) (H9 : Heap) (locs9 : List Loc) (ls9 : Array Slot), OK N9 → INV D z ka h hm N9 C9 H9 → va_S (fun q => s.heap.size ≤ q) s.heap H9 locs9 → lv_has ls9 4 [(3, .int (nI (6 * j))), (2, .ref hm), (1, .ref h), (0, .ref sc)] → W p l e room_1 s m #[Value.ref sc] below meth c H9 locs9 (ce + 60) (sl + 180) Q (F0 m 1234 ls9 [])) : W p l e room_1 s m #[Value.ref sc] below meth c H locs ce sl Q (F0 m 890 ls []) := by
  subst hz
  obtain ⟨hx, hb, hml, hown, hts, hE⟩ := id X
  have hK := hE.1
  obtain ⟨A, b, nb, sb, mr, v, d, rk, ta, ra, ca, am, cn, tq, bq, eq, kf, nf, mf, Mf, Gf, du, kd, nv, np, nt, ng, wf, df, wf2, df2, tf, tf2, f, g, hV, hMf, hGf, hw⟩ := hI
  refine lv_aload_n hx hb dL_law_890 rfl (lv_at hl 2 rfl) ?_
  refine lv_aload_n hx hb dL_law_891 rfl (lv_at hl 3 rfl) ?_
  refine lv_iload_n hx hb dL_law_892 rfl (lv_at hl 0 rfl) ?_
  refine lv_iconst (v := nI 1) hx hb dL_law_893 (by decide) ?_
  refine n_iadd hx hb dL_law_894 ?_
  refine n_sld hx hb hXs hbl hS (k := (6 * j) + 1) (by omega) hL dL_law_895 ?_
  refine lv_aload_n hx hb dL_law_896 rfl (lv_at hl 3 rfl) ?_
  refine lv_iload_n hx hb dL_law_897 rfl (lv_at hl 0 rfl) ?_
  refine lv_iconst (v := nI 2) hx hb dL_law_898 (by decide) ?_
  refine n_iadd hx hb dL_law_899 ?_
  refine n_sld hx hb hXs hbl hS (k := (6 * j) + 2) (by omega) hL dL_law_900 ?_
  refine lv_aload_n hx hb dL_law_901 rfl (lv_at hl 3 rfl) ?_
  refine lv_iload_n hx hb dL_law_902 rfl (lv_at hl 0 rfl) ?_
  refine lv_iconst (v := nI 3) hx hb dL_law_903 (by decide) ?_
  refine n_iadd hx hb dL_law_904 ?_
  refine n_sld hx hb hXs hbl hS (k := (6 * j) + 3) (by omega) hL dL_law_905 ?_
  have hw : wdH D s.heap.size (List.flatten [rows ka ra ca N C, fvb h A b nb sb v (N 0 4), shb ka (A 0) N ra, rdb ka (A 1) (d 0) rk du kd nv kf nf mf, vlw ka d np nt ng wf2 df2 tf2, rdw ka b N, ngb ka nb cn tq bq eq, trb (A 2) (C 4 60), sdw ka sb mr Mf Gf, vlw ka v (N 0 0) (N 0 1) (N 0 2) wf df tf, tkw ta N (N 0 1), mw ka hm am N C f g]) H := wdH.fr 9 rfl hw
  have hw : wdH D s.heap.size (List.flatten [shb ka (A 0) N ra, rows ka ra ca N C, fvb h A b nb sb v (N 0 4), rdb ka (A 1) (d 0) rk du kd nv kf nf mf, vlw ka d np nt ng wf2 df2 tf2, rdw ka b N, ngb ka nb cn tq bq eq, trb (A 2) (C 4 60), sdw ka sb mr Mf Gf, vlw ka v (N 0 0) (N 0 1) (N 0 2) wf df tf, tkw ta N (N 0 1), mw ka hm am N C f g]) H := wdH.fr 2 rfl hw
  have hw : wdH D s.heap.size (List.flatten [fvb h A b nb sb v (N 0 4), shb ka (A 0) N ra, rows ka ra ca N C, rdb ka (A 1) (d 0) rk du kd nv kf nf mf, vlw ka d np nt ng wf2 df2 tf2, rdw ka b N, ngb ka nb cn tq bq eq, trb (A 2) (C 4 60), sdw ka sb mr Mf Gf, vlw ka v (N 0 0) (N 0 1) (N 0 2) wf df tf, tkw ta N (N 0 1), mw ka hm am N C f g]) H := wdH.fr 2 rfl hw
  refine mu_i (mu_runV (c_X10_sheet l D ka s.heap.size  h A b nb sb v ra ca N hN.1  (xs ((6 * j) + 1)) _ rfl (xs ((6 * j) + 2)) _ rfl (xs ((6 * j) + 3)) _ rfl C (List.flatten [rdb ka (A 1) (d 0) rk du kd nv kf nf mf, vlw ka d np nt ng wf2 df2 tf2, rdw ka b N, ngb ka nb cn tq bq eq, trb (A 2) (C 4 60), sdw ka sb mr Mf Gf, vlw ka v (N 0 0) (N 0 1) (N 0 2) wf df tf, tkw ta N (N 0 1), mw ka hm am N C f g])) X wd_561 wd_558 wd_559 wd_560 wd_1 on_X10_sheet ⟨Nat.le_of_ble_eq_true rfl, Nat.le_of_ble_eq_true rfl⟩ (va_recv hK hw.2.1 (ci := 10) (q0 := 0) rfl rfl) hw hl.1 rfl (Nat.le_of_ble_eq_true rfl) ⟨by show ce + 2 ≤ 600000; omega, by show sl + 62 ≤ 7302250; omega⟩ dL_law_906) hS (fun r_2 u_1 H locs hp_u_1 hw hS => ?_)
  obtain ⟨N1, C1, ra1, ca1, rfl, hr1⟩ := hp_u_1
  have hw : wdH D s.heap.size (List.flatten [fvb h A b nb sb v (N1 0 4), shb ka (A 0) N1 ra1, rows ka ra1 ca1 N1 C1, rdb ka (A 1) (d 0) rk du kd nv kf nf mf, vlw ka d np nt ng wf2 df2 tf2, rdw ka b N, ngb ka nb cn tq bq eq, trb (A 2) (C 4 60), sdw ka sb mr Mf Gf, vlw ka v (N 0 0) (N 0 1) (N 0 2) wf df tf, tkw ta N (N 0 1), mw ka hm am N C f g]) H := hw
  have hok1 : OK N1 := by
    have h9 : N1 = (sp_sheet N C (xs ((6 * j) + 1)).toInt (xs ((6 * j) + 2)).toInt (xs ((6 * j) + 3)).toInt).2.1 := congrArg (fun q => q.2.1) hr1
    rw [h9]; exact ok_sheet hN
  have hF := fr_sheet hr1
  obtain ⟨hF1, hF2, hF3⟩ := hF
  rw [← rdw_e (ka := ka) (b := b) hF2] at hw
  rw [← kp_e (ka := ka) (v := v) (wf := wf) (df := df) (tf := tf) hF1] at hw
  rw [← tk_e (ta := ta) hF1] at hw
  rw [← hF3] at hw
  have hV1 := VR_e hF1 hV
  have hw : wdH D s.heap.size (List.flatten [fvb h A b nb sb v (N1 0 4), shb ka (A 0) N1 ra1, rows ka ra1 ca1 N1 C1, rdb ka (A 1) (d 0) rk du kd nv kf nf mf, vlw ka d np nt ng wf2 df2 tf2, rdw ka b N1, ngb ka nb cn tq bq eq, trb (A 2) (C1 4 60), sdw ka sb mr Mf Gf, vlw ka v (N1 0 0) (N1 0 1) (N1 0 2) wf df tf, tkw ta N1 (N1 0 1), mw ka hm am N C f g]) H := hw
  have hw : wdH D s.heap.size (List.flatten [shb ka (A 0) N1 ra1, rows ka ra1 ca1 N1 C1, fvb h A b nb sb v (N1 0 4), rdb ka (A 1) (d 0) rk du kd nv kf nf mf, vlw ka d np nt ng wf2 df2 tf2, rdw ka b N1, ngb ka nb cn tq bq eq, trb (A 2) (C1 4 60), sdw ka sb mr Mf Gf, vlw ka v (N1 0 0) (N1 0 1) (N1 0 2) wf df tf, tkw ta N1 (N1 0 1), mw ka hm am N C f g]) H := wdH.bk 2 hw
  have hw : wdH D s.heap.size (List.flatten [rows ka ra1 ca1 N1 C1, fvb h A b nb sb v (N1 0 4), shb ka (A 0) N1 ra1, rdb ka (A 1) (d 0) rk du kd nv kf nf mf, vlw ka d np nt ng wf2 df2 tf2, rdw ka b N1, ngb ka nb cn tq bq eq, trb (A 2) (C1 4 60), sdw ka sb mr Mf Gf, vlw ka v (N1 0 0) (N1 0 1) (N1 0 2) wf df tf, tkw ta N1 (N1 0 1), mw ka hm am N C f g]) H := wdH.bk 2 hw
  have hw : wdH D s.heap.size (List.flatten [fvb h A b nb sb v (N1 0 4), shb ka (A 0) N1 ra1, rdb ka (A 1) (d 0) rk du kd nv kf nf mf, vlw ka d np nt ng wf2 df2 tf2, rdw ka b N1, ngb ka nb cn tq bq eq, trb (A 2) (C1 4 60), sdw ka sb mr Mf Gf, vlw ka v (N1 0 0) (N1 0 1) (N1 0 2) wf df tf, rows ka ra1 ca1 N1 C1, tkw ta N1 (N1 0 1), mw ka hm am N C f g]) H := wdH.bk 9 hw
  refine lv_aload_n hx hb dL_law_909 rfl (lv_at hl 1 rfl) ?_
  refine lv_aload_n hx hb dL_law_910 rfl (lv_at hl 3 rfl) ?_
  refine lv_iload_n hx hb dL_law_911 rfl (lv_at hl 0 rfl) ?_
  refine lv_iconst (v := nI 1) hx hb dL_law_912 (by decide) ?_
  refine n_iadd hx hb dL_law_913 ?_
  refine n_sld hx hb hXs hbl hS (k := (6 * j) + 1) (by omega) hL dL_law_914 ?_
  refine lv_aload_n hx hb dL_law_915 rfl (lv_at hl 3 rfl) ?_
  refine lv_iload_n hx hb dL_law_916 rfl (lv_at hl 0 rfl) ?_
  refine lv_iconst (v := nI 2) hx hb dL_law_917 (by decide) ?_
  refine n_iadd hx hb dL_law_918 ?_
  refine n_sld hx hb hXs hbl hS (k := (6 * j) + 2) (by omega) hL dL_law_919 ?_
  refine lv_aload_n hx hb dL_law_920 rfl (lv_at hl 3 rfl) ?_
  refine lv_iload_n hx hb dL_law_921 rfl (lv_at hl 0 rfl) ?_
  refine lv_iconst (v := nI 3) hx hb dL_law_922 (by decide) ?_
  refine n_iadd hx hb dL_law_923 ?_
  refine n_sld hx hb hXs hbl hS (k := (6 * j) + 3) (by omega) hL dL_law_924 ?_
  have hw : wdH D s.heap.size (List.flatten [mw ka hm am N C f g, fvb h A b nb sb v (N1 0 4), shb ka (A 0) N1 ra1, rdb ka (A 1) (d 0) rk du kd nv kf nf mf, vlw ka d np nt ng wf2 df2 tf2, rdw ka b N1, ngb ka nb cn tq bq eq, trb (A 2) (C1 4 60), sdw ka sb mr Mf Gf, vlw ka v (N1 0 0) (N1 0 1) (N1 0 2) wf df tf, rows ka ra1 ca1 N1 C1, tkw ta N1 (N1 0 1)]) H := wdH.fr 11 rfl hw
  refine mu_i (mu_runV (c_X11_sheet l D ka s.heap.size hm am N C f g (List.flatten [fvb h A b nb sb v (N1 0 4), shb ka (A 0) N1 ra1, rdb ka (A 1) (d 0) rk du kd nv kf nf mf, vlw ka d np nt ng wf2 df2 tf2, rdw ka b N1, ngb ka nb cn tq bq eq, trb (A 2) (C1 4 60), sdw ka sb mr Mf Gf, vlw ka v (N1 0 0) (N1 0 1) (N1 0 2) wf df tf, rows ka ra1 ca1 N1 C1, tkw ta N1 (N1 0 1)]) (xs ((6 * j) + 1)) (xs ((6 * j) + 2)) (xs ((6 * j) + 3)) _ _ _ rfl rfl rfl hN.1) X wd_963 wd_960 wd_961 wd_962 wd_8 on_X11_sheet ⟨Nat.le_of_ble_eq_true rfl, Nat.le_of_ble_eq_true rfl⟩ (va_recv hK hw.2.1 (ci := 11) (q0 := 0) rfl rfl) hw hl.1 rfl (Nat.le_of_ble_eq_true rfl) ⟨by show ce + 2 + 0 ≤ 600000; omega, by show sl + 62 + 0 ≤ 7302250; omega⟩ dL_law_925) hS (fun r_4 u_3 H locs hp_u_3 hw hS => ?_)
  obtain ⟨f2, g2, N2, C2, rfl, hr2⟩ := hp_u_3
  have hw : wdH D s.heap.size (List.flatten [mw ka hm am N2 C2 f2 g2, fvb h A b nb sb v (N1 0 4), shb ka (A 0) N1 ra1, rdb ka (A 1) (d 0) rk du kd nv kf nf mf, vlw ka d np nt ng wf2 df2 tf2, rdw ka b N1, ngb ka nb cn tq bq eq, trb (A 2) (C1 4 60), sdw ka sb mr Mf Gf, vlw ka v (N1 0 0) (N1 0 1) (N1 0 2) wf df tf, rows ka ra1 ca1 N1 C1, tkw ta N1 (N1 0 1)]) H := hw
  have heq := hr1.trans hr2.symm
  obtain ⟨h91, h92⟩ := Prod.mk.inj heq
  obtain ⟨h93, h94⟩ := Prod.mk.inj h92
  subst h91 h93 h94
  have hw : wdH D s.heap.size (List.flatten [mw ka hm am N1 C1 f2 g2, fvb h A b nb sb v (N1 0 4), shb ka (A 0) N1 ra1, rdb ka (A 1) (d 0) rk du kd nv kf nf mf, vlw ka d np nt ng wf2 df2 tf2, rdw ka b N1, ngb ka nb cn tq bq eq, trb (A 2) (C1 4 60), sdw ka sb mr Mf Gf, vlw ka v (N1 0 0) (N1 0 1) (N1 0 2) wf df tf, rows ka ra1 ca1 N1 C1, tkw ta N1 (N1 0 1)]) H := hw
  have hw : wdH D s.heap.size (List.flatten [fvb h A b nb sb v (N1 0 4), shb ka (A 0) N1 ra1, rdb ka (A 1) (d 0) rk du kd nv kf nf mf, vlw ka d np nt ng wf2 df2 tf2, rdw ka b N1, ngb ka nb cn tq bq eq, trb (A 2) (C1 4 60), sdw ka sb mr Mf Gf, vlw ka v (N1 0 0) (N1 0 1) (N1 0 2) wf df tf, rows ka ra1 ca1 N1 C1, tkw ta N1 (N1 0 1), mw ka hm am N1 C1 f2 g2]) H := wdH.bk 11 hw
  refine lv_icmp_eq (tgt := 1234) hx hb dL_law_928 (by decide) (fun _ => ?_) (fun hne => absurd rfl hne)
  refine W.widen (k := ce + 60) (n := sl + 180) (by omega) (by omega) ?_
  exact kk _ _ H locs ls hok1 ⟨A, b, nb, sb, mr, v, d, rk, ta, ra1, ca1, am, cn, tq, bq, eq, kf, nf, mf, Mf, Gf, du, kd, nv, np, nt, ng, wf, df, wf2, df2, tf, tf2, f2, g2, hV1, hMf, hGf, hw⟩ hS hl
set_option maxRecDepth 100000 in
set_option maxHeartbeats 4000000 in
theorem law_lose {p : Program} {l : Launch} {e : Env} {s : State} {m : MethodId} {below : List Frame} {meth : Method} {c : Code} {D : va_G} {ka : Nat → ClassId} {sc L : Nat} {xs : Nat → Int32} {Q : State → Prop} (X : Cx p s m #[Value.ref sc] c cL_law 4 RL D ka) (hXs : va_X sc L xs s s.heap) (hbl : sc < s.heap.size) (hL : L ≤ 384) {z : Nat} (hz : z = s.heap.size) {N : NN} {C : CC} (hN : OK N) {h hm j : Nat} (hj : 6 * j + 6 ≤ L) {H : Heap} {locs : List Loc} {ce sl : Nat} (hce : ce ≤ 100000) (hsl : sl ≤ 100000) (hI : INV D z ka h hm N C H) (hS : va_S (fun q => s.heap.size ≤ q) s.heap H locs) {ls : Array Slot} (hl : lv_has ls 4 [(3, .int (nI (6 * j))), (2, .ref hm), (1, .ref h), (0, .ref sc)])
    (kk : ∀ (N9 : NN) (C9 : CC) (H9 : Heap) (locs9 : List Loc) (ls9 : Array Slot), OK N9 → INV D z ka h hm N9 C9 H9 → va_S (fun q => s.heap.size ≤ q) s.heap H9 locs9 → lv_has ls9 4 [(3, .int (nI (6 * j))), (2, .ref hm), (1, .ref h), (0, .ref sc)] → W p l e room_1 s m #[Value.ref sc] below meth c H9 locs9 (ce + 60) (sl + 180) Q (F0 m 1234 ls9 [])) : W p l e room_1 s m #[Value.ref sc] below meth c H locs ce sl Q (F0 m 933 ls []) := by
  subst hz
  obtain ⟨hx, hb, hml, hown, hts, hE⟩ := id X
  have hK := hE.1
  obtain ⟨A, b, nb, sb, mr, v, d, rk, ta, ra, ca, am, cn, tq, bq, eq, kf, nf, mf, Mf, Gf, du, kd, nv, np, nt, ng, wf, df, wf2, df2, tf, tf2, f, g, hV, hMf, hGf, hw⟩ := hI
  refine lv_aload_n hx hb dL_law_933 rfl (lv_at hl 2 rfl) ?_
  refine lv_aload_n hx hb dL_law_934 rfl (lv_at hl 3 rfl) ?_
  refine lv_iload_n hx hb dL_law_935 rfl (lv_at hl 0 rfl) ?_
  refine lv_iconst (v := nI 1) hx hb dL_law_936 (by decide) ?_
  refine n_iadd hx hb dL_law_937 ?_
  refine n_sld hx hb hXs hbl hS (k := (6 * j) + 1) (by omega) hL dL_law_938 ?_
  have hw : wdH D s.heap.size (List.flatten [rows ka ra ca N C, fvb h A b nb sb v (N 0 4), shb ka (A 0) N ra, rdb ka (A 1) (d 0) rk du kd nv kf nf mf, vlw ka d np nt ng wf2 df2 tf2, rdw ka b N, ngb ka nb cn tq bq eq, trb (A 2) (C 4 60), sdw ka sb mr Mf Gf, vlw ka v (N 0 0) (N 0 1) (N 0 2) wf df tf, tkw ta N (N 0 1), mw ka hm am N C f g]) H := wdH.fr 9 rfl hw
  have hw : wdH D s.heap.size (List.flatten [shb ka (A 0) N ra, rows ka ra ca N C, fvb h A b nb sb v (N 0 4), rdb ka (A 1) (d 0) rk du kd nv kf nf mf, vlw ka d np nt ng wf2 df2 tf2, rdw ka b N, ngb ka nb cn tq bq eq, trb (A 2) (C 4 60), sdw ka sb mr Mf Gf, vlw ka v (N 0 0) (N 0 1) (N 0 2) wf df tf, tkw ta N (N 0 1), mw ka hm am N C f g]) H := wdH.fr 2 rfl hw
  have hw : wdH D s.heap.size (List.flatten [fvb h A b nb sb v (N 0 4), shb ka (A 0) N ra, rows ka ra ca N C, rdb ka (A 1) (d 0) rk du kd nv kf nf mf, vlw ka d np nt ng wf2 df2 tf2, rdw ka b N, ngb ka nb cn tq bq eq, trb (A 2) (C 4 60), sdw ka sb mr Mf Gf, vlw ka v (N 0 0) (N 0 1) (N 0 2) wf df tf, tkw ta N (N 0 1), mw ka hm am N C f g]) H := wdH.fr 2 rfl hw
  refine mu_i (mu_runV (c_X10_lose l D ka s.heap.size  h A b nb sb v ra ca N hN.1  (xs ((6 * j) + 1)) _ rfl C (List.flatten [rdb ka (A 1) (d 0) rk du kd nv kf nf mf, vlw ka d np nt ng wf2 df2 tf2, rdw ka b N, ngb ka nb cn tq bq eq, trb (A 2) (C 4 60), sdw ka sb mr Mf Gf, vlw ka v (N 0 0) (N 0 1) (N 0 2) wf df tf, tkw ta N (N 0 1), mw ka hm am N C f g])) X wd_582 wd_579 wd_580 wd_581 wd_1 on_X10_lose ⟨Nat.le_of_ble_eq_true rfl, Nat.le_of_ble_eq_true rfl⟩ (va_recv hK hw.2.1 (ci := 10) (q0 := 0) rfl rfl) hw hl.1 rfl (Nat.le_of_ble_eq_true rfl) ⟨by show ce + 0 ≤ 600000; omega, by show sl + 0 ≤ 7302250; omega⟩ dL_law_939) hS (fun r_2 u_1 H locs hp_u_1 hw hS => ?_)
  obtain ⟨N1, C1, rfl, hr1⟩ := hp_u_1
  have hw : wdH D s.heap.size (List.flatten [fvb h A b nb sb v (N1 0 4), shb ka (A 0) N1 ra, rows ka ra ca N1 C1, rdb ka (A 1) (d 0) rk du kd nv kf nf mf, vlw ka d np nt ng wf2 df2 tf2, rdw ka b N, ngb ka nb cn tq bq eq, trb (A 2) (C 4 60), sdw ka sb mr Mf Gf, vlw ka v (N 0 0) (N 0 1) (N 0 2) wf df tf, tkw ta N (N 0 1), mw ka hm am N C f g]) H := hw
  have hok1 : OK N1 := by
    have h9 : N1 = (sp_lose N C (xs ((6 * j) + 1)).toInt).2.1 := congrArg (fun q => q.2.1) hr1
    rw [h9]; exact ok_lose hN
  have hF := fr_lose hr1
  obtain ⟨hF1, hF2, hF3⟩ := hF
  rw [← rdw_e (ka := ka) (b := b) hF2] at hw
  rw [← kp_e (ka := ka) (v := v) (wf := wf) (df := df) (tf := tf) hF1] at hw
  rw [← tk_e (ta := ta) hF1] at hw
  rw [← hF3] at hw
  have hV1 := VR_e hF1 hV
  have hw : wdH D s.heap.size (List.flatten [fvb h A b nb sb v (N1 0 4), shb ka (A 0) N1 ra, rows ka ra ca N1 C1, rdb ka (A 1) (d 0) rk du kd nv kf nf mf, vlw ka d np nt ng wf2 df2 tf2, rdw ka b N1, ngb ka nb cn tq bq eq, trb (A 2) (C1 4 60), sdw ka sb mr Mf Gf, vlw ka v (N1 0 0) (N1 0 1) (N1 0 2) wf df tf, tkw ta N1 (N1 0 1), mw ka hm am N C f g]) H := hw
  have hw : wdH D s.heap.size (List.flatten [shb ka (A 0) N1 ra, rows ka ra ca N1 C1, fvb h A b nb sb v (N1 0 4), rdb ka (A 1) (d 0) rk du kd nv kf nf mf, vlw ka d np nt ng wf2 df2 tf2, rdw ka b N1, ngb ka nb cn tq bq eq, trb (A 2) (C1 4 60), sdw ka sb mr Mf Gf, vlw ka v (N1 0 0) (N1 0 1) (N1 0 2) wf df tf, tkw ta N1 (N1 0 1), mw ka hm am N C f g]) H := wdH.bk 2 hw
  have hw : wdH D s.heap.size (List.flatten [rows ka ra ca N1 C1, fvb h A b nb sb v (N1 0 4), shb ka (A 0) N1 ra, rdb ka (A 1) (d 0) rk du kd nv kf nf mf, vlw ka d np nt ng wf2 df2 tf2, rdw ka b N1, ngb ka nb cn tq bq eq, trb (A 2) (C1 4 60), sdw ka sb mr Mf Gf, vlw ka v (N1 0 0) (N1 0 1) (N1 0 2) wf df tf, tkw ta N1 (N1 0 1), mw ka hm am N C f g]) H := wdH.bk 2 hw
  have hw : wdH D s.heap.size (List.flatten [fvb h A b nb sb v (N1 0 4), shb ka (A 0) N1 ra, rdb ka (A 1) (d 0) rk du kd nv kf nf mf, vlw ka d np nt ng wf2 df2 tf2, rdw ka b N1, ngb ka nb cn tq bq eq, trb (A 2) (C1 4 60), sdw ka sb mr Mf Gf, vlw ka v (N1 0 0) (N1 0 1) (N1 0 2) wf df tf, rows ka ra ca N1 C1, tkw ta N1 (N1 0 1), mw ka hm am N C f g]) H := wdH.bk 9 hw
  refine lv_aload_n hx hb dL_law_942 rfl (lv_at hl 1 rfl) ?_
  refine lv_aload_n hx hb dL_law_943 rfl (lv_at hl 3 rfl) ?_
  refine lv_iload_n hx hb dL_law_944 rfl (lv_at hl 0 rfl) ?_
  refine lv_iconst (v := nI 1) hx hb dL_law_945 (by decide) ?_
  refine n_iadd hx hb dL_law_946 ?_
  refine n_sld hx hb hXs hbl hS (k := (6 * j) + 1) (by omega) hL dL_law_947 ?_
  have hw : wdH D s.heap.size (List.flatten [mw ka hm am N C f g, fvb h A b nb sb v (N1 0 4), shb ka (A 0) N1 ra, rdb ka (A 1) (d 0) rk du kd nv kf nf mf, vlw ka d np nt ng wf2 df2 tf2, rdw ka b N1, ngb ka nb cn tq bq eq, trb (A 2) (C1 4 60), sdw ka sb mr Mf Gf, vlw ka v (N1 0 0) (N1 0 1) (N1 0 2) wf df tf, rows ka ra ca N1 C1, tkw ta N1 (N1 0 1)]) H := wdH.fr 11 rfl hw
  refine mu_i (mu_runV (c_X11_lose l D ka s.heap.size hm am N C f g (List.flatten [fvb h A b nb sb v (N1 0 4), shb ka (A 0) N1 ra, rdb ka (A 1) (d 0) rk du kd nv kf nf mf, vlw ka d np nt ng wf2 df2 tf2, rdw ka b N1, ngb ka nb cn tq bq eq, trb (A 2) (C1 4 60), sdw ka sb mr Mf Gf, vlw ka v (N1 0 0) (N1 0 1) (N1 0 2) wf df tf, rows ka ra ca N1 C1, tkw ta N1 (N1 0 1)]) (xs ((6 * j) + 1)) _ rfl hN.1) X wd_967 wd_964 wd_965 wd_966 wd_8 on_X11_lose ⟨Nat.le_of_ble_eq_true rfl, Nat.le_of_ble_eq_true rfl⟩ (va_recv hK hw.2.1 (ci := 11) (q0 := 0) rfl rfl) hw hl.1 rfl (Nat.le_of_ble_eq_true rfl) ⟨by show ce + 0 ≤ 600000; omega, by show sl + 0 ≤ 7302250; omega⟩ dL_law_948) hS (fun r_4 u_3 H locs hp_u_3 hw hS => ?_)
  obtain ⟨f2, g2, N2, C2, rfl, hr2⟩ := hp_u_3
  have hw : wdH D s.heap.size (List.flatten [mw ka hm am N2 C2 f2 g2, fvb h A b nb sb v (N1 0 4), shb ka (A 0) N1 ra, rdb ka (A 1) (d 0) rk du kd nv kf nf mf, vlw ka d np nt ng wf2 df2 tf2, rdw ka b N1, ngb ka nb cn tq bq eq, trb (A 2) (C1 4 60), sdw ka sb mr Mf Gf, vlw ka v (N1 0 0) (N1 0 1) (N1 0 2) wf df tf, rows ka ra ca N1 C1, tkw ta N1 (N1 0 1)]) H := hw
  have heq := hr1.trans hr2.symm
  obtain ⟨h91, h92⟩ := Prod.mk.inj heq
  obtain ⟨h93, h94⟩ := Prod.mk.inj h92
  subst h91 h93 h94
  have hw : wdH D s.heap.size (List.flatten [mw ka hm am N1 C1 f2 g2, fvb h A b nb sb v (N1 0 4), shb ka (A 0) N1 ra, rdb ka (A 1) (d 0) rk du kd nv kf nf mf, vlw ka d np nt ng wf2 df2 tf2, rdw ka b N1, ngb ka nb cn tq bq eq, trb (A 2) (C1 4 60), sdw ka sb mr Mf Gf, vlw ka v (N1 0 0) (N1 0 1) (N1 0 2) wf df tf, rows ka ra ca N1 C1, tkw ta N1 (N1 0 1)]) H := hw
  have hw : wdH D s.heap.size (List.flatten [fvb h A b nb sb v (N1 0 4), shb ka (A 0) N1 ra, rdb ka (A 1) (d 0) rk du kd nv kf nf mf, vlw ka d np nt ng wf2 df2 tf2, rdw ka b N1, ngb ka nb cn tq bq eq, trb (A 2) (C1 4 60), sdw ka sb mr Mf Gf, vlw ka v (N1 0 0) (N1 0 1) (N1 0 2) wf df tf, rows ka ra ca N1 C1, tkw ta N1 (N1 0 1), mw ka hm am N1 C1 f2 g2]) H := wdH.bk 11 hw
  refine lv_icmp_eq (tgt := 1234) hx hb dL_law_951 (by decide) (fun _ => ?_) (fun hne => absurd rfl hne)
  refine W.widen (k := ce + 60) (n := sl + 180) (by omega) (by omega) ?_
  exact kk _ _ H locs ls hok1 ⟨A, b, nb, sb, mr, v, d, rk, ta, ra, ca, am, cn, tq, bq, eq, kf, nf, mf, Mf, Gf, du, kd, nv, np, nt, ng, wf, df, wf2, df2, tf, tf2, f2, g2, hV1, hMf, hGf, hw⟩ hS hl
set_option maxRecDepth 100000 in
set_option maxHeartbeats 4000000 in
theorem law_put {p : Program} {l : Launch} {e : Env} {s : State} {m : MethodId} {below : List Frame} {meth : Method} {c : Code} {D : va_G} {ka : Nat → ClassId} {sc L : Nat} {xs : Nat → Int32} {Q : State → Prop} (X : Cx p s m #[Value.ref sc] c cL_law 4 RL D ka) (hXs : va_X sc L xs s s.heap) (hbl : sc < s.heap.size) (hL : L ≤ 384) {z : Nat} (hz : z = s.heap.size) {N : NN} {C : CC} (hN : OK N) {h hm j : Nat} (hj : 6 * j + 6 ≤ L) {H : Heap} {locs : List Loc} {ce sl : Nat} (hce : ce ≤ 100000) (hsl : sl ≤ 100000) (hI : INV D z ka h hm N C H) (hS : va_S (fun q => s.heap.size ≤ q) s.heap H locs) {ls : Array Slot} (hl : lv_has ls 4 [(3, .int (nI (6 * j))), (2, .ref hm), (1, .ref h), (0, .ref sc)])
    (kk : ∀ (N9 : NN) (C9 : CC) (H9 : Heap) (locs9 : List Loc) (ls9 : Array Slot), OK N9 → INV D z ka h hm N9 C9 H9 → va_S (fun q => s.heap.size ≤ q) s.heap H9 locs9 → lv_has ls9 4 [(3, .int (nI (6 * j))), (2, .ref hm), (1, .ref h), (0, .ref sc)] → W p l e room_1 s m #[Value.ref sc] below meth c H9 locs9 (ce + 60) (sl + 180) Q (F0 m 1234 ls9 [])) : W p l e room_1 s m #[Value.ref sc] below meth c H locs ce sl Q (F0 m 956 ls []) := by
  subst hz
  obtain ⟨hx, hb, hml, hown, hts, hE⟩ := id X
  have hK := hE.1
  obtain ⟨A, b, nb, sb, mr, v, d, rk, ta, ra, ca, am, cn, tq, bq, eq, kf, nf, mf, Mf, Gf, du, kd, nv, np, nt, ng, wf, df, wf2, df2, tf, tf2, f, g, hV, hMf, hGf, hw⟩ := hI
  refine lv_aload_n hx hb dL_law_956 rfl (lv_at hl 2 rfl) ?_
  refine lv_aload_n hx hb dL_law_957 rfl (lv_at hl 3 rfl) ?_
  refine lv_iload_n hx hb dL_law_958 rfl (lv_at hl 0 rfl) ?_
  refine lv_iconst (v := nI 1) hx hb dL_law_959 (by decide) ?_
  refine n_iadd hx hb dL_law_960 ?_
  refine n_sld hx hb hXs hbl hS (k := (6 * j) + 1) (by omega) hL dL_law_961 ?_
  refine lv_aload_n hx hb dL_law_962 rfl (lv_at hl 3 rfl) ?_
  refine lv_iload_n hx hb dL_law_963 rfl (lv_at hl 0 rfl) ?_
  refine lv_iconst (v := nI 2) hx hb dL_law_964 (by decide) ?_
  refine n_iadd hx hb dL_law_965 ?_
  refine n_sld hx hb hXs hbl hS (k := (6 * j) + 2) (by omega) hL dL_law_966 ?_
  refine lv_aload_n hx hb dL_law_967 rfl (lv_at hl 3 rfl) ?_
  refine lv_iload_n hx hb dL_law_968 rfl (lv_at hl 0 rfl) ?_
  refine lv_iconst (v := nI 3) hx hb dL_law_969 (by decide) ?_
  refine n_iadd hx hb dL_law_970 ?_
  refine n_sld hx hb hXs hbl hS (k := (6 * j) + 3) (by omega) hL dL_law_971 ?_
  have hw : wdH D s.heap.size (List.flatten [rows ka ra ca N C, fvb h A b nb sb v (N 0 4), shb ka (A 0) N ra, rdb ka (A 1) (d 0) rk du kd nv kf nf mf, vlw ka d np nt ng wf2 df2 tf2, rdw ka b N, ngb ka nb cn tq bq eq, trb (A 2) (C 4 60), sdw ka sb mr Mf Gf, vlw ka v (N 0 0) (N 0 1) (N 0 2) wf df tf, tkw ta N (N 0 1), mw ka hm am N C f g]) H := wdH.fr 9 rfl hw
  have hw : wdH D s.heap.size (List.flatten [shb ka (A 0) N ra, rows ka ra ca N C, fvb h A b nb sb v (N 0 4), rdb ka (A 1) (d 0) rk du kd nv kf nf mf, vlw ka d np nt ng wf2 df2 tf2, rdw ka b N, ngb ka nb cn tq bq eq, trb (A 2) (C 4 60), sdw ka sb mr Mf Gf, vlw ka v (N 0 0) (N 0 1) (N 0 2) wf df tf, tkw ta N (N 0 1), mw ka hm am N C f g]) H := wdH.fr 2 rfl hw
  have hw : wdH D s.heap.size (List.flatten [fvb h A b nb sb v (N 0 4), shb ka (A 0) N ra, rows ka ra ca N C, rdb ka (A 1) (d 0) rk du kd nv kf nf mf, vlw ka d np nt ng wf2 df2 tf2, rdw ka b N, ngb ka nb cn tq bq eq, trb (A 2) (C 4 60), sdw ka sb mr Mf Gf, vlw ka v (N 0 0) (N 0 1) (N 0 2) wf df tf, tkw ta N (N 0 1), mw ka hm am N C f g]) H := wdH.fr 2 rfl hw
  refine mu_i (mu_runV (c_X10_put l D ka s.heap.size  h A b nb sb v ra ca N hN.1  (xs ((6 * j) + 1)) _ rfl (xs ((6 * j) + 2)) _ rfl (xs ((6 * j) + 3)) C (List.flatten [rdb ka (A 1) (d 0) rk du kd nv kf nf mf, vlw ka d np nt ng wf2 df2 tf2, rdw ka b N, ngb ka nb cn tq bq eq, trb (A 2) (C 4 60), sdw ka sb mr Mf Gf, vlw ka v (N 0 0) (N 0 1) (N 0 2) wf df tf, tkw ta N (N 0 1), mw ka hm am N C f g])) X wd_586 wd_583 wd_584 wd_585 wd_1 on_X10_put ⟨Nat.le_of_ble_eq_true rfl, Nat.le_of_ble_eq_true rfl⟩ (va_recv hK hw.2.1 (ci := 10) (q0 := 0) rfl rfl) hw hl.1 rfl (Nat.le_of_ble_eq_true rfl) ⟨by show ce + 0 ≤ 600000; omega, by show sl + 0 ≤ 7302250; omega⟩ dL_law_972) hS (fun r_2 u_1 H locs hp_u_1 hw hS => ?_)
  obtain ⟨N1, C1, rfl, hr1⟩ := hp_u_1
  have hw : wdH D s.heap.size (List.flatten [fvb h A b nb sb v (N1 0 4), shb ka (A 0) N1 ra, rows ka ra ca N1 C1, rdb ka (A 1) (d 0) rk du kd nv kf nf mf, vlw ka d np nt ng wf2 df2 tf2, rdw ka b N, ngb ka nb cn tq bq eq, trb (A 2) (C 4 60), sdw ka sb mr Mf Gf, vlw ka v (N 0 0) (N 0 1) (N 0 2) wf df tf, tkw ta N (N 0 1), mw ka hm am N C f g]) H := hw
  have hok1 : OK N1 := by
    have h9 : N1 = (sp_put N C (xs ((6 * j) + 1)).toInt (xs ((6 * j) + 2)).toInt (xs ((6 * j) + 3))).2.1 := congrArg (fun q => q.2.1) hr1
    rw [h9]; exact ok_put hN
  have hF := fr_put hr1
  obtain ⟨hF1, hF2, hF3⟩ := hF
  rw [← rdw_e (ka := ka) (b := b) hF2] at hw
  rw [← kp_e (ka := ka) (v := v) (wf := wf) (df := df) (tf := tf) hF1] at hw
  rw [← tk_e (ta := ta) hF1] at hw
  rw [← hF3] at hw
  have hV1 := VR_e hF1 hV
  have hw : wdH D s.heap.size (List.flatten [fvb h A b nb sb v (N1 0 4), shb ka (A 0) N1 ra, rows ka ra ca N1 C1, rdb ka (A 1) (d 0) rk du kd nv kf nf mf, vlw ka d np nt ng wf2 df2 tf2, rdw ka b N1, ngb ka nb cn tq bq eq, trb (A 2) (C1 4 60), sdw ka sb mr Mf Gf, vlw ka v (N1 0 0) (N1 0 1) (N1 0 2) wf df tf, tkw ta N1 (N1 0 1), mw ka hm am N C f g]) H := hw
  have hw : wdH D s.heap.size (List.flatten [shb ka (A 0) N1 ra, rows ka ra ca N1 C1, fvb h A b nb sb v (N1 0 4), rdb ka (A 1) (d 0) rk du kd nv kf nf mf, vlw ka d np nt ng wf2 df2 tf2, rdw ka b N1, ngb ka nb cn tq bq eq, trb (A 2) (C1 4 60), sdw ka sb mr Mf Gf, vlw ka v (N1 0 0) (N1 0 1) (N1 0 2) wf df tf, tkw ta N1 (N1 0 1), mw ka hm am N C f g]) H := wdH.bk 2 hw
  have hw : wdH D s.heap.size (List.flatten [rows ka ra ca N1 C1, fvb h A b nb sb v (N1 0 4), shb ka (A 0) N1 ra, rdb ka (A 1) (d 0) rk du kd nv kf nf mf, vlw ka d np nt ng wf2 df2 tf2, rdw ka b N1, ngb ka nb cn tq bq eq, trb (A 2) (C1 4 60), sdw ka sb mr Mf Gf, vlw ka v (N1 0 0) (N1 0 1) (N1 0 2) wf df tf, tkw ta N1 (N1 0 1), mw ka hm am N C f g]) H := wdH.bk 2 hw
  have hw : wdH D s.heap.size (List.flatten [fvb h A b nb sb v (N1 0 4), shb ka (A 0) N1 ra, rdb ka (A 1) (d 0) rk du kd nv kf nf mf, vlw ka d np nt ng wf2 df2 tf2, rdw ka b N1, ngb ka nb cn tq bq eq, trb (A 2) (C1 4 60), sdw ka sb mr Mf Gf, vlw ka v (N1 0 0) (N1 0 1) (N1 0 2) wf df tf, rows ka ra ca N1 C1, tkw ta N1 (N1 0 1), mw ka hm am N C f g]) H := wdH.bk 9 hw
  refine lv_aload_n hx hb dL_law_975 rfl (lv_at hl 1 rfl) ?_
  refine lv_aload_n hx hb dL_law_976 rfl (lv_at hl 3 rfl) ?_
  refine lv_iload_n hx hb dL_law_977 rfl (lv_at hl 0 rfl) ?_
  refine lv_iconst (v := nI 1) hx hb dL_law_978 (by decide) ?_
  refine n_iadd hx hb dL_law_979 ?_
  refine n_sld hx hb hXs hbl hS (k := (6 * j) + 1) (by omega) hL dL_law_980 ?_
  refine lv_aload_n hx hb dL_law_981 rfl (lv_at hl 3 rfl) ?_
  refine lv_iload_n hx hb dL_law_982 rfl (lv_at hl 0 rfl) ?_
  refine lv_iconst (v := nI 2) hx hb dL_law_983 (by decide) ?_
  refine n_iadd hx hb dL_law_984 ?_
  refine n_sld hx hb hXs hbl hS (k := (6 * j) + 2) (by omega) hL dL_law_985 ?_
  refine lv_aload_n hx hb dL_law_986 rfl (lv_at hl 3 rfl) ?_
  refine lv_iload_n hx hb dL_law_987 rfl (lv_at hl 0 rfl) ?_
  refine lv_iconst (v := nI 3) hx hb dL_law_988 (by decide) ?_
  refine n_iadd hx hb dL_law_989 ?_
  refine n_sld hx hb hXs hbl hS (k := (6 * j) + 3) (by omega) hL dL_law_990 ?_
  have hw : wdH D s.heap.size (List.flatten [mw ka hm am N C f g, fvb h A b nb sb v (N1 0 4), shb ka (A 0) N1 ra, rdb ka (A 1) (d 0) rk du kd nv kf nf mf, vlw ka d np nt ng wf2 df2 tf2, rdw ka b N1, ngb ka nb cn tq bq eq, trb (A 2) (C1 4 60), sdw ka sb mr Mf Gf, vlw ka v (N1 0 0) (N1 0 1) (N1 0 2) wf df tf, rows ka ra ca N1 C1, tkw ta N1 (N1 0 1)]) H := wdH.fr 11 rfl hw
  refine mu_i (mu_runV (c_X11_put l D ka s.heap.size hm am N C f g (List.flatten [fvb h A b nb sb v (N1 0 4), shb ka (A 0) N1 ra, rdb ka (A 1) (d 0) rk du kd nv kf nf mf, vlw ka d np nt ng wf2 df2 tf2, rdw ka b N1, ngb ka nb cn tq bq eq, trb (A 2) (C1 4 60), sdw ka sb mr Mf Gf, vlw ka v (N1 0 0) (N1 0 1) (N1 0 2) wf df tf, rows ka ra ca N1 C1, tkw ta N1 (N1 0 1)]) (xs ((6 * j) + 1)) (xs ((6 * j) + 2)) (xs ((6 * j) + 3)) _ _ rfl rfl hN.1) X wd_971 wd_968 wd_969 wd_970 wd_8 on_X11_put ⟨Nat.le_of_ble_eq_true rfl, Nat.le_of_ble_eq_true rfl⟩ (va_recv hK hw.2.1 (ci := 11) (q0 := 0) rfl rfl) hw hl.1 rfl (Nat.le_of_ble_eq_true rfl) ⟨by show ce + 0 ≤ 600000; omega, by show sl + 0 ≤ 7302250; omega⟩ dL_law_991) hS (fun r_4 u_3 H locs hp_u_3 hw hS => ?_)
  obtain ⟨f2, g2, N2, C2, rfl, hr2⟩ := hp_u_3
  have hw : wdH D s.heap.size (List.flatten [mw ka hm am N2 C2 f2 g2, fvb h A b nb sb v (N1 0 4), shb ka (A 0) N1 ra, rdb ka (A 1) (d 0) rk du kd nv kf nf mf, vlw ka d np nt ng wf2 df2 tf2, rdw ka b N1, ngb ka nb cn tq bq eq, trb (A 2) (C1 4 60), sdw ka sb mr Mf Gf, vlw ka v (N1 0 0) (N1 0 1) (N1 0 2) wf df tf, rows ka ra ca N1 C1, tkw ta N1 (N1 0 1)]) H := hw
  have heq := hr1.trans hr2.symm
  obtain ⟨h91, h92⟩ := Prod.mk.inj heq
  obtain ⟨h93, h94⟩ := Prod.mk.inj h92
  subst h91 h93 h94
  have hw : wdH D s.heap.size (List.flatten [mw ka hm am N1 C1 f2 g2, fvb h A b nb sb v (N1 0 4), shb ka (A 0) N1 ra, rdb ka (A 1) (d 0) rk du kd nv kf nf mf, vlw ka d np nt ng wf2 df2 tf2, rdw ka b N1, ngb ka nb cn tq bq eq, trb (A 2) (C1 4 60), sdw ka sb mr Mf Gf, vlw ka v (N1 0 0) (N1 0 1) (N1 0 2) wf df tf, rows ka ra ca N1 C1, tkw ta N1 (N1 0 1)]) H := hw
  have hw : wdH D s.heap.size (List.flatten [fvb h A b nb sb v (N1 0 4), shb ka (A 0) N1 ra, rdb ka (A 1) (d 0) rk du kd nv kf nf mf, vlw ka d np nt ng wf2 df2 tf2, rdw ka b N1, ngb ka nb cn tq bq eq, trb (A 2) (C1 4 60), sdw ka sb mr Mf Gf, vlw ka v (N1 0 0) (N1 0 1) (N1 0 2) wf df tf, rows ka ra ca N1 C1, tkw ta N1 (N1 0 1), mw ka hm am N1 C1 f2 g2]) H := wdH.bk 11 hw
  refine lv_icmp_eq (tgt := 1234) hx hb dL_law_994 (by decide) (fun _ => ?_) (fun hne => absurd rfl hne)
  refine W.widen (k := ce + 60) (n := sl + 180) (by omega) (by omega) ?_
  exact kk _ _ H locs ls hok1 ⟨A, b, nb, sb, mr, v, d, rk, ta, ra, ca, am, cn, tq, bq, eq, kf, nf, mf, Mf, Gf, du, kd, nv, np, nt, ng, wf, df, wf2, df2, tf, tf2, f2, g2, hV1, hMf, hGf, hw⟩ hS hl
