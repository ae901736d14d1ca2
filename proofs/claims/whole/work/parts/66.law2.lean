set_option maxRecDepth 100000 in
set_option maxHeartbeats 4000000 in
theorem law_holds {p : Program} {l : Launch} {e : Env} {s : State} {m : MethodId} {below : List Frame} {meth : Method} {c : Code} {D : va_G} {ka : Nat → ClassId} {sc L : Nat} {xs : Nat → Int32} {Q : State → Prop} (X : Cx p s m #[Value.ref sc] c cL_law 4 RL D ka) (hXs : va_X sc L xs s s.heap) (hbl : sc < s.heap.size) (hL : L ≤ 384) {z : Nat} (hz : z = s.heap.size) {N : NN} {C : CC} (hN : OK N) {h hm j : Nat} (hj : 6 * j + 6 ≤ L) {H : Heap} {locs : List Loc} {ce sl : Nat} (hce : ce ≤ 100000) (hsl : sl ≤ 100000) (hI : INV D z ka h hm N C H) (hS : va_S (fun q => s.heap.size ≤ q) s.heap H locs) {ls : Array Slot} (hl : lv_has ls 4 [(3, .int (nI (6 * j))), (2, .ref hm), (1, .ref h), (0, .ref sc)])
    (kk : ∀ (N9 : NN) (C9 : CC) (H9 : Heap) (locs9 : List Loc) (ls9 : Array Slot), OK N9 → INV D z ka h hm N9 C9 H9 → va_S (fun q => s.heap.size ≤ q) s.heap H9 locs9 → lv_has ls9 4 [(3, .int (nI (6 * j))), (2, .ref hm), (1, .ref h), (0, .ref sc)] → W p l e room_1 s m #[Value.ref sc] below meth c H9 locs9 (ce + 60) (sl + 180) Q (F0 m 1234 ls9 [])) : W p l e room_1 s m #[Value.ref sc] below meth c H locs ce sl Q (F0 m 440 ls []) := by
  subst hz
  obtain ⟨hx, hb, hml, hown, hts, hE⟩ := id X
  have hK := hE.1
  obtain ⟨A, b, nb, sb, mr, v, d, rk, ta, ra, ca, am, cn, tq, bq, eq, kf, nf, mf, Mf, Gf, du, kd, nv, np, nt, ng, wf, df, wf2, df2, tf, tf2, f, g, hV, hMf, hGf, hw⟩ := hI
  refine lv_aload_n hx hb dL_law_440 rfl (lv_at hl 2 rfl) ?_
  refine lv_aload_n hx hb dL_law_441 rfl (lv_at hl 3 rfl) ?_
  refine lv_iload_n hx hb dL_law_442 rfl (lv_at hl 0 rfl) ?_
  refine lv_iconst (v := nI 1) hx hb dL_law_443 (by decide) ?_
  refine n_iadd hx hb dL_law_444 ?_
  refine n_sld hx hb hXs hbl hS (k := (6 * j) + 1) (by omega) hL dL_law_445 ?_
  refine lv_aload_n hx hb dL_law_446 rfl (lv_at hl 3 rfl) ?_
  refine lv_iload_n hx hb dL_law_447 rfl (lv_at hl 0 rfl) ?_
  refine lv_iconst (v := nI 2) hx hb dL_law_448 (by decide) ?_
  refine n_iadd hx hb dL_law_449 ?_
  refine n_sld hx hb hXs hbl hS (k := (6 * j) + 2) (by omega) hL dL_law_450 ?_
  have hwf := hw
  have hwf : wdH D s.heap.size (List.flatten [tkw ta N (N 0 1), fvb h A b nb sb v (N 0 4), shb ka (A 0) N ra, rdb ka (A 1) (d 0) rk du kd nv kf nf mf, vlw ka d np nt ng wf2 df2 tf2, rdw ka b N, ngb ka nb cn tq bq eq, trb (A 2) (C 4 60), sdw ka sb mr Mf Gf, vlw ka v (N 0 0) (N 0 1) (N 0 2) wf df tf, rows ka ra ca N C, mw ka hm am N C f g]) H := wdH.fr 10 rfl hwf
  have hwf : wdH D s.heap.size (List.flatten [vlw ka v (N 0 0) (N 0 1) (N 0 2) wf df tf, tkw ta N (N 0 1), fvb h A b nb sb v (N 0 4), shb ka (A 0) N ra, rdb ka (A 1) (d 0) rk du kd nv kf nf mf, vlw ka d np nt ng wf2 df2 tf2, rdw ka b N, ngb ka nb cn tq bq eq, trb (A 2) (C 4 60), sdw ka sb mr Mf Gf, rows ka ra ca N C, mw ka hm am N C f g]) H := wdH.fr 9 rfl hwf
  have hwf : wdH D s.heap.size (List.flatten [fvb h A b nb sb v (N 0 4), vlw ka v (N 0 0) (N 0 1) (N 0 2) wf df tf, tkw ta N (N 0 1), shb ka (A 0) N ra, rdb ka (A 1) (d 0) rk du kd nv kf nf mf, vlw ka d np nt ng wf2 df2 tf2, rdw ka b N, ngb ka nb cn tq bq eq, trb (A 2) (C 4 60), sdw ka sb mr Mf Gf, rows ka ra ca N C, mw ka hm am N C f g]) H := wdH.fr 2 rfl hwf
  have hkw : va_P D vwCl (kw ka v ta N wf df tf) H := kw_of (w := fvb h A b nb sb v (N 0 4)) (R := List.flatten [shb ka (A 0) N ra, rdb ka (A 1) (d 0) rk du kd nv kf nf mf, vlw ka d np nt ng wf2 df2 tf2, rdw ka b N, ngb ka nb cn tq bq eq, trb (A 2) (C 4 60), sdw ka sb mr Mf Gf, rows ka ra ca N C, mw ka hm am N C f g]) hwf.2.1
  refine vp_callSi (ro_runV (c_X10_holds l D ka h A b nb sb v ta N wf df tf hV hN.1 hN.2 (xs ((6 * j) + 1)) _ rfl (xs ((6 * j) + 2)) _ rfl (List.flatten [vlw ka v (N 0 0) (N 0 1) (N 0 2) wf df tf, tkw ta N (N 0 1), shb ka (A 0) N ra, rdb ka (A 1) (d 0) rk du kd nv kf nf mf, vlw ka d np nt ng wf2 df2 tf2, rdw ka b N, ngb ka nb cn tq bq eq, trb (A 2) (C 4 60), sdw ka sb mr Mf Gf, rows ka ra ca N C, mw ka hm am N C f g])) X wd_376 wd_373 wd_374 wd_375 wd_1 on_X10_holds ⟨Nat.le_of_ble_eq_true rfl, Nat.le_of_ble_eq_true rfl⟩ (va_recv hK hwf.2.1 (ci := 10) (q0 := 0) rfl rfl) ⟨hwf.2.1, hkw⟩ hl.1 rfl (Nat.le_of_ble_eq_true rfl) ⟨(by show ce ≤ 600000; omega), (by show sl ≤ 7302250; omega)⟩ dL_law_451) (fun r_1 hr_1 => ?_)
  subst hr_1
  refine lv_aload_n hx hb dL_law_454 rfl (lv_at hl 1 rfl) ?_
  refine lv_aload_n hx hb dL_law_455 rfl (lv_at hl 3 rfl) ?_
  refine lv_iload_n hx hb dL_law_456 rfl (lv_at hl 0 rfl) ?_
  refine lv_iconst (v := nI 1) hx hb dL_law_457 (by decide) ?_
  refine n_iadd hx hb dL_law_458 ?_
  refine n_sld hx hb hXs hbl hS (k := (6 * j) + 1) (by omega) hL dL_law_459 ?_
  refine lv_aload_n hx hb dL_law_460 rfl (lv_at hl 3 rfl) ?_
  refine lv_iload_n hx hb dL_law_461 rfl (lv_at hl 0 rfl) ?_
  refine lv_iconst (v := nI 2) hx hb dL_law_462 (by decide) ?_
  refine n_iadd hx hb dL_law_463 ?_
  refine n_sld hx hb hXs hbl hS (k := (6 * j) + 2) (by omega) hL dL_law_464 ?_
  have hwm := hw
  have hwm : wdH D s.heap.size (List.flatten [mw ka hm am N C f g, fvb h A b nb sb v (N 0 4), shb ka (A 0) N ra, rdb ka (A 1) (d 0) rk du kd nv kf nf mf, vlw ka d np nt ng wf2 df2 tf2, rdw ka b N, ngb ka nb cn tq bq eq, trb (A 2) (C 4 60), sdw ka sb mr Mf Gf, vlw ka v (N 0 0) (N 0 1) (N 0 2) wf df tf, rows ka ra ca N C, tkw ta N (N 0 1)]) H := wdH.fr 11 rfl hwm
  refine vp_callSi (ro_runV (c_X11_holds l D ka hm am N C f g (List.flatten [fvb h A b nb sb v (N 0 4), shb ka (A 0) N ra, rdb ka (A 1) (d 0) rk du kd nv kf nf mf, vlw ka d np nt ng wf2 df2 tf2, rdw ka b N, ngb ka nb cn tq bq eq, trb (A 2) (C 4 60), sdw ka sb mr Mf Gf, vlw ka v (N 0 0) (N 0 1) (N 0 2) wf df tf, rows ka ra ca N C, tkw ta N (N 0 1)]) (xs ((6 * j) + 1)) (xs ((6 * j) + 2)) _ _ rfl rfl hN.1) X wd_872 wd_869 wd_870 wd_871 wd_8 on_X11_holds ⟨Nat.le_of_ble_eq_true rfl, Nat.le_of_ble_eq_true rfl⟩ (va_recv hK hwm.2.1 (ci := 11) (q0 := 0) rfl rfl) hwm.2.1 hl.1 rfl (Nat.le_of_ble_eq_true rfl) ⟨(by show ce ≤ 600000; omega), (by show sl ≤ 7302250; omega)⟩ dL_law_465) (fun r_2 hr_2 => ?_)
  subst hr_2
  refine lv_icmp_eq (tgt := 1234) hx hb dL_law_468 (by decide) (fun _ => ?_) (fun hne => absurd rfl hne)
  refine W.widen (k := ce + 60) (n := sl + 180) (by omega) (by omega) ?_
  exact kk _ _ H locs ls hN ⟨A, b, nb, sb, mr, v, d, rk, ta, ra, ca, am, cn, tq, bq, eq, kf, nf, mf, Mf, Gf, du, kd, nv, np, nt, ng, wf, df, wf2, df2, tf, tf2, f, g, hV, hMf, hGf, hw⟩ hS hl
set_option maxRecDepth 100000 in
set_option maxHeartbeats 4000000 in
theorem law_best {p : Program} {l : Launch} {e : Env} {s : State} {m : MethodId} {below : List Frame} {meth : Method} {c : Code} {D : va_G} {ka : Nat → ClassId} {sc L : Nat} {xs : Nat → Int32} {Q : State → Prop} (X : Cx p s m #[Value.ref sc] c cL_law 4 RL D ka) (hXs : va_X sc L xs s s.heap) (hbl : sc < s.heap.size) (hL : L ≤ 384) {z : Nat} (hz : z = s.heap.size) {N : NN} {C : CC} (hN : OK N) {h hm j : Nat} (hj : 6 * j + 6 ≤ L) {H : Heap} {locs : List Loc} {ce sl : Nat} (hce : ce ≤ 100000) (hsl : sl ≤ 100000) (hI : INV D z ka h hm N C H) (hS : va_S (fun q => s.heap.size ≤ q) s.heap H locs) {ls : Array Slot} (hl : lv_has ls 4 [(3, .int (nI (6 * j))), (2, .ref hm), (1, .ref h), (0, .ref sc)])
    (kk : ∀ (N9 : NN) (C9 : CC) (H9 : Heap) (locs9 : List Loc) (ls9 : Array Slot), OK N9 → INV D z ka h hm N9 C9 H9 → va_S (fun q => s.heap.size ≤ q) s.heap H9 locs9 → lv_has ls9 4 [(3, .int (nI (6 * j))), (2, .ref hm), (1, .ref h), (0, .ref sc)] → W p l e room_1 s m #[Value.ref sc] below meth c H9 locs9 (ce + 60) (sl + 180) Q (F0 m 1234 ls9 [])) : W p l e room_1 s m #[Value.ref sc] below meth c H locs ce sl Q (F0 m 473 ls []) := by
  subst hz
  obtain ⟨hx, hb, hml, hown, hts, hE⟩ := id X
  have hK := hE.1
  obtain ⟨A, b, nb, sb, mr, v, d, rk, ta, ra, ca, am, cn, tq, bq, eq, kf, nf, mf, Mf, Gf, du, kd, nv, np, nt, ng, wf, df, wf2, df2, tf, tf2, f, g, hV, hMf, hGf, hw⟩ := hI
  refine lv_aload_n hx hb dL_law_473 rfl (lv_at hl 2 rfl) ?_
  refine lv_aload_n hx hb dL_law_474 rfl (lv_at hl 3 rfl) ?_
  refine lv_iload_n hx hb dL_law_475 rfl (lv_at hl 0 rfl) ?_
  refine lv_iconst (v := nI 1) hx hb dL_law_476 (by decide) ?_
  refine n_iadd hx hb dL_law_477 ?_
  refine n_sld hx hb hXs hbl hS (k := (6 * j) + 1) (by omega) hL dL_law_478 ?_
  refine lv_aload_n hx hb dL_law_479 rfl (lv_at hl 3 rfl) ?_
  refine lv_iload_n hx hb dL_law_480 rfl (lv_at hl 0 rfl) ?_
  refine lv_iconst (v := nI 2) hx hb dL_law_481 (by decide) ?_
  refine n_iadd hx hb dL_law_482 ?_
  refine n_sld hx hb hXs hbl hS (k := (6 * j) + 2) (by omega) hL dL_law_483 ?_
  have hwf := hw
  have hwf : wdH D s.heap.size (List.flatten [tkw ta N (N 0 1), fvb h A b nb sb v (N 0 4), shb ka (A 0) N ra, rdb ka (A 1) (d 0) rk du kd nv kf nf mf, vlw ka d np nt ng wf2 df2 tf2, rdw ka b N, ngb ka nb cn tq bq eq, trb (A 2) (C 4 60), sdw ka sb mr Mf Gf, vlw ka v (N 0 0) (N 0 1) (N 0 2) wf df tf, rows ka ra ca N C, mw ka hm am N C f g]) H := wdH.fr 10 rfl hwf
  have hwf : wdH D s.heap.size (List.flatten [vlw ka v (N 0 0) (N 0 1) (N 0 2) wf df tf, tkw ta N (N 0 1), fvb h A b nb sb v (N 0 4), shb ka (A 0) N ra, rdb ka (A 1) (d 0) rk du kd nv kf nf mf, vlw ka d np nt ng wf2 df2 tf2, rdw ka b N, ngb ka nb cn tq bq eq, trb (A 2) (C 4 60), sdw ka sb mr Mf Gf, rows ka ra ca N C, mw ka hm am N C f g]) H := wdH.fr 9 rfl hwf
  have hwf : wdH D s.heap.size (List.flatten [fvb h A b nb sb v (N 0 4), vlw ka v (N 0 0) (N 0 1) (N 0 2) wf df tf, tkw ta N (N 0 1), shb ka (A 0) N ra, rdb ka (A 1) (d 0) rk du kd nv kf nf mf, vlw ka d np nt ng wf2 df2 tf2, rdw ka b N, ngb ka nb cn tq bq eq, trb (A 2) (C 4 60), sdw ka sb mr Mf Gf, rows ka ra ca N C, mw ka hm am N C f g]) H := wdH.fr 2 rfl hwf
  have hkw : va_P D vwCl (kw ka v ta N wf df tf) H := kw_of (w := fvb h A b nb sb v (N 0 4)) (R := List.flatten [shb ka (A 0) N ra, rdb ka (A 1) (d 0) rk du kd nv kf nf mf, vlw ka d np nt ng wf2 df2 tf2, rdw ka b N, ngb ka nb cn tq bq eq, trb (A 2) (C 4 60), sdw ka sb mr Mf Gf, rows ka ra ca N C, mw ka hm am N C f g]) hwf.2.1
  refine vp_callSi (ro_runV (c_X10_best l D ka h A b nb sb v ta N wf df tf hV hN.1 hN.2 (xs ((6 * j) + 1)) _ rfl (xs ((6 * j) + 2)) _ rfl (List.flatten [vlw ka v (N 0 0) (N 0 1) (N 0 2) wf df tf, tkw ta N (N 0 1), shb ka (A 0) N ra, rdb ka (A 1) (d 0) rk du kd nv kf nf mf, vlw ka d np nt ng wf2 df2 tf2, rdw ka b N, ngb ka nb cn tq bq eq, trb (A 2) (C 4 60), sdw ka sb mr Mf Gf, rows ka ra ca N C, mw ka hm am N C f g])) X wd_389 wd_386 wd_387 wd_388 wd_1 on_X10_best ⟨Nat.le_of_ble_eq_true rfl, Nat.le_of_ble_eq_true rfl⟩ (va_recv hK hwf.2.1 (ci := 10) (q0 := 0) rfl rfl) ⟨hwf.2.1, hkw⟩ hl.1 rfl (Nat.le_of_ble_eq_true rfl) ⟨(by show ce ≤ 600000; omega), (by show sl ≤ 7302250; omega)⟩ dL_law_484) (fun r_1 hr_1 => ?_)
  subst hr_1
  refine lv_aload_n hx hb dL_law_487 rfl (lv_at hl 1 rfl) ?_
  refine lv_aload_n hx hb dL_law_488 rfl (lv_at hl 3 rfl) ?_
  refine lv_iload_n hx hb dL_law_489 rfl (lv_at hl 0 rfl) ?_
  refine lv_iconst (v := nI 1) hx hb dL_law_490 (by decide) ?_
  refine n_iadd hx hb dL_law_491 ?_
  refine n_sld hx hb hXs hbl hS (k := (6 * j) + 1) (by omega) hL dL_law_492 ?_
  refine lv_aload_n hx hb dL_law_493 rfl (lv_at hl 3 rfl) ?_
  refine lv_iload_n hx hb dL_law_494 rfl (lv_at hl 0 rfl) ?_
  refine lv_iconst (v := nI 2) hx hb dL_law_495 (by decide) ?_
  refine n_iadd hx hb dL_law_496 ?_
  refine n_sld hx hb hXs hbl hS (k := (6 * j) + 2) (by omega) hL dL_law_497 ?_
  have hwm := hw
  have hwm : wdH D s.heap.size (List.flatten [mw ka hm am N C f g, fvb h A b nb sb v (N 0 4), shb ka (A 0) N ra, rdb ka (A 1) (d 0) rk du kd nv kf nf mf, vlw ka d np nt ng wf2 df2 tf2, rdw ka b N, ngb ka nb cn tq bq eq, trb (A 2) (C 4 60), sdw ka sb mr Mf Gf, vlw ka v (N 0 0) (N 0 1) (N 0 2) wf df tf, rows ka ra ca N C, tkw ta N (N 0 1)]) H := wdH.fr 11 rfl hwm
  refine vp_callSi (ro_runV (c_X11_best l D ka hm am N C f g (List.flatten [fvb h A b nb sb v (N 0 4), shb ka (A 0) N ra, rdb ka (A 1) (d 0) rk du kd nv kf nf mf, vlw ka d np nt ng wf2 df2 tf2, rdw ka b N, ngb ka nb cn tq bq eq, trb (A 2) (C 4 60), sdw ka sb mr Mf Gf, vlw ka v (N 0 0) (N 0 1) (N 0 2) wf df tf, rows ka ra ca N C, tkw ta N (N 0 1)]) (xs ((6 * j) + 1)) (xs ((6 * j) + 2)) _ _ rfl rfl hN.1) X wd_883 wd_880 wd_881 wd_882 wd_8 on_X11_best ⟨Nat.le_of_ble_eq_true rfl, Nat.le_of_ble_eq_true rfl⟩ (va_recv hK hwm.2.1 (ci := 11) (q0 := 0) rfl rfl) hwm.2.1 hl.1 rfl (Nat.le_of_ble_eq_true rfl) ⟨(by show ce ≤ 600000; omega), (by show sl ≤ 7302250; omega)⟩ dL_law_498) (fun r_2 hr_2 => ?_)
  subst hr_2
  refine lv_icmp_eq (tgt := 1234) hx hb dL_law_501 (by decide) (fun _ => ?_) (fun hne => absurd rfl hne)
  refine W.widen (k := ce + 60) (n := sl + 180) (by omega) (by omega) ?_
  exact kk _ _ H locs ls hN ⟨A, b, nb, sb, mr, v, d, rk, ta, ra, ca, am, cn, tq, bq, eq, kf, nf, mf, Mf, Gf, du, kd, nv, np, nt, ng, wf, df, wf2, df2, tf, tf2, f, g, hV, hMf, hGf, hw⟩ hS hl
set_option maxRecDepth 100000 in
set_option maxHeartbeats 4000000 in
theorem law_together {p : Program} {l : Launch} {e : Env} {s : State} {m : MethodId} {below : List Frame} {meth : Method} {c : Code} {D : va_G} {ka : Nat → ClassId} {sc L : Nat} {xs : Nat → Int32} {Q : State → Prop} (X : Cx p s m #[Value.ref sc] c cL_law 4 RL D ka) (hXs : va_X sc L xs s s.heap) (hbl : sc < s.heap.size) (hL : L ≤ 384) {z : Nat} (hz : z = s.heap.size) {N : NN} {C : CC} (hN : OK N) {h hm j : Nat} (hj : 6 * j + 6 ≤ L) {H : Heap} {locs : List Loc} {ce sl : Nat} (hce : ce ≤ 100000) (hsl : sl ≤ 100000) (hI : INV D z ka h hm N C H) (hS : va_S (fun q => s.heap.size ≤ q) s.heap H locs) {ls : Array Slot} (hl : lv_has ls 4 [(3, .int (nI (6 * j))), (2, .ref hm), (1, .ref h), (0, .ref sc)])
    (kk : ∀ (N9 : NN) (C9 : CC) (H9 : Heap) (locs9 : List Loc) (ls9 : Array Slot), OK N9 → INV D z ka h hm N9 C9 H9 → va_S (fun q => s.heap.size ≤ q) s.heap H9 locs9 → lv_has ls9 4 [(3, .int (nI (6 * j))), (2, .ref hm), (1, .ref h), (0, .ref sc)] → W p l e room_1 s m #[Value.ref sc] below meth c H9 locs9 (ce + 60) (sl + 180) Q (F0 m 1234 ls9 [])) : W p l e room_1 s m #[Value.ref sc] below meth c H locs ce sl Q (F0 m 506 ls []) := by
  subst hz
  obtain ⟨hx, hb, hml, hown, hts, hE⟩ := id X
  have hK := hE.1
  obtain ⟨A, b, nb, sb, mr, v, d, rk, ta, ra, ca, am, cn, tq, bq, eq, kf, nf, mf, Mf, Gf, du, kd, nv, np, nt, ng, wf, df, wf2, df2, tf, tf2, f, g, hV, hMf, hGf, hw⟩ := hI
  refine lv_aload_n hx hb dL_law_506 rfl (lv_at hl 2 rfl) ?_
  refine lv_aload_n hx hb dL_law_507 rfl (lv_at hl 3 rfl) ?_
  refine lv_iload_n hx hb dL_law_508 rfl (lv_at hl 0 rfl) ?_
  refine lv_iconst (v := nI 1) hx hb dL_law_509 (by decide) ?_
  refine n_iadd hx hb dL_law_510 ?_
  refine n_sld hx hb hXs hbl hS (k := (6 * j) + 1) (by omega) hL dL_law_511 ?_
  refine lv_aload_n hx hb dL_law_512 rfl (lv_at hl 3 rfl) ?_
  refine lv_iload_n hx hb dL_law_513 rfl (lv_at hl 0 rfl) ?_
  refine lv_iconst (v := nI 2) hx hb dL_law_514 (by decide) ?_
  refine n_iadd hx hb dL_law_515 ?_
  refine n_sld hx hb hXs hbl hS (k := (6 * j) + 2) (by omega) hL dL_law_516 ?_
  refine lv_aload_n hx hb dL_law_517 rfl (lv_at hl 3 rfl) ?_
  refine lv_iload_n hx hb dL_law_518 rfl (lv_at hl 0 rfl) ?_
  refine lv_iconst (v := nI 3) hx hb dL_law_519 (by decide) ?_
  refine n_iadd hx hb dL_law_520 ?_
  refine n_sld hx hb hXs hbl hS (k := (6 * j) + 3) (by omega) hL dL_law_521 ?_
  have hwf := hw
  have hwf : wdH D s.heap.size (List.flatten [tkw ta N (N 0 1), fvb h A b nb sb v (N 0 4), shb ka (A 0) N ra, rdb ka (A 1) (d 0) rk du kd nv kf nf mf, vlw ka d np nt ng wf2 df2 tf2, rdw ka b N, ngb ka nb cn tq bq eq, trb (A 2) (C 4 60), sdw ka sb mr Mf Gf, vlw ka v (N 0 0) (N 0 1) (N 0 2) wf df tf, rows ka ra ca N C, mw ka hm am N C f g]) H := wdH.fr 10 rfl hwf
  have hwf : wdH D s.heap.size (List.flatten [vlw ka v (N 0 0) (N 0 1) (N 0 2) wf df tf, tkw ta N (N 0 1), fvb h A b nb sb v (N 0 4), shb ka (A 0) N ra, rdb ka (A 1) (d 0) rk du kd nv kf nf mf, vlw ka d np nt ng wf2 df2 tf2, rdw ka b N, ngb ka nb cn tq bq eq, trb (A 2) (C 4 60), sdw ka sb mr Mf Gf, rows ka ra ca N C, mw ka hm am N C f g]) H := wdH.fr 9 rfl hwf
  have hwf : wdH D s.heap.size (List.flatten [fvb h A b nb sb v (N 0 4), vlw ka v (N 0 0) (N 0 1) (N 0 2) wf df tf, tkw ta N (N 0 1), shb ka (A 0) N ra, rdb ka (A 1) (d 0) rk du kd nv kf nf mf, vlw ka d np nt ng wf2 df2 tf2, rdw ka b N, ngb ka nb cn tq bq eq, trb (A 2) (C 4 60), sdw ka sb mr Mf Gf, rows ka ra ca N C, mw ka hm am N C f g]) H := wdH.fr 2 rfl hwf
  have hkw : va_P D vwCl (kw ka v ta N wf df tf) H := kw_of (w := fvb h A b nb sb v (N 0 4)) (R := List.flatten [shb ka (A 0) N ra, rdb ka (A 1) (d 0) rk du kd nv kf nf mf, vlw ka d np nt ng wf2 df2 tf2, rdw ka b N, ngb ka nb cn tq bq eq, trb (A 2) (C 4 60), sdw ka sb mr Mf Gf, rows ka ra ca N C, mw ka hm am N C f g]) hwf.2.1
  refine vp_callSi (ro_runV (c_X10_together l D ka h A b nb sb v ta N wf df tf hV hN.1 hN.2 (xs ((6 * j) + 1)) _ rfl (xs ((6 * j) + 2)) _ rfl (xs ((6 * j) + 3)) _ rfl (List.flatten [vlw ka v (N 0 0) (N 0 1) (N 0 2) wf df tf, tkw ta N (N 0 1), shb ka (A 0) N ra, rdb ka (A 1) (d 0) rk du kd nv kf nf mf, vlw ka d np nt ng wf2 df2 tf2, rdw ka b N, ngb ka nb cn tq bq eq, trb (A 2) (C 4 60), sdw ka sb mr Mf Gf, rows ka ra ca N C, mw ka hm am N C f g])) X wd_398 wd_395 wd_396 wd_397 wd_1 on_X10_together ⟨Nat.le_of_ble_eq_true rfl, Nat.le_of_ble_eq_true rfl⟩ (va_recv hK hwf.2.1 (ci := 10) (q0 := 0) rfl rfl) ⟨hwf.2.1, hkw⟩ hl.1 rfl (Nat.le_of_ble_eq_true rfl) ⟨(by show ce ≤ 600000; omega), (by show sl ≤ 7302250; omega)⟩ dL_law_522) (fun r_1 hr_1 => ?_)
  subst hr_1
  refine lv_aload_n hx hb dL_law_525 rfl (lv_at hl 1 rfl) ?_
  refine lv_aload_n hx hb dL_law_526 rfl (lv_at hl 3 rfl) ?_
  refine lv_iload_n hx hb dL_law_527 rfl (lv_at hl 0 rfl) ?_
  refine lv_iconst (v := nI 1) hx hb dL_law_528 (by decide) ?_
  refine n_iadd hx hb dL_law_529 ?_
  refine n_sld hx hb hXs hbl hS (k := (6 * j) + 1) (by omega) hL dL_law_530 ?_
  refine lv_aload_n hx hb dL_law_531 rfl (lv_at hl 3 rfl) ?_
  refine lv_iload_n hx hb dL_law_532 rfl (lv_at hl 0 rfl) ?_
  refine lv_iconst (v := nI 2) hx hb dL_law_533 (by decide) ?_
  refine n_iadd hx hb dL_law_534 ?_
  refine n_sld hx hb hXs hbl hS (k := (6 * j) + 2) (by omega) hL dL_law_535 ?_
  refine lv_aload_n hx hb dL_law_536 rfl (lv_at hl 3 rfl) ?_
  refine lv_iload_n hx hb dL_law_537 rfl (lv_at hl 0 rfl) ?_
  refine lv_iconst (v := nI 3) hx hb dL_law_538 (by decide) ?_
  refine n_iadd hx hb dL_law_539 ?_
  refine n_sld hx hb hXs hbl hS (k := (6 * j) + 3) (by omega) hL dL_law_540 ?_
  have hwm := hw
  have hwm : wdH D s.heap.size (List.flatten [mw ka hm am N C f g, fvb h A b nb sb v (N 0 4), shb ka (A 0) N ra, rdb ka (A 1) (d 0) rk du kd nv kf nf mf, vlw ka d np nt ng wf2 df2 tf2, rdw ka b N, ngb ka nb cn tq bq eq, trb (A 2) (C 4 60), sdw ka sb mr Mf Gf, vlw ka v (N 0 0) (N 0 1) (N 0 2) wf df tf, rows ka ra ca N C, tkw ta N (N 0 1)]) H := wdH.fr 11 rfl hwm
  refine vp_callSi (ro_runV (c_X11_together l D ka hm am N C f g (List.flatten [fvb h A b nb sb v (N 0 4), shb ka (A 0) N ra, rdb ka (A 1) (d 0) rk du kd nv kf nf mf, vlw ka d np nt ng wf2 df2 tf2, rdw ka b N, ngb ka nb cn tq bq eq, trb (A 2) (C 4 60), sdw ka sb mr Mf Gf, vlw ka v (N 0 0) (N 0 1) (N 0 2) wf df tf, rows ka ra ca N C, tkw ta N (N 0 1)]) (xs ((6 * j) + 1)) (xs ((6 * j) + 2)) (xs ((6 * j) + 3)) _ _ _ rfl rfl rfl hN.1) X wd_887 wd_884 wd_885 wd_886 wd_8 on_X11_together ⟨Nat.le_of_ble_eq_true rfl, Nat.le_of_ble_eq_true rfl⟩ (va_recv hK hwm.2.1 (ci := 11) (q0 := 0) rfl rfl) hwm.2.1 hl.1 rfl (Nat.le_of_ble_eq_true rfl) ⟨(by show ce ≤ 600000; omega), (by show sl ≤ 7302250; omega)⟩ dL_law_541) (fun r_2 hr_2 => ?_)
  subst hr_2
  refine lv_icmp_eq (tgt := 1234) hx hb dL_law_544 (by decide) (fun _ => ?_) (fun hne => absurd rfl hne)
  refine W.widen (k := ce + 60) (n := sl + 180) (by omega) (by omega) ?_
  exact kk _ _ H locs ls hN ⟨A, b, nb, sb, mr, v, d, rk, ta, ra, ca, am, cn, tq, bq, eq, kf, nf, mf, Mf, Gf, du, kd, nv, np, nt, ng, wf, df, wf2, df2, tf, tf2, f, g, hV, hMf, hGf, hw⟩ hS hl
set_option maxRecDepth 100000 in
set_option maxHeartbeats 4000000 in
theorem law_friend {p : Program} {l : Launch} {e : Env} {s : State} {m : MethodId} {below : List Frame} {meth : Method} {c : Code} {D : va_G} {ka : Nat → ClassId} {sc L : Nat} {xs : Nat → Int32} {Q : State → Prop} (X : Cx p s m #[Value.ref sc] c cL_law 4 RL D ka) (hXs : va_X sc L xs s s.heap) (hbl : sc < s.heap.size) (hL : L ≤ 384) {z : Nat} (hz : z = s.heap.size) {N : NN} {C : CC} (hN : OK N) {h hm j : Nat} (hj : 6 * j + 6 ≤ L) {H : Heap} {locs : List Loc} {ce sl : Nat} (hce : ce ≤ 100000) (hsl : sl ≤ 100000) (hI : INV D z ka h hm N C H) (hS : va_S (fun q => s.heap.size ≤ q) s.heap H locs) {ls : Array Slot} (hl : lv_has ls 4 [(3, .int (nI (6 * j))), (2, .ref hm), (1, .ref h), (0, .ref sc)])
    (kk : ∀ (N9 : NN) (C9 : CC) (H9 : Heap) (locs9 : List Loc) (ls9 : Array Slot), OK N9 → INV D z ka h hm N9 C9 H9 → va_S (fun q => s.heap.size ≤ q) s.heap H9 locs9 → lv_has ls9 4 [(3, .int (nI (6 * j))), (2, .ref hm), (1, .ref h), (0, .ref sc)] → W p l e room_1 s m #[Value.ref sc] below meth c H9 locs9 (ce + 60) (sl + 180) Q (F0 m 1234 ls9 [])) : W p l e room_1 s m #[Value.ref sc] below meth c H locs ce sl Q (F0 m 549 ls []) := by
  subst hz
  obtain ⟨hx, hb, hml, hown, hts, hE⟩ := id X
  have hK := hE.1
  obtain ⟨A, b, nb, sb, mr, v, d, rk, ta, ra, ca, am, cn, tq, bq, eq, kf, nf, mf, Mf, Gf, du, kd, nv, np, nt, ng, wf, df, wf2, df2, tf, tf2, f, g, hV, hMf, hGf, hw⟩ := hI
  refine lv_aload_n hx hb dL_law_549 rfl (lv_at hl 2 rfl) ?_
  refine lv_aload_n hx hb dL_law_550 rfl (lv_at hl 3 rfl) ?_
  refine lv_iload_n hx hb dL_law_551 rfl (lv_at hl 0 rfl) ?_
  refine lv_iconst (v := nI 1) hx hb dL_law_552 (by decide) ?_
  refine n_iadd hx hb dL_law_553 ?_
  refine n_sld hx hb hXs hbl hS (k := (6 * j) + 1) (by omega) hL dL_law_554 ?_
  refine lv_aload_n hx hb dL_law_555 rfl (lv_at hl 3 rfl) ?_
  refine lv_iload_n hx hb dL_law_556 rfl (lv_at hl 0 rfl) ?_
  refine lv_iconst (v := nI 2) hx hb dL_law_557 (by decide) ?_
  refine n_iadd hx hb dL_law_558 ?_
  refine n_sld hx hb hXs hbl hS (k := (6 * j) + 2) (by omega) hL dL_law_559 ?_
  have hwf := hw
  have hwf : wdH D s.heap.size (List.flatten [tkw ta N (N 0 1), fvb h A b nb sb v (N 0 4), shb ka (A 0) N ra, rdb ka (A 1) (d 0) rk du kd nv kf nf mf, vlw ka d np nt ng wf2 df2 tf2, rdw ka b N, ngb ka nb cn tq bq eq, trb (A 2) (C 4 60), sdw ka sb mr Mf Gf, vlw ka v (N 0 0) (N 0 1) (N 0 2) wf df tf, rows ka ra ca N C, mw ka hm am N C f g]) H := wdH.fr 10 rfl hwf
  have hwf : wdH D s.heap.size (List.flatten [vlw ka v (N 0 0) (N 0 1) (N 0 2) wf df tf, tkw ta N (N 0 1), fvb h A b nb sb v (N 0 4), shb ka (A 0) N ra, rdb ka (A 1) (d 0) rk du kd nv kf nf mf, vlw ka d np nt ng wf2 df2 tf2, rdw ka b N, ngb ka nb cn tq bq eq, trb (A 2) (C 4 60), sdw ka sb mr Mf Gf, rows ka ra ca N C, mw ka hm am N C f g]) H := wdH.fr 9 rfl hwf
  have hwf : wdH D s.heap.size (List.flatten [fvb h A b nb sb v (N 0 4), vlw ka v (N 0 0) (N 0 1) (N 0 2) wf df tf, tkw ta N (N 0 1), shb ka (A 0) N ra, rdb ka (A 1) (d 0) rk du kd nv kf nf mf, vlw ka d np nt ng wf2 df2 tf2, rdw ka b N, ngb ka nb cn tq bq eq, trb (A 2) (C 4 60), sdw ka sb mr Mf Gf, rows ka ra ca N C, mw ka hm am N C f g]) H := wdH.fr 2 rfl hwf
  have hkw : va_P D vwCl (kw ka v ta N wf df tf) H := kw_of (w := fvb h A b nb sb v (N 0 4)) (R := List.flatten [shb ka (A 0) N ra, rdb ka (A 1) (d 0) rk du kd nv kf nf mf, vlw ka d np nt ng wf2 df2 tf2, rdw ka b N, ngb ka nb cn tq bq eq, trb (A 2) (C 4 60), sdw ka sb mr Mf Gf, rows ka ra ca N C, mw ka hm am N C f g]) hwf.2.1
  refine vp_callSi (ro_runV (c_X10_friend l D ka h A b nb sb v ta N wf df tf hV hN.1 hN.2 (xs ((6 * j) + 1)) _ rfl (xs ((6 * j) + 2)) _ rfl (List.flatten [vlw ka v (N 0 0) (N 0 1) (N 0 2) wf df tf, tkw ta N (N 0 1), shb ka (A 0) N ra, rdb ka (A 1) (d 0) rk du kd nv kf nf mf, vlw ka d np nt ng wf2 df2 tf2, rdw ka b N, ngb ka nb cn tq bq eq, trb (A 2) (C 4 60), sdw ka sb mr Mf Gf, rows ka ra ca N C, mw ka hm am N C f g])) X wd_413 wd_410 wd_411 wd_412 wd_1 on_X10_friend ⟨Nat.le_of_ble_eq_true rfl, Nat.le_of_ble_eq_true rfl⟩ (va_recv hK hwf.2.1 (ci := 10) (q0 := 0) rfl rfl) ⟨hwf.2.1, hkw⟩ hl.1 rfl (Nat.le_of_ble_eq_true rfl) ⟨(by show ce ≤ 600000; omega), (by show sl ≤ 7302250; omega)⟩ dL_law_560) (fun r_1 hr_1 => ?_)
  subst hr_1
  refine lv_aload_n hx hb dL_law_563 rfl (lv_at hl 1 rfl) ?_
  refine lv_aload_n hx hb dL_law_564 rfl (lv_at hl 3 rfl) ?_
  refine lv_iload_n hx hb dL_law_565 rfl (lv_at hl 0 rfl) ?_
  refine lv_iconst (v := nI 1) hx hb dL_law_566 (by decide) ?_
  refine n_iadd hx hb dL_law_567 ?_
  refine n_sld hx hb hXs hbl hS (k := (6 * j) + 1) (by omega) hL dL_law_568 ?_
  refine lv_aload_n hx hb dL_law_569 rfl (lv_at hl 3 rfl) ?_
  refine lv_iload_n hx hb dL_law_570 rfl (lv_at hl 0 rfl) ?_
  refine lv_iconst (v := nI 2) hx hb dL_law_571 (by decide) ?_
  refine n_iadd hx hb dL_law_572 ?_
  refine n_sld hx hb hXs hbl hS (k := (6 * j) + 2) (by omega) hL dL_law_573 ?_
  have hwm := hw
  have hwm : wdH D s.heap.size (List.flatten [mw ka hm am N C f g, fvb h A b nb sb v (N 0 4), shb ka (A 0) N ra, rdb ka (A 1) (d 0) rk du kd nv kf nf mf, vlw ka d np nt ng wf2 df2 tf2, rdw ka b N, ngb ka nb cn tq bq eq, trb (A 2) (C 4 60), sdw ka sb mr Mf Gf, vlw ka v (N 0 0) (N 0 1) (N 0 2) wf df tf, rows ka ra ca N C, tkw ta N (N 0 1)]) H := wdH.fr 11 rfl hwm
  refine vp_callSi (ro_runV (c_X11_friend l D ka hm am N C f g (List.flatten [fvb h A b nb sb v (N 0 4), shb ka (A 0) N ra, rdb ka (A 1) (d 0) rk du kd nv kf nf mf, vlw ka d np nt ng wf2 df2 tf2, rdw ka b N, ngb ka nb cn tq bq eq, trb (A 2) (C 4 60), sdw ka sb mr Mf Gf, vlw ka v (N 0 0) (N 0 1) (N 0 2) wf df tf, rows ka ra ca N C, tkw ta N (N 0 1)]) (xs ((6 * j) + 1)) (xs ((6 * j) + 2)) _ _ rfl rfl hN.1) X wd_895 wd_892 wd_893 wd_894 wd_8 on_X11_friend ⟨Nat.le_of_ble_eq_true rfl, Nat.le_of_ble_eq_true rfl⟩ (va_recv hK hwm.2.1 (ci := 11) (q0 := 0) rfl rfl) hwm.2.1 hl.1 rfl (Nat.le_of_ble_eq_true rfl) ⟨(by show ce ≤ 600000; omega), (by show sl ≤ 7302250; omega)⟩ dL_law_574) (fun r_2 hr_2 => ?_)
  subst hr_2
  refine lv_icmp_eq (tgt := 1234) hx hb dL_law_577 (by decide) (fun _ => ?_) (fun hne => absurd rfl hne)
  refine W.widen (k := ce + 60) (n := sl + 180) (by omega) (by omega) ?_
  exact kk _ _ H locs ls hN ⟨A, b, nb, sb, mr, v, d, rk, ta, ra, ca, am, cn, tq, bq, eq, kf, nf, mf, Mf, Gf, du, kd, nv, np, nt, ng, wf, df, wf2, df2, tf, tf2, f, g, hV, hMf, hGf, hw⟩ hS hl
set_option maxRecDepth 100000 in
set_option maxHeartbeats 4000000 in
theorem law_night {p : Program} {l : Launch} {e : Env} {s : State} {m : MethodId} {below : List Frame} {meth : Method} {c : Code} {D : va_G} {ka : Nat → ClassId} {sc L : Nat} {xs : Nat → Int32} {Q : State → Prop} (X : Cx p s m #[Value.ref sc] c cL_law 4 RL D ka) (hXs : va_X sc L xs s s.heap) (hbl : sc < s.heap.size) (hL : L ≤ 384) {z : Nat} (hz : z = s.heap.size) {N : NN} {C : CC} (hN : OK N) {h hm j : Nat} (hj : 6 * j + 6 ≤ L) {H : Heap} {locs : List Loc} {ce sl : Nat} (hce : ce ≤ 100000) (hsl : sl ≤ 100000) (hI : INV D z ka h hm N C H) (hS : va_S (fun q => s.heap.size ≤ q) s.heap H locs) {ls : Array Slot} (hl : lv_has ls 4 [(3, .int (nI (6 * j))), (2, .ref hm), (1, .ref h), (0, .ref sc)])
    (kk : ∀ (N9 : NN) (C9 : CC) (H9 : Heap) (locs9 : List Loc) (ls9 : Array Slot), OK N9 → INV D z ka h hm N9 C9 H9 → va_S (fun q => s.heap.size ≤ q) s.heap H9 locs9 → lv_has ls9 4 [(3, .int (nI (6 * j))), (2, .ref hm), (1, .ref h), (0, .ref sc)] → W p l e room_1 s m #[Value.ref sc] below meth c H9 locs9 (ce + 60) (sl + 180) Q (F0 m 1234 ls9 [])) : W p l e room_1 s m #[Value.ref sc] below meth c H locs ce sl Q (F0 m 582 ls []) := by
  subst hz
  obtain ⟨hx, hb, hml, hown, hts, hE⟩ := id X
  have hK := hE.1
  obtain ⟨A, b, nb, sb, mr, v, d, rk, ta, ra, ca, am, cn, tq, bq, eq, kf, nf, mf, Mf, Gf, du, kd, nv, np, nt, ng, wf, df, wf2, df2, tf, tf2, f, g, hV, hMf, hGf, hw⟩ := hI
  refine lv_aload_n hx hb dL_law_582 rfl (lv_at hl 2 rfl) ?_
  refine lv_aload_n hx hb dL_law_583 rfl (lv_at hl 3 rfl) ?_
  refine lv_iload_n hx hb dL_law_584 rfl (lv_at hl 0 rfl) ?_
  refine lv_iconst (v := nI 1) hx hb dL_law_585 (by decide) ?_
  refine n_iadd hx hb dL_law_586 ?_
  refine n_sld hx hb hXs hbl hS (k := (6 * j) + 1) (by omega) hL dL_law_587 ?_
  refine lv_aload_n hx hb dL_law_588 rfl (lv_at hl 3 rfl) ?_
  refine lv_iload_n hx hb dL_law_589 rfl (lv_at hl 0 rfl) ?_
  refine lv_iconst (v := nI 2) hx hb dL_law_590 (by decide) ?_
  refine n_iadd hx hb dL_law_591 ?_
  refine n_sld hx hb hXs hbl hS (k := (6 * j) + 2) (by omega) hL dL_law_592 ?_
  refine lv_aload_n hx hb dL_law_593 rfl (lv_at hl 3 rfl) ?_
  refine lv_iload_n hx hb dL_law_594 rfl (lv_at hl 0 rfl) ?_
  refine lv_iconst (v := nI 3) hx hb dL_law_595 (by decide) ?_
  refine n_iadd hx hb dL_law_596 ?_
  refine n_sld hx hb hXs hbl hS (k := (6 * j) + 3) (by omega) hL dL_law_597 ?_
  refine lv_aload_n hx hb dL_law_598 rfl (lv_at hl 3 rfl) ?_
  refine lv_iload_n hx hb dL_law_599 rfl (lv_at hl 0 rfl) ?_
  refine lv_iconst (v := nI 4) hx hb dL_law_600 (by decide) ?_
  refine n_iadd hx hb dL_law_601 ?_
  refine n_sld hx hb hXs hbl hS (k := (6 * j) + 4) (by omega) hL dL_law_602 ?_
  refine lv_aload_n hx hb dL_law_603 rfl (lv_at hl 3 rfl) ?_
  refine lv_iload_n hx hb dL_law_604 rfl (lv_at hl 0 rfl) ?_
  refine lv_iconst (v := nI 5) hx hb dL_law_605 (by decide) ?_
  refine n_iadd hx hb dL_law_606 ?_
  refine n_sld hx hb hXs hbl hS (k := (6 * j) + 5) (by omega) hL dL_law_607 ?_
  have hw : wdH D s.heap.size (List.flatten [tkw ta N (N 0 1), fvb h A b nb sb v (N 0 4), shb ka (A 0) N ra, rdb ka (A 1) (d 0) rk du kd nv kf nf mf, vlw ka d np nt ng wf2 df2 tf2, rdw ka b N, ngb ka nb cn tq bq eq, trb (A 2) (C 4 60), sdw ka sb mr Mf Gf, vlw ka v (N 0 0) (N 0 1) (N 0 2) wf df tf, rows ka ra ca N C, mw ka hm am N C f g]) H := wdH.fr 10 rfl hw
  have hw : wdH D s.heap.size (List.flatten [vlw ka v (N 0 0) (N 0 1) (N 0 2) wf df tf, tkw ta N (N 0 1), fvb h A b nb sb v (N 0 4), shb ka (A 0) N ra, rdb ka (A 1) (d 0) rk du kd nv kf nf mf, vlw ka d np nt ng wf2 df2 tf2, rdw ka b N, ngb ka nb cn tq bq eq, trb (A 2) (C 4 60), sdw ka sb mr Mf Gf, rows ka ra ca N C, mw ka hm am N C f g]) H := wdH.fr 9 rfl hw
  have hw : wdH D s.heap.size (List.flatten [rows ka ra ca N C, vlw ka v (N 0 0) (N 0 1) (N 0 2) wf df tf, tkw ta N (N 0 1), fvb h A b nb sb v (N 0 4), shb ka (A 0) N ra, rdb ka (A 1) (d 0) rk du kd nv kf nf mf, vlw ka d np nt ng wf2 df2 tf2, rdw ka b N, ngb ka nb cn tq bq eq, trb (A 2) (C 4 60), sdw ka sb mr Mf Gf, mw ka hm am N C f g]) H := wdH.fr 10 rfl hw
  have hw : wdH D s.heap.size (List.flatten [ngb ka nb cn tq bq eq, rows ka ra ca N C, vlw ka v (N 0 0) (N 0 1) (N 0 2) wf df tf, tkw ta N (N 0 1), fvb h A b nb sb v (N 0 4), shb ka (A 0) N ra, rdb ka (A 1) (d 0) rk du kd nv kf nf mf, vlw ka d np nt ng wf2 df2 tf2, rdw ka b N, trb (A 2) (C 4 60), sdw ka sb mr Mf Gf, mw ka hm am N C f g]) H := wdH.fr 8 rfl hw
  have hw : wdH D s.heap.size (List.flatten [shb ka (A 0) N ra, ngb ka nb cn tq bq eq, rows ka ra ca N C, vlw ka v (N 0 0) (N 0 1) (N 0 2) wf df tf, tkw ta N (N 0 1), fvb h A b nb sb v (N 0 4), rdb ka (A 1) (d 0) rk du kd nv kf nf mf, vlw ka d np nt ng wf2 df2 tf2, rdw ka b N, trb (A 2) (C 4 60), sdw ka sb mr Mf Gf, mw ka hm am N C f g]) H := wdH.fr 5 rfl hw
  have hw : wdH D s.heap.size (List.flatten [fvb h A b nb sb v (N 0 4), shb ka (A 0) N ra, ngb ka nb cn tq bq eq, rows ka ra ca N C, vlw ka v (N 0 0) (N 0 1) (N 0 2) wf df tf, tkw ta N (N 0 1), rdb ka (A 1) (d 0) rk du kd nv kf nf mf, vlw ka d np nt ng wf2 df2 tf2, rdw ka b N, trb (A 2) (C 4 60), sdw ka sb mr Mf Gf, mw ka hm am N C f g]) H := wdH.fr 5 rfl hw
  have hw : wdH D s.heap.size (fvb h A b nb sb v (N 0 4) ++ (shb ka (A 0) N ra ++ (ngb ka nb cn tq bq eq ++ (rows ka ra ca N C ++ (kw ka v ta N wf df tf ++ List.flatten [rdb ka (A 1) (d 0) rk du kd nv kf nf mf, vlw ka d np nt ng wf2 df2 tf2, rdw ka b N, trb (A 2) (C 4 60), sdw ka sb mr Mf Gf, mw ka hm am N C f g]))))) H := by
    have h9 := hw
    unfold kw
    rw [List.append_assoc (vlw ka v (N 0 0) (N 0 1) (N 0 2) wf df tf)]
    exact h9
  refine mu_i (mu_runV (c_X10_night l D ka s.heap.size  h A b nb sb ra ca cn tq bq eq v ta N wf df tf hV hN.1 hN.2  (xs ((6 * j) + 1)) _ rfl (xs ((6 * j) + 2)) _ rfl (xs ((6 * j) + 3)) _ rfl (xs ((6 * j) + 4)) _ rfl (xs ((6 * j) + 5)) _ rfl C (List.flatten [rdb ka (A 1) (d 0) rk du kd nv kf nf mf, vlw ka d np nt ng wf2 df2 tf2, rdw ka b N, trb (A 2) (C 4 60), sdw ka sb mr Mf Gf, mw ka hm am N C f g])) X wd_423 wd_420 wd_421 wd_422 wd_1 on_X10_night ⟨Nat.le_of_ble_eq_true rfl, Nat.le_of_ble_eq_true rfl⟩ (va_recv hK hw.2.1 (ci := 10) (q0 := 0) rfl rfl) hw hl.1 rfl (Nat.le_of_ble_eq_true rfl) ⟨by show ce + 0 ≤ 600000; omega, by show sl + 0 ≤ 7302250; omega⟩ dL_law_608) hS (fun r_2 u_1 H locs hp_u_1 hw hS => ?_)
  obtain ⟨N1, C1, cn1, tq1, bq1, eq1, rfl, hr1⟩ := hp_u_1
  have hw := hw
  have hw : wdH D s.heap.size (List.flatten [fvb h A b nb sb v (N1 0 4), shb ka (A 0) N1 ra, ngb ka nb cn1 tq1 bq1 eq1, rows ka ra ca N1 C1, vlw ka v (N 0 0) (N 0 1) (N 0 2) wf df tf, tkw ta N (N 0 1), rdb ka (A 1) (d 0) rk du kd nv kf nf mf, vlw ka d np nt ng wf2 df2 tf2, rdw ka b N, trb (A 2) (C 4 60), sdw ka sb mr Mf Gf, mw ka hm am N C f g]) H := by
    have h9 := hw
    unfold kw at h9
    rw [List.append_assoc (vlw ka v (N 0 0) (N 0 1) (N 0 2) wf df tf)] at h9
    exact h9
  have hok1 : OK N1 := by
    have h9 : N1 = (sp_night N C (xs ((6 * j) + 1)).toInt (xs ((6 * j) + 2)).toInt (xs ((6 * j) + 3)).toInt (xs ((6 * j) + 4)).toInt (xs ((6 * j) + 5)).toInt).2.1 := congrArg (fun q => q.2.1) hr1
    rw [h9]; exact ok_night hN
  have hF := fr_night hr1
  obtain ⟨hF1, hF2, hF3⟩ := hF
  rw [← rdw_e (ka := ka) (b := b) hF2] at hw
  rw [← kp_e (ka := ka) (v := v) (wf := wf) (df := df) (tf := tf) hF1] at hw
  rw [← tk_e (ta := ta) hF1] at hw
  rw [← hF3] at hw
  have hV1 := VR_e hF1 hV
  have hw : wdH D s.heap.size (List.flatten [fvb h A b nb sb v (N1 0 4), shb ka (A 0) N1 ra, ngb ka nb cn1 tq1 bq1 eq1, rows ka ra ca N1 C1, vlw ka v (N1 0 0) (N1 0 1) (N1 0 2) wf df tf, tkw ta N1 (N1 0 1), rdb ka (A 1) (d 0) rk du kd nv kf nf mf, vlw ka d np nt ng wf2 df2 tf2, rdw ka b N1, trb (A 2) (C1 4 60), sdw ka sb mr Mf Gf, mw ka hm am N C f g]) H := hw
  have hw : wdH D s.heap.size (List.flatten [shb ka (A 0) N1 ra, ngb ka nb cn1 tq1 bq1 eq1, rows ka ra ca N1 C1, vlw ka v (N1 0 0) (N1 0 1) (N1 0 2) wf df tf, tkw ta N1 (N1 0 1), fvb h A b nb sb v (N1 0 4), rdb ka (A 1) (d 0) rk du kd nv kf nf mf, vlw ka d np nt ng wf2 df2 tf2, rdw ka b N1, trb (A 2) (C1 4 60), sdw ka sb mr Mf Gf, mw ka hm am N C f g]) H := wdH.bk 5 hw
  have hw : wdH D s.heap.size (List.flatten [ngb ka nb cn1 tq1 bq1 eq1, rows ka ra ca N1 C1, vlw ka v (N1 0 0) (N1 0 1) (N1 0 2) wf df tf, tkw ta N1 (N1 0 1), fvb h A b nb sb v (N1 0 4), shb ka (A 0) N1 ra, rdb ka (A 1) (d 0) rk du kd nv kf nf mf, vlw ka d np nt ng wf2 df2 tf2, rdw ka b N1, trb (A 2) (C1 4 60), sdw ka sb mr Mf Gf, mw ka hm am N C f g]) H := wdH.bk 5 hw
  have hw : wdH D s.heap.size (List.flatten [rows ka ra ca N1 C1, vlw ka v (N1 0 0) (N1 0 1) (N1 0 2) wf df tf, tkw ta N1 (N1 0 1), fvb h A b nb sb v (N1 0 4), shb ka (A 0) N1 ra, rdb ka (A 1) (d 0) rk du kd nv kf nf mf, vlw ka d np nt ng wf2 df2 tf2, rdw ka b N1, ngb ka nb cn1 tq1 bq1 eq1, trb (A 2) (C1 4 60), sdw ka sb mr Mf Gf, mw ka hm am N C f g]) H := wdH.bk 8 hw
  have hw : wdH D s.heap.size (List.flatten [vlw ka v (N1 0 0) (N1 0 1) (N1 0 2) wf df tf, tkw ta N1 (N1 0 1), fvb h A b nb sb v (N1 0 4), shb ka (A 0) N1 ra, rdb ka (A 1) (d 0) rk du kd nv kf nf mf, vlw ka d np nt ng wf2 df2 tf2, rdw ka b N1, ngb ka nb cn1 tq1 bq1 eq1, trb (A 2) (C1 4 60), sdw ka sb mr Mf Gf, rows ka ra ca N1 C1, mw ka hm am N C f g]) H := wdH.bk 10 hw
  have hw : wdH D s.heap.size (List.flatten [tkw ta N1 (N1 0 1), fvb h A b nb sb v (N1 0 4), shb ka (A 0) N1 ra, rdb ka (A 1) (d 0) rk du kd nv kf nf mf, vlw ka d np nt ng wf2 df2 tf2, rdw ka b N1, ngb ka nb cn1 tq1 bq1 eq1, trb (A 2) (C1 4 60), sdw ka sb mr Mf Gf, vlw ka v (N1 0 0) (N1 0 1) (N1 0 2) wf df tf, rows ka ra ca N1 C1, mw ka hm am N C f g]) H := wdH.bk 9 hw
  have hw : wdH D s.heap.size (List.flatten [fvb h A b nb sb v (N1 0 4), shb ka (A 0) N1 ra, rdb ka (A 1) (d 0) rk du kd nv kf nf mf, vlw ka d np nt ng wf2 df2 tf2, rdw ka b N1, ngb ka nb cn1 tq1 bq1 eq1, trb (A 2) (C1 4 60), sdw ka sb mr Mf Gf, vlw ka v (N1 0 0) (N1 0 1) (N1 0 2) wf df tf, rows ka ra ca N1 C1, tkw ta N1 (N1 0 1), mw ka hm am N C f g]) H := wdH.bk 10 hw
  refine lv_aload_n hx hb dL_law_611 rfl (lv_at hl 1 rfl) ?_
  refine lv_aload_n hx hb dL_law_612 rfl (lv_at hl 3 rfl) ?_
  refine lv_iload_n hx hb dL_law_613 rfl (lv_at hl 0 rfl) ?_
  refine lv_iconst (v := nI 1) hx hb dL_law_614 (by decide) ?_
  refine n_iadd hx hb dL_law_615 ?_
  refine n_sld hx hb hXs hbl hS (k := (6 * j) + 1) (by omega) hL dL_law_616 ?_
  refine lv_aload_n hx hb dL_law_617 rfl (lv_at hl 3 rfl) ?_
  refine lv_iload_n hx hb dL_law_618 rfl (lv_at hl 0 rfl) ?_
  refine lv_iconst (v := nI 2) hx hb dL_law_619 (by decide) ?_
  refine n_iadd hx hb dL_law_620 ?_
  refine n_sld hx hb hXs hbl hS (k := (6 * j) + 2) (by omega) hL dL_law_621 ?_
  refine lv_aload_n hx hb dL_law_622 rfl (lv_at hl 3 rfl) ?_
  refine lv_iload_n hx hb dL_law_623 rfl (lv_at hl 0 rfl) ?_
  refine lv_iconst (v := nI 3) hx hb dL_law_624 (by decide) ?_
  refine n_iadd hx hb dL_law_625 ?_
  refine n_sld hx hb hXs hbl hS (k := (6 * j) + 3) (by omega) hL dL_law_626 ?_
  refine lv_aload_n hx hb dL_law_627 rfl (lv_at hl 3 rfl) ?_
  refine lv_iload_n hx hb dL_law_628 rfl (lv_at hl 0 rfl) ?_
  refine lv_iconst (v := nI 4) hx hb dL_law_629 (by decide) ?_
  refine n_iadd hx hb dL_law_630 ?_
  refine n_sld hx hb hXs hbl hS (k := (6 * j) + 4) (by omega) hL dL_law_631 ?_
  refine lv_aload_n hx hb dL_law_632 rfl (lv_at hl 3 rfl) ?_
  refine lv_iload_n hx hb dL_law_633 rfl (lv_at hl 0 rfl) ?_
  refine lv_iconst (v := nI 5) hx hb dL_law_634 (by decide) ?_
  refine n_iadd hx hb dL_law_635 ?_
  refine n_sld hx hb hXs hbl hS (k := (6 * j) + 5) (by omega) hL dL_law_636 ?_
  have hw : wdH D s.heap.size (List.flatten [mw ka hm am N C f g, fvb h A b nb sb v (N1 0 4), shb ka (A 0) N1 ra, rdb ka (A 1) (d 0) rk du kd nv kf nf mf, vlw ka d np nt ng wf2 df2 tf2, rdw ka b N1, ngb ka nb cn1 tq1 bq1 eq1, trb (A 2) (C1 4 60), sdw ka sb mr Mf Gf, vlw ka v (N1 0 0) (N1 0 1) (N1 0 2) wf df tf, rows ka ra ca N1 C1, tkw ta N1 (N1 0 1)]) H := wdH.fr 11 rfl hw
  refine mu_i (mu_runV (c_X11_night l D ka s.heap.size hm am N C f g (List.flatten [fvb h A b nb sb v (N1 0 4), shb ka (A 0) N1 ra, rdb ka (A 1) (d 0) rk du kd nv kf nf mf, vlw ka d np nt ng wf2 df2 tf2, rdw ka b N1, ngb ka nb cn1 tq1 bq1 eq1, trb (A 2) (C1 4 60), sdw ka sb mr Mf Gf, vlw ka v (N1 0 0) (N1 0 1) (N1 0 2) wf df tf, rows ka ra ca N1 C1, tkw ta N1 (N1 0 1)]) (xs ((6 * j) + 1)) (xs ((6 * j) + 2)) (xs ((6 * j) + 3)) (xs ((6 * j) + 4)) (xs ((6 * j) + 5)) _ _ _ _ _ rfl rfl rfl rfl rfl hN.1) X wd_899 wd_896 wd_897 wd_898 wd_8 on_X11_night ⟨Nat.le_of_ble_eq_true rfl, Nat.le_of_ble_eq_true rfl⟩ (va_recv hK hw.2.1 (ci := 11) (q0 := 0) rfl rfl) hw hl.1 rfl (Nat.le_of_ble_eq_true rfl) ⟨by show ce + 0 ≤ 600000; omega, by show sl + 0 ≤ 7302250; omega⟩ dL_law_637) hS (fun r_4 u_3 H locs hp_u_3 hw hS => ?_)
  obtain ⟨f2, g2, N2, C2, rfl, hr2⟩ := hp_u_3
  have hw : wdH D s.heap.size (List.flatten [mw ka hm am N2 C2 f2 g2, fvb h A b nb sb v (N1 0 4), shb ka (A 0) N1 ra, rdb ka (A 1) (d 0) rk du kd nv kf nf mf, vlw ka d np nt ng wf2 df2 tf2, rdw ka b N1, ngb ka nb cn1 tq1 bq1 eq1, trb (A 2) (C1 4 60), sdw ka sb mr Mf Gf, vlw ka v (N1 0 0) (N1 0 1) (N1 0 2) wf df tf, rows ka ra ca N1 C1, tkw ta N1 (N1 0 1)]) H := hw
  have heq := hr1.trans hr2.symm
  obtain ⟨h91, h92⟩ := Prod.mk.inj heq
  obtain ⟨h93, h94⟩ := Prod.mk.inj h92
  subst h91 h93 h94
  have hw : wdH D s.heap.size (List.flatten [mw ka hm am N1 C1 f2 g2, fvb h A b nb sb v (N1 0 4), shb ka (A 0) N1 ra, rdb ka (A 1) (d 0) rk du kd nv kf nf mf, vlw ka d np nt ng wf2 df2 tf2, rdw ka b N1, ngb ka nb cn1 tq1 bq1 eq1, trb (A 2) (C1 4 60), sdw ka sb mr Mf Gf, vlw ka v (N1 0 0) (N1 0 1) (N1 0 2) wf df tf, rows ka ra ca N1 C1, tkw ta N1 (N1 0 1)]) H := hw
  have hw : wdH D s.heap.size (List.flatten [fvb h A b nb sb v (N1 0 4), shb ka (A 0) N1 ra, rdb ka (A 1) (d 0) rk du kd nv kf nf mf, vlw ka d np nt ng wf2 df2 tf2, rdw ka b N1, ngb ka nb cn1 tq1 bq1 eq1, trb (A 2) (C1 4 60), sdw ka sb mr Mf Gf, vlw ka v (N1 0 0) (N1 0 1) (N1 0 2) wf df tf, rows ka ra ca N1 C1, tkw ta N1 (N1 0 1), mw ka hm am N1 C1 f2 g2]) H := wdH.bk 11 hw
  refine lv_icmp_eq (tgt := 1234) hx hb dL_law_640 (by decide) (fun _ => ?_) (fun hne => absurd rfl hne)
  refine W.widen (k := ce + 60) (n := sl + 180) (by omega) (by omega) ?_
  exact kk _ _ H locs ls hok1 ⟨A, b, nb, sb, mr, v, d, rk, ta, ra, ca, am, cn1, tq1, bq1, eq1, kf, nf, mf, Mf, Gf, du, kd, nv, np, nt, ng, wf, df, wf2, df2, tf, tf2, f2, g2, hV1, hMf, hGf, hw⟩ hS hl
set_option maxRecDepth 100000 in
set_option maxHeartbeats 4000000 in
theorem law_gets {p : Program} {l : Launch} {e : Env} {s : State} {m : MethodId} {below : List Frame} {meth : Method} {c : Code} {D : va_G} {ka : Nat → ClassId} {sc L : Nat} {xs : Nat → Int32} {Q : State → Prop} (X : Cx p s m #[Value.ref sc] c cL_law 4 RL D ka) (hXs : va_X sc L xs s s.heap) (hbl : sc < s.heap.size) (hL : L ≤ 384) {z : Nat} (hz : z = s.heap.size) {N : NN} {C : CC} (hN : OK N) {h hm j : Nat} (hj : 6 * j + 6 ≤ L) {H : Heap} {locs : List Loc} {ce sl : Nat} (hce : ce ≤ 100000) (hsl : sl ≤ 100000) (hI : INV D z ka h hm N C H) (hS : va_S (fun q => s.heap.size ≤ q) s.heap H locs) {ls : Array Slot} (hl : lv_has ls 4 [(3, .int (nI (6 * j))), (2, .ref hm), (1, .ref h), (0, .ref sc)])
    (kk : ∀ (N9 : NN) (C9 : CC) (H9 : Heap) (locs9 : List Loc) (ls9 : Array Slot), OK N9 → INV D z ka h hm N9 C9 H9 → va_S (fun q => s.heap.size ≤ q) s.heap H9 locs9 → lv_has ls9 4 [(3, .int (nI (6 * j))), (2, .ref hm), (1, .ref h), (0, .ref sc)] → W p l e room_1 s m #[Value.ref sc] below meth c H9 locs9 (ce + 60) (sl + 180) Q (F0 m 1234 ls9 [])) : W p l e room_1 s m #[Value.ref sc] below meth c H locs ce sl Q (F0 m 645 ls []) := by
  subst hz
  obtain ⟨hx, hb, hml, hown, hts, hE⟩ := id X
  have hK := hE.1
  obtain ⟨A, b, nb, sb, mr, v, d, rk, ta, ra, ca, am, cn, tq, bq, eq, kf, nf, mf, Mf, Gf, du, kd, nv, np, nt, ng, wf, df, wf2, df2, tf, tf2, f, g, hV, hMf, hGf, hw⟩ := hI
  refine lv_aload_n hx hb dL_law_645 rfl (lv_at hl 2 rfl) ?_
  refine lv_aload_n hx hb dL_law_646 rfl (lv_at hl 3 rfl) ?_
  refine lv_iload_n hx hb dL_law_647 rfl (lv_at hl 0 rfl) ?_
  refine lv_iconst (v := nI 1) hx hb dL_law_648 (by decide) ?_
  refine n_iadd hx hb dL_law_649 ?_
  refine n_sld hx hb hXs hbl hS (k := (6 * j) + 1) (by omega) hL dL_law_650 ?_
  refine lv_aload_n hx hb dL_law_651 rfl (lv_at hl 3 rfl) ?_
  refine lv_iload_n hx hb dL_law_652 rfl (lv_at hl 0 rfl) ?_
  refine lv_iconst (v := nI 2) hx hb dL_law_653 (by decide) ?_
  refine n_iadd hx hb dL_law_654 ?_
  refine n_sld hx hb hXs hbl hS (k := (6 * j) + 2) (by omega) hL dL_law_655 ?_
  have hwf := hw
  have hwf : wdH D s.heap.size (List.flatten [tkw ta N (N 0 1), fvb h A b nb sb v (N 0 4), shb ka (A 0) N ra, rdb ka (A 1) (d 0) rk du kd nv kf nf mf, vlw ka d np nt ng wf2 df2 tf2, rdw ka b N, ngb ka nb cn tq bq eq, trb (A 2) (C 4 60), sdw ka sb mr Mf Gf, vlw ka v (N 0 0) (N 0 1) (N 0 2) wf df tf, rows ka ra ca N C, mw ka hm am N C f g]) H := wdH.fr 10 rfl hwf
  have hwf : wdH D s.heap.size (List.flatten [vlw ka v (N 0 0) (N 0 1) (N 0 2) wf df tf, tkw ta N (N 0 1), fvb h A b nb sb v (N 0 4), shb ka (A 0) N ra, rdb ka (A 1) (d 0) rk du kd nv kf nf mf, vlw ka d np nt ng wf2 df2 tf2, rdw ka b N, ngb ka nb cn tq bq eq, trb (A 2) (C 4 60), sdw ka sb mr Mf Gf, rows ka ra ca N C, mw ka hm am N C f g]) H := wdH.fr 9 rfl hwf
  have hwf : wdH D s.heap.size (List.flatten [fvb h A b nb sb v (N 0 4), vlw ka v (N 0 0) (N 0 1) (N 0 2) wf df tf, tkw ta N (N 0 1), shb ka (A 0) N ra, rdb ka (A 1) (d 0) rk du kd nv kf nf mf, vlw ka d np nt ng wf2 df2 tf2, rdw ka b N, ngb ka nb cn tq bq eq, trb (A 2) (C 4 60), sdw ka sb mr Mf Gf, rows ka ra ca N C, mw ka hm am N C f g]) H := wdH.fr 2 rfl hwf
  have hkw : va_P D vwCl (kw ka v ta N wf df tf) H := kw_of (w := fvb h A b nb sb v (N 0 4)) (R := List.flatten [shb ka (A 0) N ra, rdb ka (A 1) (d 0) rk du kd nv kf nf mf, vlw ka d np nt ng wf2 df2 tf2, rdw ka b N, ngb ka nb cn tq bq eq, trb (A 2) (C 4 60), sdw ka sb mr Mf Gf, rows ka ra ca N C, mw ka hm am N C f g]) hwf.2.1
  refine vp_callSi (ro_runV (c_X10_gets l D ka h A b nb sb v ta N wf df tf hV hN.1 hN.2 (xs ((6 * j) + 1)) _ rfl (xs ((6 * j) + 2)) _ rfl (List.flatten [vlw ka v (N 0 0) (N 0 1) (N 0 2) wf df tf, tkw ta N (N 0 1), shb ka (A 0) N ra, rdb ka (A 1) (d 0) rk du kd nv kf nf mf, vlw ka d np nt ng wf2 df2 tf2, rdw ka b N, ngb ka nb cn tq bq eq, trb (A 2) (C 4 60), sdw ka sb mr Mf Gf, rows ka ra ca N C, mw ka hm am N C f g])) X wd_474 wd_471 wd_472 wd_473 wd_1 on_X10_gets ⟨Nat.le_of_ble_eq_true rfl, Nat.le_of_ble_eq_true rfl⟩ (va_recv hK hwf.2.1 (ci := 10) (q0 := 0) rfl rfl) ⟨hwf.2.1, hkw⟩ hl.1 rfl (Nat.le_of_ble_eq_true rfl) ⟨(by show ce ≤ 600000; omega), (by show sl ≤ 7302250; omega)⟩ dL_law_656) (fun r_1 hr_1 => ?_)
  subst hr_1
  refine lv_aload_n hx hb dL_law_659 rfl (lv_at hl 1 rfl) ?_
  refine lv_aload_n hx hb dL_law_660 rfl (lv_at hl 3 rfl) ?_
  refine lv_iload_n hx hb dL_law_661 rfl (lv_at hl 0 rfl) ?_
  refine lv_iconst (v := nI 1) hx hb dL_law_662 (by decide) ?_
  refine n_iadd hx hb dL_law_663 ?_
  refine n_sld hx hb hXs hbl hS (k := (6 * j) + 1) (by omega) hL dL_law_664 ?_
  refine lv_aload_n hx hb dL_law_665 rfl (lv_at hl 3 rfl) ?_
  refine lv_iload_n hx hb dL_law_666 rfl (lv_at hl 0 rfl) ?_
  refine lv_iconst (v := nI 2) hx hb dL_law_667 (by decide) ?_
  refine n_iadd hx hb dL_law_668 ?_
  refine n_sld hx hb hXs hbl hS (k := (6 * j) + 2) (by omega) hL dL_law_669 ?_
  have hwm := hw
  have hwm : wdH D s.heap.size (List.flatten [mw ka hm am N C f g, fvb h A b nb sb v (N 0 4), shb ka (A 0) N ra, rdb ka (A 1) (d 0) rk du kd nv kf nf mf, vlw ka d np nt ng wf2 df2 tf2, rdw ka b N, ngb ka nb cn tq bq eq, trb (A 2) (C 4 60), sdw ka sb mr Mf Gf, vlw ka v (N 0 0) (N 0 1) (N 0 2) wf df tf, rows ka ra ca N C, tkw ta N (N 0 1)]) H := wdH.fr 11 rfl hwm
  refine vp_callSi (ro_runV (c_X11_gets l D ka hm am N C f g (List.flatten [fvb h A b nb sb v (N 0 4), shb ka (A 0) N ra, rdb ka (A 1) (d 0) rk du kd nv kf nf mf, vlw ka d np nt ng wf2 df2 tf2, rdw ka b N, ngb ka nb cn tq bq eq, trb (A 2) (C 4 60), sdw ka sb mr Mf Gf, vlw ka v (N 0 0) (N 0 1) (N 0 2) wf df tf, rows ka ra ca N C, tkw ta N (N 0 1)]) (xs ((6 * j) + 1)) (xs ((6 * j) + 2)) _ _ rfl rfl hN.1) X wd_911 wd_908 wd_909 wd_910 wd_8 on_X11_gets ⟨Nat.le_of_ble_eq_true rfl, Nat.le_of_ble_eq_true rfl⟩ (va_recv hK hwm.2.1 (ci := 11) (q0 := 0) rfl rfl) hwm.2.1 hl.1 rfl (Nat.le_of_ble_eq_true rfl) ⟨(by show ce ≤ 600000; omega), (by show sl ≤ 7302250; omega)⟩ dL_law_670) (fun r_2 hr_2 => ?_)
  subst hr_2
  refine lv_icmp_eq (tgt := 1234) hx hb dL_law_673 (by decide) (fun _ => ?_) (fun hne => absurd rfl hne)
  refine W.widen (k := ce + 60) (n := sl + 180) (by omega) (by omega) ?_
  exact kk _ _ H locs ls hN ⟨A, b, nb, sb, mr, v, d, rk, ta, ra, ca, am, cn, tq, bq, eq, kf, nf, mf, Mf, Gf, du, kd, nv, np, nt, ng, wf, df, wf2, df2, tf, tf2, f, g, hV, hMf, hGf, hw⟩ hS hl
set_option maxRecDepth 100000 in
set_option maxHeartbeats 4000000 in
theorem law_send {p : Program} {l : Launch} {e : Env} {s : State} {m : MethodId} {below : List Frame} {meth : Method} {c : Code} {D : va_G} {ka : Nat → ClassId} {sc L : Nat} {xs : Nat → Int32} {Q : State → Prop} (X : Cx p s m #[Value.ref sc] c cL_law 4 RL D ka) (hXs : va_X sc L xs s s.heap) (hbl : sc < s.heap.size) (hL : L ≤ 384) {z : Nat} (hz : z = s.heap.size) {N : NN} {C : CC} (hN : OK N) {h hm j : Nat} (hj : 6 * j + 6 ≤ L) {H : Heap} {locs : List Loc} {ce sl : Nat} (hce : ce ≤ 100000) (hsl : sl ≤ 100000) (hI : INV D z ka h hm N C H) (hS : va_S (fun q => s.heap.size ≤ q) s.heap H locs) {ls : Array Slot} (hl : lv_has ls 4 [(3, .int (nI (6 * j))), (2, .ref hm), (1, .ref h), (0, .ref sc)])
    (kk : ∀ (N9 : NN) (C9 : CC) (H9 : Heap) (locs9 : List Loc) (ls9 : Array Slot), OK N9 → INV D z ka h hm N9 C9 H9 → va_S (fun q => s.heap.size ≤ q) s.heap H9 locs9 → lv_has ls9 4 [(3, .int (nI (6 * j))), (2, .ref hm), (1, .ref h), (0, .ref sc)] → W p l e room_1 s m #[Value.ref sc] below meth c H9 locs9 (ce + 60) (sl + 180) Q (F0 m 1234 ls9 [])) : W p l e room_1 s m #[Value.ref sc] below meth c H locs ce sl Q (F0 m 678 ls []) := by
  subst hz
  obtain ⟨hx, hb, hml, hown, hts, hE⟩ := id X
  have hK := hE.1
  obtain ⟨A, b, nb, sb, mr, v, d, rk, ta, ra, ca, am, cn, tq, bq, eq, kf, nf, mf, Mf, Gf, du, kd, nv, np, nt, ng, wf, df, wf2, df2, tf, tf2, f, g, hV, hMf, hGf, hw⟩ := hI
  refine lv_aload_n hx hb dL_law_678 rfl (lv_at hl 2 rfl) ?_
  refine lv_aload_n hx hb dL_law_679 rfl (lv_at hl 3 rfl) ?_
  refine lv_iload_n hx hb dL_law_680 rfl (lv_at hl 0 rfl) ?_
  refine lv_iconst (v := nI 1) hx hb dL_law_681 (by decide) ?_
  refine n_iadd hx hb dL_law_682 ?_
  refine n_sld hx hb hXs hbl hS (k := (6 * j) + 1) (by omega) hL dL_law_683 ?_
  refine lv_aload_n hx hb dL_law_684 rfl (lv_at hl 3 rfl) ?_
  refine lv_iload_n hx hb dL_law_685 rfl (lv_at hl 0 rfl) ?_
  refine lv_iconst (v := nI 2) hx hb dL_law_686 (by decide) ?_
  refine n_iadd hx hb dL_law_687 ?_
  refine n_sld hx hb hXs hbl hS (k := (6 * j) + 2) (by omega) hL dL_law_688 ?_
  have hw : wdH D s.heap.size (List.flatten [fvb h A b nb sb v (N 0 4), shb ka (A 0) N ra, rdb ka (A 1) (d 0) rk du kd nv kf nf mf, vlw ka d np nt ng wf2 df2 tf2, rdw ka b N, ngb ka nb cn tq bq eq, trb (A 2) (C 4 60), sdw ka sb mr Mf Gf, vlw ka v (N 0 0) (N 0 1) (N 0 2) wf df tf, rows ka ra ca N C, tkw ta N (N 0 1), mw ka hm am N C f g]) H := wdH.fr 0 rfl hw
  have hw : wdH D s.heap.size (List.flatten [tkw ta N (N 0 1), fvb h A b nb sb v (N 0 4), shb ka (A 0) N ra, rdb ka (A 1) (d 0) rk du kd nv kf nf mf, vlw ka d np nt ng wf2 df2 tf2, rdw ka b N, ngb ka nb cn tq bq eq, trb (A 2) (C 4 60), sdw ka sb mr Mf Gf, vlw ka v (N 0 0) (N 0 1) (N 0 2) wf df tf, rows ka ra ca N C, mw ka hm am N C f g]) H := wdH.fr 10 rfl hw
  have hw : wdH D s.heap.size (List.flatten [vlw ka v (N 0 0) (N 0 1) (N 0 2) wf df tf, tkw ta N (N 0 1), fvb h A b nb sb v (N 0 4), shb ka (A 0) N ra, rdb ka (A 1) (d 0) rk du kd nv kf nf mf, vlw ka d np nt ng wf2 df2 tf2, rdw ka b N, ngb ka nb cn tq bq eq, trb (A 2) (C 4 60), sdw ka sb mr Mf Gf, rows ka ra ca N C, mw ka hm am N C f g]) H := wdH.fr 9 rfl hw
  have hw : wdH D s.heap.size (List.flatten [sdw ka sb mr Mf Gf, vlw ka v (N 0 0) (N 0 1) (N 0 2) wf df tf, tkw ta N (N 0 1), fvb h A b nb sb v (N 0 4), shb ka (A 0) N ra, rdb ka (A 1) (d 0) rk du kd nv kf nf mf, vlw ka d np nt ng wf2 df2 tf2, rdw ka b N, ngb ka nb cn tq bq eq, trb (A 2) (C 4 60), rows ka ra ca N C, mw ka hm am N C f g]) H := wdH.fr 9 rfl hw
  have hw : wdH D s.heap.size (sdw ka sb mr Mf Gf ++ (kw ka v ta N wf df tf ++ (fvb h A b nb sb v (N 0 4) ++ List.flatten [shb ka (A 0) N ra, rdb ka (A 1) (d 0) rk du kd nv kf nf mf, vlw ka d np nt ng wf2 df2 tf2, rdw ka b N, ngb ka nb cn tq bq eq, trb (A 2) (C 4 60), rows ka ra ca N C, mw ka hm am N C f g]))) H := by
    have h9 := hw
    unfold kw
    rw [List.append_assoc (vlw ka v (N 0 0) (N 0 1) (N 0 2) wf df tf)]
    exact h9
  refine mu_i (mu_runV (c_X10_send l D ka s.heap.size  h A b nb sb mr Mf Gf hMf hGf v ta N wf df tf hV hN.1 hN.2  (xs ((6 * j) + 1)) _ rfl (xs ((6 * j) + 2)) _ rfl C (List.flatten [shb ka (A 0) N ra, rdb ka (A 1) (d 0) rk du kd nv kf nf mf, vlw ka d np nt ng wf2 df2 tf2, rdw ka b N, ngb ka nb cn tq bq eq, trb (A 2) (C 4 60), rows ka ra ca N C, mw ka hm am N C f g])) X wd_482 wd_479 wd_480 wd_481 wd_1 on_X10_send ⟨Nat.le_of_ble_eq_true rfl, Nat.le_of_ble_eq_true rfl⟩ (va_recv hK hw.2.1.right.right (ci := 10) (q0 := 0) rfl rfl) hw hl.1 rfl (Nat.le_of_ble_eq_true rfl) ⟨by show ce + 0 ≤ 600000; omega, by show sl + 0 ≤ 7302250; omega⟩ dL_law_689) hS (fun r_2 u_1 H locs hp_u_1 hw hS => ?_)
  obtain ⟨Mf1, Gf1, rfl, hMf1, hGf1, hr1⟩ := hp_u_1
  have hw : wdH D s.heap.size (List.flatten [sdw ka sb mr Mf1 Gf1, vlw ka v (N 0 0) (N 0 1) (N 0 2) wf df tf, tkw ta N (N 0 1), fvb h A b nb sb v (N 0 4), shb ka (A 0) N ra, rdb ka (A 1) (d 0) rk du kd nv kf nf mf, vlw ka d np nt ng wf2 df2 tf2, rdw ka b N, ngb ka nb cn tq bq eq, trb (A 2) (C 4 60), rows ka ra ca N C, mw ka hm am N C f g]) H := by
    have h9 := hw
    unfold kw at h9
    rw [List.append_assoc (vlw ka v (N 0 0) (N 0 1) (N 0 2) wf df tf)] at h9
    exact h9
  have hw : wdH D s.heap.size (List.flatten [vlw ka v (N 0 0) (N 0 1) (N 0 2) wf df tf, tkw ta N (N 0 1), fvb h A b nb sb v (N 0 4), shb ka (A 0) N ra, rdb ka (A 1) (d 0) rk du kd nv kf nf mf, vlw ka d np nt ng wf2 df2 tf2, rdw ka b N, ngb ka nb cn tq bq eq, trb (A 2) (C 4 60), sdw ka sb mr Mf1 Gf1, rows ka ra ca N C, mw ka hm am N C f g]) H := wdH.bk 9 hw
  have hw : wdH D s.heap.size (List.flatten [tkw ta N (N 0 1), fvb h A b nb sb v (N 0 4), shb ka (A 0) N ra, rdb ka (A 1) (d 0) rk du kd nv kf nf mf, vlw ka d np nt ng wf2 df2 tf2, rdw ka b N, ngb ka nb cn tq bq eq, trb (A 2) (C 4 60), sdw ka sb mr Mf1 Gf1, vlw ka v (N 0 0) (N 0 1) (N 0 2) wf df tf, rows ka ra ca N C, mw ka hm am N C f g]) H := wdH.bk 9 hw
  have hw : wdH D s.heap.size (List.flatten [fvb h A b nb sb v (N 0 4), shb ka (A 0) N ra, rdb ka (A 1) (d 0) rk du kd nv kf nf mf, vlw ka d np nt ng wf2 df2 tf2, rdw ka b N, ngb ka nb cn tq bq eq, trb (A 2) (C 4 60), sdw ka sb mr Mf1 Gf1, vlw ka v (N 0 0) (N 0 1) (N 0 2) wf df tf, rows ka ra ca N C, tkw ta N (N 0 1), mw ka hm am N C f g]) H := wdH.bk 10 hw
  have hw : wdH D s.heap.size (List.flatten [fvb h A b nb sb v (N 0 4), shb ka (A 0) N ra, rdb ka (A 1) (d 0) rk du kd nv kf nf mf, vlw ka d np nt ng wf2 df2 tf2, rdw ka b N, ngb ka nb cn tq bq eq, trb (A 2) (C 4 60), sdw ka sb mr Mf1 Gf1, vlw ka v (N 0 0) (N 0 1) (N 0 2) wf df tf, rows ka ra ca N C, tkw ta N (N 0 1), mw ka hm am N C f g]) H := wdH.bk 0 hw
  have hok1 : OK N := hN
  refine lv_aload_n hx hb dL_law_692 rfl (lv_at hl 1 rfl) ?_
  refine lv_aload_n hx hb dL_law_693 rfl (lv_at hl 3 rfl) ?_
  refine lv_iload_n hx hb dL_law_694 rfl (lv_at hl 0 rfl) ?_
  refine lv_iconst (v := nI 1) hx hb dL_law_695 (by decide) ?_
  refine n_iadd hx hb dL_law_696 ?_
  refine n_sld hx hb hXs hbl hS (k := (6 * j) + 1) (by omega) hL dL_law_697 ?_
  refine lv_aload_n hx hb dL_law_698 rfl (lv_at hl 3 rfl) ?_
  refine lv_iload_n hx hb dL_law_699 rfl (lv_at hl 0 rfl) ?_
  refine lv_iconst (v := nI 2) hx hb dL_law_700 (by decide) ?_
  refine n_iadd hx hb dL_law_701 ?_
  refine n_sld hx hb hXs hbl hS (k := (6 * j) + 2) (by omega) hL dL_law_702 ?_
  have hw : wdH D s.heap.size (List.flatten [mw ka hm am N C f g, fvb h A b nb sb v (N 0 4), shb ka (A 0) N ra, rdb ka (A 1) (d 0) rk du kd nv kf nf mf, vlw ka d np nt ng wf2 df2 tf2, rdw ka b N, ngb ka nb cn tq bq eq, trb (A 2) (C 4 60), sdw ka sb mr Mf1 Gf1, vlw ka v (N 0 0) (N 0 1) (N 0 2) wf df tf, rows ka ra ca N C, tkw ta N (N 0 1)]) H := wdH.fr 11 rfl hw
  refine mu_i (mu_runV (c_X11_send l D ka s.heap.size hm am N C f g (List.flatten [fvb h A b nb sb v (N 0 4), shb ka (A 0) N ra, rdb ka (A 1) (d 0) rk du kd nv kf nf mf, vlw ka d np nt ng wf2 df2 tf2, rdw ka b N, ngb ka nb cn tq bq eq, trb (A 2) (C 4 60), sdw ka sb mr Mf1 Gf1, vlw ka v (N 0 0) (N 0 1) (N 0 2) wf df tf, rows ka ra ca N C, tkw ta N (N 0 1)]) (xs ((6 * j) + 1)) (xs ((6 * j) + 2)) _ _ rfl rfl hN.1) X wd_919 wd_916 wd_917 wd_918 wd_8 on_X11_send ⟨Nat.le_of_ble_eq_true rfl, Nat.le_of_ble_eq_true rfl⟩ (va_recv hK hw.2.1 (ci := 11) (q0 := 0) rfl rfl) hw hl.1 rfl (Nat.le_of_ble_eq_true rfl) ⟨by show ce + 0 ≤ 600000; omega, by show sl + 0 ≤ 7302250; omega⟩ dL_law_703) hS (fun r_4 u_3 H locs hp_u_3 hw hS => ?_)
  obtain ⟨f2, g2, N2, C2, rfl, hr2⟩ := hp_u_3
  have hw : wdH D s.heap.size (List.flatten [mw ka hm am N2 C2 f2 g2, fvb h A b nb sb v (N 0 4), shb ka (A 0) N ra, rdb ka (A 1) (d 0) rk du kd nv kf nf mf, vlw ka d np nt ng wf2 df2 tf2, rdw ka b N, ngb ka nb cn tq bq eq, trb (A 2) (C 4 60), sdw ka sb mr Mf1 Gf1, vlw ka v (N 0 0) (N 0 1) (N 0 2) wf df tf, rows ka ra ca N C, tkw ta N (N 0 1)]) H := hw
  have heq := hr1.trans hr2.symm
  obtain ⟨h91, h92⟩ := Prod.mk.inj heq
  obtain ⟨h93, h94⟩ := Prod.mk.inj h92
  subst h91 h93 h94
  have hw : wdH D s.heap.size (List.flatten [mw ka hm am N C f2 g2, fvb h A b nb sb v (N 0 4), shb ka (A 0) N ra, rdb ka (A 1) (d 0) rk du kd nv kf nf mf, vlw ka d np nt ng wf2 df2 tf2, rdw ka b N, ngb ka nb cn tq bq eq, trb (A 2) (C 4 60), sdw ka sb mr Mf1 Gf1, vlw ka v (N 0 0) (N 0 1) (N 0 2) wf df tf, rows ka ra ca N C, tkw ta N (N 0 1)]) H := hw
  have hw : wdH D s.heap.size (List.flatten [fvb h A b nb sb v (N 0 4), shb ka (A 0) N ra, rdb ka (A 1) (d 0) rk du kd nv kf nf mf, vlw ka d np nt ng wf2 df2 tf2, rdw ka b N, ngb ka nb cn tq bq eq, trb (A 2) (C 4 60), sdw ka sb mr Mf1 Gf1, vlw ka v (N 0 0) (N 0 1) (N 0 2) wf df tf, rows ka ra ca N C, tkw ta N (N 0 1), mw ka hm am N C f2 g2]) H := wdH.bk 11 hw
  refine lv_icmp_eq (tgt := 1234) hx hb dL_law_706 (by decide) (fun _ => ?_) (fun hne => absurd rfl hne)
  refine W.widen (k := ce + 60) (n := sl + 180) (by omega) (by omega) ?_
  exact kk _ _ H locs ls hok1 ⟨A, b, nb, sb, mr, v, d, rk, ta, ra, ca, am, cn, tq, bq, eq, kf, nf, mf, Mf1, Gf1, du, kd, nv, np, nt, ng, wf, df, wf2, df2, tf, tf2, f2, g2, hV, hMf1, hGf1, hw⟩ hS hl
set_option maxRecDepth 100000 in
set_option maxHeartbeats 4000000 in
theorem law_reading {p : Program} {l : Launch} {e : Env} {s : State} {m : MethodId} {below : List Frame} {meth : Method} {c : Code} {D : va_G} {ka : Nat → ClassId} {sc L : Nat} {xs : Nat → Int32} {Q : State → Prop} (X : Cx p s m #[Value.ref sc] c cL_law 4 RL D ka) (hXs : va_X sc L xs s s.heap) (hbl : sc < s.heap.size) (hL : L ≤ 384) {z : Nat} (hz : z = s.heap.size) {N : NN} {C : CC} (hN : OK N) {h hm j : Nat} (hj : 6 * j + 6 ≤ L) {H : Heap} {locs : List Loc} {ce sl : Nat} (hce : ce ≤ 100000) (hsl : sl ≤ 100000) (hI : INV D z ka h hm N C H) (hS : va_S (fun q => s.heap.size ≤ q) s.heap H locs) {ls : Array Slot} (hl : lv_has ls 4 [(3, .int (nI (6 * j))), (2, .ref hm), (1, .ref h), (0, .ref sc)])
    (kk : ∀ (N9 : NN) (C9 : CC) (H9 : Heap) (locs9 : List Loc) (ls9 : Array Slot), OK N9 → INV D z ka h hm N9 C9 H9 → va_S (fun q => s.heap.size ≤ q) s.heap H9 locs9 → lv_has ls9 4 [(3, .int (nI (6 * j))), (2, .ref hm), (1, .ref h), (0, .ref sc)] → W p l e room_1 s m #[Value.ref sc] below meth c H9 locs9 (ce + 60) (sl + 180) Q (F0 m 1234 ls9 [])) : W p l e room_1 s m #[Value.ref sc] below meth c H locs ce sl Q (F0 m 711 ls []) := by
  subst hz
  obtain ⟨hx, hb, hml, hown, hts, hE⟩ := id X
  have hK := hE.1
  obtain ⟨A, b, nb, sb, mr, v, d, rk, ta, ra, ca, am, cn, tq, bq, eq, kf, nf, mf, Mf, Gf, du, kd, nv, np, nt, ng, wf, df, wf2, df2, tf, tf2, f, g, hV, hMf, hGf, hw⟩ := hI
  refine lv_aload_n hx hb dL_law_711 rfl (lv_at hl 2 rfl) ?_
  refine lv_aload_n hx hb dL_law_712 rfl (lv_at hl 3 rfl) ?_
  refine lv_iload_n hx hb dL_law_713 rfl (lv_at hl 0 rfl) ?_
  refine lv_iconst (v := nI 1) hx hb dL_law_714 (by decide) ?_
  refine n_iadd hx hb dL_law_715 ?_
  refine n_sld hx hb hXs hbl hS (k := (6 * j) + 1) (by omega) hL dL_law_716 ?_
  refine lv_aload_n hx hb dL_law_717 rfl (lv_at hl 3 rfl) ?_
  refine lv_iload_n hx hb dL_law_718 rfl (lv_at hl 0 rfl) ?_
  refine lv_iconst (v := nI 2) hx hb dL_law_719 (by decide) ?_
  refine n_iadd hx hb dL_law_720 ?_
  refine n_sld hx hb hXs hbl hS (k := (6 * j) + 2) (by omega) hL dL_law_721 ?_
  refine lv_aload_n hx hb dL_law_722 rfl (lv_at hl 3 rfl) ?_
  refine lv_iload_n hx hb dL_law_723 rfl (lv_at hl 0 rfl) ?_
  refine lv_iconst (v := nI 3) hx hb dL_law_724 (by decide) ?_
  refine n_iadd hx hb dL_law_725 ?_
  refine n_sld hx hb hXs hbl hS (k := (6 * j) + 3) (by omega) hL dL_law_726 ?_
  have hw : wdH D s.heap.size (List.flatten [tkw ta N (N 0 1), fvb h A b nb sb v (N 0 4), shb ka (A 0) N ra, rdb ka (A 1) (d 0) rk du kd nv kf nf mf, vlw ka d np nt ng wf2 df2 tf2, rdw ka b N, ngb ka nb cn tq bq eq, trb (A 2) (C 4 60), sdw ka sb mr Mf Gf, vlw ka v (N 0 0) (N 0 1) (N 0 2) wf df tf, rows ka ra ca N C, mw ka hm am N C f g]) H := wdH.fr 10 rfl hw
  have hw : wdH D s.heap.size (List.flatten [vlw ka v (N 0 0) (N 0 1) (N 0 2) wf df tf, tkw ta N (N 0 1), fvb h A b nb sb v (N 0 4), shb ka (A 0) N ra, rdb ka (A 1) (d 0) rk du kd nv kf nf mf, vlw ka d np nt ng wf2 df2 tf2, rdw ka b N, ngb ka nb cn tq bq eq, trb (A 2) (C 4 60), sdw ka sb mr Mf Gf, rows ka ra ca N C, mw ka hm am N C f g]) H := wdH.fr 9 rfl hw
  have hw : wdH D s.heap.size (List.flatten [rdw ka b N, vlw ka v (N 0 0) (N 0 1) (N 0 2) wf df tf, tkw ta N (N 0 1), fvb h A b nb sb v (N 0 4), shb ka (A 0) N ra, rdb ka (A 1) (d 0) rk du kd nv kf nf mf, vlw ka d np nt ng wf2 df2 tf2, ngb ka nb cn tq bq eq, trb (A 2) (C 4 60), sdw ka sb mr Mf Gf, rows ka ra ca N C, mw ka hm am N C f g]) H := wdH.fr 6 rfl hw
  have hw : wdH D s.heap.size (List.flatten [fvb h A b nb sb v (N 0 4), rdw ka b N, vlw ka v (N 0 0) (N 0 1) (N 0 2) wf df tf, tkw ta N (N 0 1), shb ka (A 0) N ra, rdb ka (A 1) (d 0) rk du kd nv kf nf mf, vlw ka d np nt ng wf2 df2 tf2, ngb ka nb cn tq bq eq, trb (A 2) (C 4 60), sdw ka sb mr Mf Gf, rows ka ra ca N C, mw ka hm am N C f g]) H := wdH.fr 3 rfl hw
  refine mu_i (mu_runV (c_X10_reading l D ka s.heap.size  h A b nb sb v ta N wf df tf hV hN.1 hN.2  (xs ((6 * j) + 1)) _ rfl (xs ((6 * j) + 2)) _ rfl (xs ((6 * j) + 3)) _ rfl C (List.flatten [shb ka (A 0) N ra, rdb ka (A 1) (d 0) rk du kd nv kf nf mf, vlw ka d np nt ng wf2 df2 tf2, ngb ka nb cn tq bq eq, trb (A 2) (C 4 60), sdw ka sb mr Mf Gf, rows ka ra ca N C, mw ka hm am N C f g])) X wd_517 wd_514 wd_515 wd_516 wd_1 on_X10_reading ⟨Nat.le_of_ble_eq_true rfl, Nat.le_of_ble_eq_true rfl⟩ (va_recv hK hw.2.1 (ci := 10) (q0 := 0) rfl rfl) hw hl.1 rfl (Nat.le_of_ble_eq_true rfl) ⟨by show ce + 0 ≤ 600000; omega, by show sl + 0 ≤ 7302250; omega⟩ dL_law_727) hS (fun r_2 u_1 H locs hp_u_1 hw hS => ?_)
  obtain ⟨N1, C1, rfl, hV1, hr1⟩ := hp_u_1
  have hw : wdH D s.heap.size (List.flatten [fvb h A b nb sb v (N1 0 4), rdw ka b N1, vlw ka v (N1 0 0) (N1 0 1) (N1 0 2) wf df tf, tkw ta N1 (N1 0 1), shb ka (A 0) N ra, rdb ka (A 1) (d 0) rk du kd nv kf nf mf, vlw ka d np nt ng wf2 df2 tf2, ngb ka nb cn tq bq eq, trb (A 2) (C 4 60), sdw ka sb mr Mf Gf, rows ka ra ca N C, mw ka hm am N C f g]) H := hw
  have hok1 : OK N1 := by
    have h9 : N1 = (sp_reading N C (xs ((6 * j) + 1)).toInt (xs ((6 * j) + 2)).toInt (xs ((6 * j) + 3)).toInt).2.1 := congrArg (fun q => q.2.1) hr1
    rw [h9]; exact ok_reading hN
  have hF := fr_reading hr1
  obtain ⟨hF1, rfl⟩ := hF
  rw [← shb_e (ka := ka) (a := A 0) (ra := ra) hF1] at hw
  rw [← rows_e (ka := ka) (ra := ra) (ca := ca) hF1 (eRF.rf _)] at hw
  have hw : wdH D s.heap.size (List.flatten [fvb h A b nb sb v (N1 0 4), rdw ka b N1, vlw ka v (N1 0 0) (N1 0 1) (N1 0 2) wf df tf, tkw ta N1 (N1 0 1), shb ka (A 0) N1 ra, rdb ka (A 1) (d 0) rk du kd nv kf nf mf, vlw ka d np nt ng wf2 df2 tf2, ngb ka nb cn tq bq eq, trb (A 2) (C1 4 60), sdw ka sb mr Mf Gf, rows ka ra ca N1 C1, mw ka hm am N C1 f g]) H := hw
  have hw : wdH D s.heap.size (List.flatten [rdw ka b N1, vlw ka v (N1 0 0) (N1 0 1) (N1 0 2) wf df tf, tkw ta N1 (N1 0 1), fvb h A b nb sb v (N1 0 4), shb ka (A 0) N1 ra, rdb ka (A 1) (d 0) rk du kd nv kf nf mf, vlw ka d np nt ng wf2 df2 tf2, ngb ka nb cn tq bq eq, trb (A 2) (C1 4 60), sdw ka sb mr Mf Gf, rows ka ra ca N1 C1, mw ka hm am N C1 f g]) H := wdH.bk 3 hw
  have hw : wdH D s.heap.size (List.flatten [vlw ka v (N1 0 0) (N1 0 1) (N1 0 2) wf df tf, tkw ta N1 (N1 0 1), fvb h A b nb sb v (N1 0 4), shb ka (A 0) N1 ra, rdb ka (A 1) (d 0) rk du kd nv kf nf mf, vlw ka d np nt ng wf2 df2 tf2, rdw ka b N1, ngb ka nb cn tq bq eq, trb (A 2) (C1 4 60), sdw ka sb mr Mf Gf, rows ka ra ca N1 C1, mw ka hm am N C1 f g]) H := wdH.bk 6 hw
  have hw : wdH D s.heap.size (List.flatten [tkw ta N1 (N1 0 1), fvb h A b nb sb v (N1 0 4), shb ka (A 0) N1 ra, rdb ka (A 1) (d 0) rk du kd nv kf nf mf, vlw ka d np nt ng wf2 df2 tf2, rdw ka b N1, ngb ka nb cn tq bq eq, trb (A 2) (C1 4 60), sdw ka sb mr Mf Gf, vlw ka v (N1 0 0) (N1 0 1) (N1 0 2) wf df tf, rows ka ra ca N1 C1, mw ka hm am N C1 f g]) H := wdH.bk 9 hw
  have hw : wdH D s.heap.size (List.flatten [fvb h A b nb sb v (N1 0 4), shb ka (A 0) N1 ra, rdb ka (A 1) (d 0) rk du kd nv kf nf mf, vlw ka d np nt ng wf2 df2 tf2, rdw ka b N1, ngb ka nb cn tq bq eq, trb (A 2) (C1 4 60), sdw ka sb mr Mf Gf, vlw ka v (N1 0 0) (N1 0 1) (N1 0 2) wf df tf, rows ka ra ca N1 C1, tkw ta N1 (N1 0 1), mw ka hm am N C1 f g]) H := wdH.bk 10 hw
  refine lv_aload_n hx hb dL_law_730 rfl (lv_at hl 1 rfl) ?_
  refine lv_aload_n hx hb dL_law_731 rfl (lv_at hl 3 rfl) ?_
  refine lv_iload_n hx hb dL_law_732 rfl (lv_at hl 0 rfl) ?_
  refine lv_iconst (v := nI 1) hx hb dL_law_733 (by decide) ?_
  refine n_iadd hx hb dL_law_734 ?_
  refine n_sld hx hb hXs hbl hS (k := (6 * j) + 1) (by omega) hL dL_law_735 ?_
  refine lv_aload_n hx hb dL_law_736 rfl (lv_at hl 3 rfl) ?_
  refine lv_iload_n hx hb dL_law_737 rfl (lv_at hl 0 rfl) ?_
  refine lv_iconst (v := nI 2) hx hb dL_law_738 (by decide) ?_
  refine n_iadd hx hb dL_law_739 ?_
  refine n_sld hx hb hXs hbl hS (k := (6 * j) + 2) (by omega) hL dL_law_740 ?_
  refine lv_aload_n hx hb dL_law_741 rfl (lv_at hl 3 rfl) ?_
  refine lv_iload_n hx hb dL_law_742 rfl (lv_at hl 0 rfl) ?_
  refine lv_iconst (v := nI 3) hx hb dL_law_743 (by decide) ?_
  refine n_iadd hx hb dL_law_744 ?_
  refine n_sld hx hb hXs hbl hS (k := (6 * j) + 3) (by omega) hL dL_law_745 ?_
  have hw : wdH D s.heap.size (List.flatten [mw ka hm am N C1 f g, fvb h A b nb sb v (N1 0 4), shb ka (A 0) N1 ra, rdb ka (A 1) (d 0) rk du kd nv kf nf mf, vlw ka d np nt ng wf2 df2 tf2, rdw ka b N1, ngb ka nb cn tq bq eq, trb (A 2) (C1 4 60), sdw ka sb mr Mf Gf, vlw ka v (N1 0 0) (N1 0 1) (N1 0 2) wf df tf, rows ka ra ca N1 C1, tkw ta N1 (N1 0 1)]) H := wdH.fr 11 rfl hw
  refine mu_i (mu_runV (c_X11_reading l D ka s.heap.size hm am N C1 f g (List.flatten [fvb h A b nb sb v (N1 0 4), shb ka (A 0) N1 ra, rdb ka (A 1) (d 0) rk du kd nv kf nf mf, vlw ka d np nt ng wf2 df2 tf2, rdw ka b N1, ngb ka nb cn tq bq eq, trb (A 2) (C1 4 60), sdw ka sb mr Mf Gf, vlw ka v (N1 0 0) (N1 0 1) (N1 0 2) wf df tf, rows ka ra ca N1 C1, tkw ta N1 (N1 0 1)]) (xs ((6 * j) + 1)) (xs ((6 * j) + 2)) (xs ((6 * j) + 3)) _ _ _ rfl rfl rfl hN.1) X wd_931 wd_928 wd_929 wd_930 wd_8 on_X11_reading ⟨Nat.le_of_ble_eq_true rfl, Nat.le_of_ble_eq_true rfl⟩ (va_recv hK hw.2.1 (ci := 11) (q0 := 0) rfl rfl) hw hl.1 rfl (Nat.le_of_ble_eq_true rfl) ⟨by show ce + 0 ≤ 600000; omega, by show sl + 0 ≤ 7302250; omega⟩ dL_law_746) hS (fun r_4 u_3 H locs hp_u_3 hw hS => ?_)
  obtain ⟨f2, g2, N2, C2, rfl, hr2⟩ := hp_u_3
  have hw : wdH D s.heap.size (List.flatten [mw ka hm am N2 C2 f2 g2, fvb h A b nb sb v (N1 0 4), shb ka (A 0) N1 ra, rdb ka (A 1) (d 0) rk du kd nv kf nf mf, vlw ka d np nt ng wf2 df2 tf2, rdw ka b N1, ngb ka nb cn tq bq eq, trb (A 2) (C1 4 60), sdw ka sb mr Mf Gf, vlw ka v (N1 0 0) (N1 0 1) (N1 0 2) wf df tf, rows ka ra ca N1 C1, tkw ta N1 (N1 0 1)]) H := hw
  have heq := hr1.trans hr2.symm
  obtain ⟨h91, h92⟩ := Prod.mk.inj heq
  obtain ⟨h93, h94⟩ := Prod.mk.inj h92
  subst h91 h93 h94
  have hw : wdH D s.heap.size (List.flatten [mw ka hm am N1 C1 f2 g2, fvb h A b nb sb v (N1 0 4), shb ka (A 0) N1 ra, rdb ka (A 1) (d 0) rk du kd nv kf nf mf, vlw ka d np nt ng wf2 df2 tf2, rdw ka b N1, ngb ka nb cn tq bq eq, trb (A 2) (C1 4 60), sdw ka sb mr Mf Gf, vlw ka v (N1 0 0) (N1 0 1) (N1 0 2) wf df tf, rows ka ra ca N1 C1, tkw ta N1 (N1 0 1)]) H := hw
  have hw : wdH D s.heap.size (List.flatten [fvb h A b nb sb v (N1 0 4), shb ka (A 0) N1 ra, rdb ka (A 1) (d 0) rk du kd nv kf nf mf, vlw ka d np nt ng wf2 df2 tf2, rdw ka b N1, ngb ka nb cn tq bq eq, trb (A 2) (C1 4 60), sdw ka sb mr Mf Gf, vlw ka v (N1 0 0) (N1 0 1) (N1 0 2) wf df tf, rows ka ra ca N1 C1, tkw ta N1 (N1 0 1), mw ka hm am N1 C1 f2 g2]) H := wdH.bk 11 hw
  refine lv_icmp_eq (tgt := 1234) hx hb dL_law_749 (by decide) (fun _ => ?_) (fun hne => absurd rfl hne)
  refine W.widen (k := ce + 60) (n := sl + 180) (by omega) (by omega) ?_
  exact kk _ _ H locs ls hok1 ⟨A, b, nb, sb, mr, v, d, rk, ta, ra, ca, am, cn, tq, bq, eq, kf, nf, mf, Mf, Gf, du, kd, nv, np, nt, ng, wf, df, wf2, df2, tf, tf2, f2, g2, hV1, hMf, hGf, hw⟩ hS hl
