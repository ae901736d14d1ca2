set_option maxRecDepth 100000 in
set_option maxHeartbeats 4000000 in
theorem law_vault {p : Program} {l : Launch} {e : Env} {s : State} {m : MethodId} {below : List Frame} {meth : Method} {c : Code} {D : va_G} {ka : Nat → ClassId} {sc L : Nat} {xs : Nat → Int32} {Q : State → Prop} (X : Cx p s m #[Value.ref sc] c cL_law 4 RL D ka) (hXs : va_X sc L xs s s.heap) (hbl : sc < s.heap.size) (hL : L ≤ 384) {z : Nat} (hz : z = s.heap.size) {N : NN} {C : CC} (hN : OK N) {h hm j : Nat} (hj : 6 * j + 6 ≤ L) {H : Heap} {locs : List Loc} {ce sl : Nat} (hce : ce ≤ 100000) (hsl : sl ≤ 100000) (hI : INV D z ka h hm N C H) (hS : va_S (fun q => s.heap.size ≤ q) s.heap H locs) {ls : Array Slot} (hl : lv_has ls 4 [(3, .int (nI (6 * j))), (2, .ref hm), (1, .ref h), (0, .ref sc)])
    (kk : ∀ (N9 : NN) (C9 : CC) (H9 : Heap) (locs9 : List Loc) (ls9 : Array Slot), OK N9 → INV D z ka h hm N9 C9 H9 → va_S (fun q => s.heap.size ≤ q) s.heap H9 locs9 → lv_has ls9 4 [(3, .int (nI (6 * j))), (2, .ref hm), (1, .ref h), (0, .ref sc)] → W p l e room_1 s m #[Value.ref sc] below meth c H9 locs9 (ce + 60) (sl + 180) Q (F0 m 1234 ls9 [])) : W p l e room_1 s m #[Value.ref sc] below meth c H locs ce sl Q (F0 m 176 ls []) := by
  subst hz
  obtain ⟨hx, hb, hml, hown, hts, hE⟩ := id X
  have hK := hE.1
  obtain ⟨A, b, nb, sb, mr, v, d, rk, ta, ra, ca, am, cn, tq, bq, eq, kf, nf, mf, Mf, Gf, du, kd, nv, np, nt, ng, wf, df, wf2, df2, tf, tf2, f, g, hV, hMf, hGf, hw⟩ := hI
  refine lv_aload_n hx hb dL_law_176 rfl (lv_at hl 2 rfl) ?_
  refine lv_aload_n hx hb dL_law_177 rfl (lv_at hl 3 rfl) ?_
  refine lv_iload_n hx hb dL_law_178 rfl (lv_at hl 0 rfl) ?_
  refine lv_iconst (v := nI 1) hx hb dL_law_179 (by decide) ?_
  refine n_iadd hx hb dL_law_180 ?_
  refine n_sld hx hb hXs hbl hS (k := (6 * j) + 1) (by omega) hL dL_law_181 ?_
  refine lv_aload_n hx hb dL_law_182 rfl (lv_at hl 3 rfl) ?_
  refine lv_iload_n hx hb dL_law_183 rfl (lv_at hl 0 rfl) ?_
  refine lv_iconst (v := nI 2) hx hb dL_law_184 (by decide) ?_
  refine n_iadd hx hb dL_law_185 ?_
  refine n_sld hx hb hXs hbl hS (k := (6 * j) + 2) (by omega) hL dL_law_186 ?_
  refine lv_aload_n hx hb dL_law_187 rfl (lv_at hl 3 rfl) ?_
  refine lv_iload_n hx hb dL_law_188 rfl (lv_at hl 0 rfl) ?_
  refine lv_iconst (v := nI 3) hx hb dL_law_189 (by decide) ?_
  refine n_iadd hx hb dL_law_190 ?_
  refine n_sld hx hb hXs hbl hS (k := (6 * j) + 3) (by omega) hL dL_law_191 ?_
  refine lv_aload_n hx hb dL_law_192 rfl (lv_at hl 3 rfl) ?_
  refine lv_iload_n hx hb dL_law_193 rfl (lv_at hl 0 rfl) ?_
  refine lv_iconst (v := nI 4) hx hb dL_law_194 (by decide) ?_
  refine n_iadd hx hb dL_law_195 ?_
  refine n_sld hx hb hXs hbl hS (k := (6 * j) + 4) (by omega) hL dL_law_196 ?_
  have hw : wdH D s.heap.size (List.flatten [tkw ta N (N 0 1), fvb h A b nb sb v (N 0 4), shb ka (A 0) N ra, rdb ka (A 1) (d 0) rk du kd nv kf nf mf, vlw ka d np nt ng wf2 df2 tf2, rdw ka b N, ngb ka nb cn tq bq eq, trb (A 2) (C 4 60), sdw ka sb mr Mf Gf, vlw ka v (N 0 0) (N 0 1) (N 0 2) wf df tf, rows ka ra ca N C, mw ka hm am N C f g]) H := wdH.fr 10 rfl hw
  have hw : wdH D s.heap.size (List.flatten [rows ka ra ca N C, tkw ta N (N 0 1), fvb h A b nb sb v (N 0 4), shb ka (A 0) N ra, rdb ka (A 1) (d 0) rk du kd nv kf nf mf, vlw ka d np nt ng wf2 df2 tf2, rdw ka b N, ngb ka nb cn tq bq eq, trb (A 2) (C 4 60), sdw ka sb mr Mf Gf, vlw ka v (N 0 0) (N 0 1) (N 0 2) wf df tf, mw ka hm am N C f g]) H := wdH.fr 10 rfl hw
  have hw : wdH D s.heap.size (List.flatten [vlw ka v (N 0 0) (N 0 1) (N 0 2) wf df tf, rows ka ra ca N C, tkw ta N (N 0 1), fvb h A b nb sb v (N 0 4), shb ka (A 0) N ra, rdb ka (A 1) (d 0) rk du kd nv kf nf mf, vlw ka d np nt ng wf2 df2 tf2, rdw ka b N, ngb ka nb cn tq bq eq, trb (A 2) (C 4 60), sdw ka sb mr Mf Gf, mw ka hm am N C f g]) H := wdH.fr 10 rfl hw
  have hw : wdH D s.heap.size (List.flatten [rdw ka b N, vlw ka v (N 0 0) (N 0 1) (N 0 2) wf df tf, rows ka ra ca N C, tkw ta N (N 0 1), fvb h A b nb sb v (N 0 4), shb ka (A 0) N ra, rdb ka (A 1) (d 0) rk du kd nv kf nf mf, vlw ka d np nt ng wf2 df2 tf2, ngb ka nb cn tq bq eq, trb (A 2) (C 4 60), sdw ka sb mr Mf Gf, mw ka hm am N C f g]) H := wdH.fr 7 rfl hw
  have hw : wdH D s.heap.size (List.flatten [vlw ka d np nt ng wf2 df2 tf2, rdw ka b N, vlw ka v (N 0 0) (N 0 1) (N 0 2) wf df tf, rows ka ra ca N C, tkw ta N (N 0 1), fvb h A b nb sb v (N 0 4), shb ka (A 0) N ra, rdb ka (A 1) (d 0) rk du kd nv kf nf mf, ngb ka nb cn tq bq eq, trb (A 2) (C 4 60), sdw ka sb mr Mf Gf, mw ka hm am N C f g]) H := wdH.fr 7 rfl hw
  have hw : wdH D s.heap.size (List.flatten [rdb ka (A 1) (d 0) rk du kd nv kf nf mf, vlw ka d np nt ng wf2 df2 tf2, rdw ka b N, vlw ka v (N 0 0) (N 0 1) (N 0 2) wf df tf, rows ka ra ca N C, tkw ta N (N 0 1), fvb h A b nb sb v (N 0 4), shb ka (A 0) N ra, ngb ka nb cn tq bq eq, trb (A 2) (C 4 60), sdw ka sb mr Mf Gf, mw ka hm am N C f g]) H := wdH.fr 7 rfl hw
  have hw : wdH D s.heap.size (List.flatten [shb ka (A 0) N ra, rdb ka (A 1) (d 0) rk du kd nv kf nf mf, vlw ka d np nt ng wf2 df2 tf2, rdw ka b N, vlw ka v (N 0 0) (N 0 1) (N 0 2) wf df tf, rows ka ra ca N C, tkw ta N (N 0 1), fvb h A b nb sb v (N 0 4), ngb ka nb cn tq bq eq, trb (A 2) (C 4 60), sdw ka sb mr Mf Gf, mw ka hm am N C f g]) H := wdH.fr 7 rfl hw
  have hw : wdH D s.heap.size (List.flatten [fvb h A b nb sb v (N 0 4), shb ka (A 0) N ra, rdb ka (A 1) (d 0) rk du kd nv kf nf mf, vlw ka d np nt ng wf2 df2 tf2, rdw ka b N, vlw ka v (N 0 0) (N 0 1) (N 0 2) wf df tf, rows ka ra ca N C, tkw ta N (N 0 1), ngb ka nb cn tq bq eq, trb (A 2) (C 4 60), sdw ka sb mr Mf Gf, mw ka hm am N C f g]) H := wdH.fr 7 rfl hw
  refine mu_i (mu_runV (c_X10_vault l D ka s.heap.size  h A b nb sb ra ca d rk np nt ng wf2 df2 tf2 du kd nv kf nf mf v ta N wf df tf hV hN.1  (xs ((6 * j) + 1)) _ rfl (xs ((6 * j) + 2)) _ rfl (xs ((6 * j) + 3)) _ rfl (xs ((6 * j) + 4)) _ rfl C (List.flatten [ngb ka nb cn tq bq eq, trb (A 2) (C 4 60), sdw ka sb mr Mf Gf, mw ka hm am N C f g])) X wd_191 wd_188 wd_189 wd_190 wd_1 on_X10_vault ⟨Nat.le_of_ble_eq_true rfl, Nat.le_of_ble_eq_true rfl⟩ (va_recv hK hw.2.1 (ci := 10) (q0 := 0) rfl rfl) hw hl.1 rfl (Nat.le_of_ble_eq_true rfl) ⟨by show ce + 5 ≤ 600000; omega, by show sl + 15 ≤ 7302250; omega⟩ dL_law_197) hS (fun r_2 u_1 H locs hp_u_1 hw hS => ?_)
  obtain ⟨N1, C1, v1, d1, ta1, np1, nt1, ng1, wf1, df1, tf1, wf21, df21, tf21, du1, kd1, nv1, kf1, nf1, mf1, rfl, hV1, hr1⟩ := hp_u_1
  have hw : wdH D s.heap.size (List.flatten [fvb h A b nb sb v1 (N1 0 4), shb ka (A 0) N1 ra, rdb ka (A 1) (d1 0) rk du1 kd1 nv1 kf1 nf1 mf1, vlw ka d1 np1 nt1 ng1 wf21 df21 tf21, rdw ka b N1, vlw ka v1 (N1 0 0) (N1 0 1) (N1 0 2) wf1 df1 tf1, rows ka ra ca N1 C1, tkw ta1 N1 (N1 0 1), ngb ka nb cn tq bq eq, trb (A 2) (C 4 60), sdw ka sb mr Mf Gf, mw ka hm am N C f g]) H := hw
  have hok1 : OK N1 := by
    have h9 : N1 = (sp_vault N C (xs ((6 * j) + 1)).toInt (xs ((6 * j) + 2)).toInt (xs ((6 * j) + 3)).toInt (xs ((6 * j) + 4)).toInt).2.1 := congrArg (fun q => q.2.1) hr1
    rw [h9]; exact ok_vault hN
  have hF := fr_vault hr1
  obtain rfl := hF
  have hw : wdH D s.heap.size (List.flatten [fvb h A b nb sb v1 (N1 0 4), shb ka (A 0) N1 ra, rdb ka (A 1) (d1 0) rk du1 kd1 nv1 kf1 nf1 mf1, vlw ka d1 np1 nt1 ng1 wf21 df21 tf21, rdw ka b N1, vlw ka v1 (N1 0 0) (N1 0 1) (N1 0 2) wf1 df1 tf1, rows ka ra ca N1 C1, tkw ta1 N1 (N1 0 1), ngb ka nb cn tq bq eq, trb (A 2) (C1 4 60), sdw ka sb mr Mf Gf, mw ka hm am N C1 f g]) H := hw
  have hw : wdH D s.heap.size (List.flatten [shb ka (A 0) N1 ra, rdb ka (A 1) (d1 0) rk du1 kd1 nv1 kf1 nf1 mf1, vlw ka d1 np1 nt1 ng1 wf21 df21 tf21, rdw ka b N1, vlw ka v1 (N1 0 0) (N1 0 1) (N1 0 2) wf1 df1 tf1, rows ka ra ca N1 C1, tkw ta1 N1 (N1 0 1), fvb h A b nb sb v1 (N1 0 4), ngb ka nb cn tq bq eq, trb (A 2) (C1 4 60), sdw ka sb mr Mf Gf, mw ka hm am N C1 f g]) H := wdH.bk 7 hw
  have hw : wdH D s.heap.size (List.flatten [rdb ka (A 1) (d1 0) rk du1 kd1 nv1 kf1 nf1 mf1, vlw ka d1 np1 nt1 ng1 wf21 df21 tf21, rdw ka b N1, vlw ka v1 (N1 0 0) (N1 0 1) (N1 0 2) wf1 df1 tf1, rows ka ra ca N1 C1, tkw ta1 N1 (N1 0 1), fvb h A b nb sb v1 (N1 0 4), shb ka (A 0) N1 ra, ngb ka nb cn tq bq eq, trb (A 2) (C1 4 60), sdw ka sb mr Mf Gf, mw ka hm am N C1 f g]) H := wdH.bk 7 hw
  have hw : wdH D s.heap.size (List.flatten [vlw ka d1 np1 nt1 ng1 wf21 df21 tf21, rdw ka b N1, vlw ka v1 (N1 0 0) (N1 0 1) (N1 0 2) wf1 df1 tf1, rows ka ra ca N1 C1, tkw ta1 N1 (N1 0 1), fvb h A b nb sb v1 (N1 0 4), shb ka (A 0) N1 ra, rdb ka (A 1) (d1 0) rk du1 kd1 nv1 kf1 nf1 mf1, ngb ka nb cn tq bq eq, trb (A 2) (C1 4 60), sdw ka sb mr Mf Gf, mw ka hm am N C1 f g]) H := wdH.bk 7 hw
  have hw : wdH D s.heap.size (List.flatten [rdw ka b N1, vlw ka v1 (N1 0 0) (N1 0 1) (N1 0 2) wf1 df1 tf1, rows ka ra ca N1 C1, tkw ta1 N1 (N1 0 1), fvb h A b nb sb v1 (N1 0 4), shb ka (A 0) N1 ra, rdb ka (A 1) (d1 0) rk du1 kd1 nv1 kf1 nf1 mf1, vlw ka d1 np1 nt1 ng1 wf21 df21 tf21, ngb ka nb cn tq bq eq, trb (A 2) (C1 4 60), sdw ka sb mr Mf Gf, mw ka hm am N C1 f g]) H := wdH.bk 7 hw
  have hw : wdH D s.heap.size (List.flatten [vlw ka v1 (N1 0 0) (N1 0 1) (N1 0 2) wf1 df1 tf1, rows ka ra ca N1 C1, tkw ta1 N1 (N1 0 1), fvb h A b nb sb v1 (N1 0 4), shb ka (A 0) N1 ra, rdb ka (A 1) (d1 0) rk du1 kd1 nv1 kf1 nf1 mf1, vlw ka d1 np1 nt1 ng1 wf21 df21 tf21, rdw ka b N1, ngb ka nb cn tq bq eq, trb (A 2) (C1 4 60), sdw ka sb mr Mf Gf, mw ka hm am N C1 f g]) H := wdH.bk 7 hw
  have hw : wdH D s.heap.size (List.flatten [rows ka ra ca N1 C1, tkw ta1 N1 (N1 0 1), fvb h A b nb sb v1 (N1 0 4), shb ka (A 0) N1 ra, rdb ka (A 1) (d1 0) rk du1 kd1 nv1 kf1 nf1 mf1, vlw ka d1 np1 nt1 ng1 wf21 df21 tf21, rdw ka b N1, ngb ka nb cn tq bq eq, trb (A 2) (C1 4 60), sdw ka sb mr Mf Gf, vlw ka v1 (N1 0 0) (N1 0 1) (N1 0 2) wf1 df1 tf1, mw ka hm am N C1 f g]) H := wdH.bk 10 hw
  have hw : wdH D s.heap.size (List.flatten [tkw ta1 N1 (N1 0 1), fvb h A b nb sb v1 (N1 0 4), shb ka (A 0) N1 ra, rdb ka (A 1) (d1 0) rk du1 kd1 nv1 kf1 nf1 mf1, vlw ka d1 np1 nt1 ng1 wf21 df21 tf21, rdw ka b N1, ngb ka nb cn tq bq eq, trb (A 2) (C1 4 60), sdw ka sb mr Mf Gf, vlw ka v1 (N1 0 0) (N1 0 1) (N1 0 2) wf1 df1 tf1, rows ka ra ca N1 C1, mw ka hm am N C1 f g]) H := wdH.bk 10 hw
  have hw : wdH D s.heap.size (List.flatten [fvb h A b nb sb v1 (N1 0 4), shb ka (A 0) N1 ra, rdb ka (A 1) (d1 0) rk du1 kd1 nv1 kf1 nf1 mf1, vlw ka d1 np1 nt1 ng1 wf21 df21 tf21, rdw ka b N1, ngb ka nb cn tq bq eq, trb (A 2) (C1 4 60), sdw ka sb mr Mf Gf, vlw ka v1 (N1 0 0) (N1 0 1) (N1 0 2) wf1 df1 tf1, rows ka ra ca N1 C1, tkw ta1 N1 (N1 0 1), mw ka hm am N C1 f g]) H := wdH.bk 10 hw
  refine lv_aload_n hx hb dL_law_200 rfl (lv_at hl 1 rfl) ?_
  refine lv_aload_n hx hb dL_law_201 rfl (lv_at hl 3 rfl) ?_
  refine lv_iload_n hx hb dL_law_202 rfl (lv_at hl 0 rfl) ?_
  refine lv_iconst (v := nI 1) hx hb dL_law_203 (by decide) ?_
  refine n_iadd hx hb dL_law_204 ?_
  refine n_sld hx hb hXs hbl hS (k := (6 * j) + 1) (by omega) hL dL_law_205 ?_
  refine lv_aload_n hx hb dL_law_206 rfl (lv_at hl 3 rfl) ?_
  refine lv_iload_n hx hb dL_law_207 rfl (lv_at hl 0 rfl) ?_
  refine lv_iconst (v := nI 2) hx hb dL_law_208 (by decide) ?_
  refine n_iadd hx hb dL_law_209 ?_
  refine n_sld hx hb hXs hbl hS (k := (6 * j) + 2) (by omega) hL dL_law_210 ?_
  refine lv_aload_n hx hb dL_law_211 rfl (lv_at hl 3 rfl) ?_
  refine lv_iload_n hx hb dL_law_212 rfl (lv_at hl 0 rfl) ?_
  refine lv_iconst (v := nI 3) hx hb dL_law_213 (by decide) ?_
  refine n_iadd hx hb dL_law_214 ?_
  refine n_sld hx hb hXs hbl hS (k := (6 * j) + 3) (by omega) hL dL_law_215 ?_
  refine lv_aload_n hx hb dL_law_216 rfl (lv_at hl 3 rfl) ?_
  refine lv_iload_n hx hb dL_law_217 rfl (lv_at hl 0 rfl) ?_
  refine lv_iconst (v := nI 4) hx hb dL_law_218 (by decide) ?_
  refine n_iadd hx hb dL_law_219 ?_
  refine n_sld hx hb hXs hbl hS (k := (6 * j) + 4) (by omega) hL dL_law_220 ?_
  have hw : wdH D s.heap.size (List.flatten [mw ka hm am N C1 f g, fvb h A b nb sb v1 (N1 0 4), shb ka (A 0) N1 ra, rdb ka (A 1) (d1 0) rk du1 kd1 nv1 kf1 nf1 mf1, vlw ka d1 np1 nt1 ng1 wf21 df21 tf21, rdw ka b N1, ngb ka nb cn tq bq eq, trb (A 2) (C1 4 60), sdw ka sb mr Mf Gf, vlw ka v1 (N1 0 0) (N1 0 1) (N1 0 2) wf1 df1 tf1, rows ka ra ca N1 C1, tkw ta1 N1 (N1 0 1)]) H := wdH.fr 11 rfl hw
  refine mu_i (mu_runV (c_X11_vault l D ka s.heap.size hm am N C1 f g (List.flatten [fvb h A b nb sb v1 (N1 0 4), shb ka (A 0) N1 ra, rdb ka (A 1) (d1 0) rk du1 kd1 nv1 kf1 nf1 mf1, vlw ka d1 np1 nt1 ng1 wf21 df21 tf21, rdw ka b N1, ngb ka nb cn tq bq eq, trb (A 2) (C1 4 60), sdw ka sb mr Mf Gf, vlw ka v1 (N1 0 0) (N1 0 1) (N1 0 2) wf1 df1 tf1, rows ka ra ca N1 C1, tkw ta1 N1 (N1 0 1)]) (xs ((6 * j) + 1)) (xs ((6 * j) + 2)) (xs ((6 * j) + 3)) (xs ((6 * j) + 4)) _ _ _ _ rfl rfl rfl rfl hN.1) X wd_783 wd_780 wd_781 wd_782 wd_8 on_X11_vault ⟨Nat.le_of_ble_eq_true rfl, Nat.le_of_ble_eq_true rfl⟩ (va_recv hK hw.2.1 (ci := 11) (q0 := 0) rfl rfl) hw hl.1 rfl (Nat.le_of_ble_eq_true rfl) ⟨by show ce + 5 + 0 ≤ 600000; omega, by show sl + 15 + 0 ≤ 7302250; omega⟩ dL_law_221) hS (fun r_4 u_3 H locs hp_u_3 hw hS => ?_)
  obtain ⟨f2, g2, N2, C2, rfl, hr2⟩ := hp_u_3
  have hw : wdH D s.heap.size (List.flatten [mw ka hm am N2 C2 f2 g2, fvb h A b nb sb v1 (N1 0 4), shb ka (A 0) N1 ra, rdb ka (A 1) (d1 0) rk du1 kd1 nv1 kf1 nf1 mf1, vlw ka d1 np1 nt1 ng1 wf21 df21 tf21, rdw ka b N1, ngb ka nb cn tq bq eq, trb (A 2) (C1 4 60), sdw ka sb mr Mf Gf, vlw ka v1 (N1 0 0) (N1 0 1) (N1 0 2) wf1 df1 tf1, rows ka ra ca N1 C1, tkw ta1 N1 (N1 0 1)]) H := hw
  have heq := hr1.trans hr2.symm
  obtain ⟨h91, h92⟩ := Prod.mk.inj heq
  obtain ⟨h93, h94⟩ := Prod.mk.inj h92
  subst h91 h93 h94
  have hw : wdH D s.heap.size (List.flatten [mw ka hm am N1 C1 f2 g2, fvb h A b nb sb v1 (N1 0 4), shb ka (A 0) N1 ra, rdb ka (A 1) (d1 0) rk du1 kd1 nv1 kf1 nf1 mf1, vlw ka d1 np1 nt1 ng1 wf21 df21 tf21, rdw ka b N1, ngb ka nb cn tq bq eq, trb (A 2) (C1 4 60), sdw ka sb mr Mf Gf, vlw ka v1 (N1 0 0) (N1 0 1) (N1 0 2) wf1 df1 tf1, rows ka ra ca N1 C1, tkw ta1 N1 (N1 0 1)]) H := hw
  have hw : wdH D s.heap.size (List.flatten [fvb h A b nb sb v1 (N1 0 4), shb ka (A 0) N1 ra, rdb ka (A 1) (d1 0) rk du1 kd1 nv1 kf1 nf1 mf1, vlw ka d1 np1 nt1 ng1 wf21 df21 tf21, rdw ka b N1, ngb ka nb cn tq bq eq, trb (A 2) (C1 4 60), sdw ka sb mr Mf Gf, vlw ka v1 (N1 0 0) (N1 0 1) (N1 0 2) wf1 df1 tf1, rows ka ra ca N1 C1, tkw ta1 N1 (N1 0 1), mw ka hm am N1 C1 f2 g2]) H := wdH.bk 11 hw
  refine lv_icmp_eq (tgt := 1234) hx hb dL_law_224 (by decide) (fun _ => ?_) (fun hne => absurd rfl hne)
  refine W.widen (k := ce + 60) (n := sl + 180) (by omega) (by omega) ?_
  exact kk _ _ H locs ls hok1 ⟨A, b, nb, sb, mr, v1, d1, rk, ta1, ra, ca, am, cn, tq, bq, eq, kf1, nf1, mf1, Mf, Gf, du1, kd1, nv1, np1, nt1, ng1, wf1, df1, wf21, df21, tf1, tf21, f2, g2, hV1, hMf, hGf, hw⟩ hS hl
set_option maxRecDepth 100000 in
set_option maxHeartbeats 4000000 in
theorem law_ofTaker {p : Program} {l : Launch} {e : Env} {s : State} {m : MethodId} {below : List Frame} {meth : Method} {c : Code} {D : va_G} {ka : Nat → ClassId} {sc L : Nat} {xs : Nat → Int32} {Q : State → Prop} (X : Cx p s m #[Value.ref sc] c cL_law 4 RL D ka) (hXs : va_X sc L xs s s.heap) (hbl : sc < s.heap.size) (hL : L ≤ 384) {z : Nat} (hz : z = s.heap.size) {N : NN} {C : CC} (hN : OK N) {h hm j : Nat} (hj : 6 * j + 6 ≤ L) {H : Heap} {locs : List Loc} {ce sl : Nat} (hce : ce ≤ 100000) (hsl : sl ≤ 100000) (hI : INV D z ka h hm N C H) (hS : va_S (fun q => s.heap.size ≤ q) s.heap H locs) {ls : Array Slot} (hl : lv_has ls 4 [(3, .int (nI (6 * j))), (2, .ref hm), (1, .ref h), (0, .ref sc)])
    (kk : ∀ (N9 : NN) (C9 : CC) (H9 : Heap) (locs9 : List Loc) (ls9 : Array Slot), OK N9 → INV D z ka h hm N9 C9 H9 → va_S (fun q => s.heap.size ≤ q) s.heap H9 locs9 → lv_has ls9 4 [(3, .int (nI (6 * j))), (2, .ref hm), (1, .ref h), (0, .ref sc)] → W p l e room_1 s m #[Value.ref sc] below meth c H9 locs9 (ce + 60) (sl + 180) Q (F0 m 1234 ls9 [])) : W p l e room_1 s m #[Value.ref sc] below meth c H locs ce sl Q (F0 m 229 ls []) := by
  subst hz
  obtain ⟨hx, hb, hml, hown, hts, hE⟩ := id X
  have hK := hE.1
  obtain ⟨A, b, nb, sb, mr, v, d, rk, ta, ra, ca, am, cn, tq, bq, eq, kf, nf, mf, Mf, Gf, du, kd, nv, np, nt, ng, wf, df, wf2, df2, tf, tf2, f, g, hV, hMf, hGf, hw⟩ := hI
  refine lv_aload_n hx hb dL_law_229 rfl (lv_at hl 2 rfl) ?_
  refine lv_aload_n hx hb dL_law_230 rfl (lv_at hl 3 rfl) ?_
  refine lv_iload_n hx hb dL_law_231 rfl (lv_at hl 0 rfl) ?_
  refine lv_iconst (v := nI 1) hx hb dL_law_232 (by decide) ?_
  refine n_iadd hx hb dL_law_233 ?_
  refine n_sld hx hb hXs hbl hS (k := (6 * j) + 1) (by omega) hL dL_law_234 ?_
  refine lv_aload_n hx hb dL_law_235 rfl (lv_at hl 3 rfl) ?_
  refine lv_iload_n hx hb dL_law_236 rfl (lv_at hl 0 rfl) ?_
  refine lv_iconst (v := nI 2) hx hb dL_law_237 (by decide) ?_
  refine n_iadd hx hb dL_law_238 ?_
  refine n_sld hx hb hXs hbl hS (k := (6 * j) + 2) (by omega) hL dL_law_239 ?_
  have hwf := hw
  have hwf : wdH D s.heap.size (List.flatten [tkw ta N (N 0 1), fvb h A b nb sb v (N 0 4), shb ka (A 0) N ra, rdb ka (A 1) (d 0) rk du kd nv kf nf mf, vlw ka d np nt ng wf2 df2 tf2, rdw ka b N, ngb ka nb cn tq bq eq, trb (A 2) (C 4 60), sdw ka sb mr Mf Gf, vlw ka v (N 0 0) (N 0 1) (N 0 2) wf df tf, rows ka ra ca N C, mw ka hm am N C f g]) H := wdH.fr 10 rfl hwf
  have hwf : wdH D s.heap.size (List.flatten [vlw ka v (N 0 0) (N 0 1) (N 0 2) wf df tf, tkw ta N (N 0 1), fvb h A b nb sb v (N 0 4), shb ka (A 0) N ra, rdb ka (A 1) (d 0) rk du kd nv kf nf mf, vlw ka d np nt ng wf2 df2 tf2, rdw ka b N, ngb ka nb cn tq bq eq, trb (A 2) (C 4 60), sdw ka sb mr Mf Gf, rows ka ra ca N C, mw ka hm am N C f g]) H := wdH.fr 9 rfl hwf
  have hwf : wdH D s.heap.size (List.flatten [fvb h A b nb sb v (N 0 4), vlw ka v (N 0 0) (N 0 1) (N 0 2) wf df tf, tkw ta N (N 0 1), shb ka (A 0) N ra, rdb ka (A 1) (d 0) rk du kd nv kf nf mf, vlw ka d np nt ng wf2 df2 tf2, rdw ka b N, ngb ka nb cn tq bq eq, trb (A 2) (C 4 60), sdw ka sb mr Mf Gf, rows ka ra ca N C, mw ka hm am N C f g]) H := wdH.fr 2 rfl hwf
  have hkw : va_P D vwCl (kw ka v ta N wf df tf) H := kw_of (w := fvb h A b nb sb v (N 0 4)) (R := List.flatten [shb ka (A 0) N ra, rdb ka (A 1) (d 0) rk du kd nv kf nf mf, vlw ka d np nt ng wf2 df2 tf2, rdw ka b N, ngb ka nb cn tq bq eq, trb (A 2) (C 4 60), sdw ka sb mr Mf Gf, rows ka ra ca N C, mw ka hm am N C f g]) hwf.2.1
  refine vp_callSi (ro_runV (c_X10_ofTaker l D ka h A b nb sb v ta N wf df tf hV hN.1 hN.2 (xs ((6 * j) + 1)) _ rfl (xs ((6 * j) + 2)) _ rfl (List.flatten [vlw ka v (N 0 0) (N 0 1) (N 0 2) wf df tf, tkw ta N (N 0 1), shb ka (A 0) N ra, rdb ka (A 1) (d 0) rk du kd nv kf nf mf, vlw ka d np nt ng wf2 df2 tf2, rdw ka b N, ngb ka nb cn tq bq eq, trb (A 2) (C 4 60), sdw ka sb mr Mf Gf, rows ka ra ca N C, mw ka hm am N C f g])) X wd_307 wd_304 wd_305 wd_306 wd_1 on_X10_ofTaker ⟨Nat.le_of_ble_eq_true rfl, Nat.le_of_ble_eq_true rfl⟩ (va_recv hK hwf.2.1 (ci := 10) (q0 := 0) rfl rfl) ⟨hwf.2.1, hkw⟩ hl.1 rfl (Nat.le_of_ble_eq_true rfl) ⟨(by show ce ≤ 600000; omega), (by show sl ≤ 7302250; omega)⟩ dL_law_240) (fun r_1 hr_1 => ?_)
  subst hr_1
  refine lv_aload_n hx hb dL_law_243 rfl (lv_at hl 1 rfl) ?_
  refine lv_aload_n hx hb dL_law_244 rfl (lv_at hl 3 rfl) ?_
  refine lv_iload_n hx hb dL_law_245 rfl (lv_at hl 0 rfl) ?_
  refine lv_iconst (v := nI 1) hx hb dL_law_246 (by decide) ?_
  refine n_iadd hx hb dL_law_247 ?_
  refine n_sld hx hb hXs hbl hS (k := (6 * j) + 1) (by omega) hL dL_law_248 ?_
  refine lv_aload_n hx hb dL_law_249 rfl (lv_at hl 3 rfl) ?_
  refine lv_iload_n hx hb dL_law_250 rfl (lv_at hl 0 rfl) ?_
  refine lv_iconst (v := nI 2) hx hb dL_law_251 (by decide) ?_
  refine n_iadd hx hb dL_law_252 ?_
  refine n_sld hx hb hXs hbl hS (k := (6 * j) + 2) (by omega) hL dL_law_253 ?_
  have hwm := hw
  have hwm : wdH D s.heap.size (List.flatten [mw ka hm am N C f g, fvb h A b nb sb v (N 0 4), shb ka (A 0) N ra, rdb ka (A 1) (d 0) rk du kd nv kf nf mf, vlw ka d np nt ng wf2 df2 tf2, rdw ka b N, ngb ka nb cn tq bq eq, trb (A 2) (C 4 60), sdw ka sb mr Mf Gf, vlw ka v (N 0 0) (N 0 1) (N 0 2) wf df tf, rows ka ra ca N C, tkw ta N (N 0 1)]) H := wdH.fr 11 rfl hwm
  refine vp_callSi (ro_runV (c_X11_ofTaker l D ka hm am N C f g (List.flatten [fvb h A b nb sb v (N 0 4), shb ka (A 0) N ra, rdb ka (A 1) (d 0) rk du kd nv kf nf mf, vlw ka d np nt ng wf2 df2 tf2, rdw ka b N, ngb ka nb cn tq bq eq, trb (A 2) (C 4 60), sdw ka sb mr Mf Gf, vlw ka v (N 0 0) (N 0 1) (N 0 2) wf df tf, rows ka ra ca N C, tkw ta N (N 0 1)]) (xs ((6 * j) + 1)) (xs ((6 * j) + 2)) _ _ rfl rfl hN.1) X wd_832 wd_829 wd_830 wd_831 wd_8 on_X11_ofTaker ⟨Nat.le_of_ble_eq_true rfl, Nat.le_of_ble_eq_true rfl⟩ (va_recv hK hwm.2.1 (ci := 11) (q0 := 0) rfl rfl) hwm.2.1 hl.1 rfl (Nat.le_of_ble_eq_true rfl) ⟨(by show ce ≤ 600000; omega), (by show sl ≤ 7302250; omega)⟩ dL_law_254) (fun r_2 hr_2 => ?_)
  subst hr_2
  refine lv_icmp_eq (tgt := 1234) hx hb dL_law_257 (by decide) (fun _ => ?_) (fun hne => absurd rfl hne)
  refine W.widen (k := ce + 60) (n := sl + 180) (by omega) (by omega) ?_
  exact kk _ _ H locs ls hN ⟨A, b, nb, sb, mr, v, d, rk, ta, ra, ca, am, cn, tq, bq, eq, kf, nf, mf, Mf, Gf, du, kd, nv, np, nt, ng, wf, df, wf2, df2, tf, tf2, f, g, hV, hMf, hGf, hw⟩ hS hl
set_option maxRecDepth 100000 in
set_option maxHeartbeats 4000000 in
theorem law_depth {p : Program} {l : Launch} {e : Env} {s : State} {m : MethodId} {below : List Frame} {meth : Method} {c : Code} {D : va_G} {ka : Nat → ClassId} {sc L : Nat} {xs : Nat → Int32} {Q : State → Prop} (X : Cx p s m #[Value.ref sc] c cL_law 4 RL D ka) (hXs : va_X sc L xs s s.heap) (hbl : sc < s.heap.size) (hL : L ≤ 384) {z : Nat} (hz : z = s.heap.size) {N : NN} {C : CC} (hN : OK N) {h hm j : Nat} (hj : 6 * j + 6 ≤ L) {H : Heap} {locs : List Loc} {ce sl : Nat} (hce : ce ≤ 100000) (hsl : sl ≤ 100000) (hI : INV D z ka h hm N C H) (hS : va_S (fun q => s.heap.size ≤ q) s.heap H locs) {ls : Array Slot} (hl : lv_has ls 4 [(3, .int (nI (6 * j))), (2, .ref hm), (1, .ref h), (0, .ref sc)])
    (kk : ∀ (N9 : NN) (C9 : CC) (H9 : Heap) (locs9 : List Loc) (ls9 : Array Slot), OK N9 → INV D z ka h hm N9 C9 H9 → va_S (fun q => s.heap.size ≤ q) s.heap H9 locs9 → lv_has ls9 4 [(3, .int (nI (6 * j))), (2, .ref hm), (1, .ref h), (0, .ref sc)] → W p l e room_1 s m #[Value.ref sc] below meth c H9 locs9 (ce + 60) (sl + 180) Q (F0 m 1234 ls9 [])) : W p l e room_1 s m #[Value.ref sc] below meth c H locs ce sl Q (F0 m 262 ls []) := by
  subst hz
  obtain ⟨hx, hb, hml, hown, hts, hE⟩ := id X
  have hK := hE.1
  obtain ⟨A, b, nb, sb, mr, v, d, rk, ta, ra, ca, am, cn, tq, bq, eq, kf, nf, mf, Mf, Gf, du, kd, nv, np, nt, ng, wf, df, wf2, df2, tf, tf2, f, g, hV, hMf, hGf, hw⟩ := hI
  refine lv_aload_n hx hb dL_law_262 rfl (lv_at hl 2 rfl) ?_
  refine lv_aload_n hx hb dL_law_263 rfl (lv_at hl 3 rfl) ?_
  refine lv_iload_n hx hb dL_law_264 rfl (lv_at hl 0 rfl) ?_
  refine lv_iconst (v := nI 1) hx hb dL_law_265 (by decide) ?_
  refine n_iadd hx hb dL_law_266 ?_
  refine n_sld hx hb hXs hbl hS (k := (6 * j) + 1) (by omega) hL dL_law_267 ?_
  have hwf := hw
  have hwf : wdH D s.heap.size (List.flatten [tkw ta N (N 0 1), fvb h A b nb sb v (N 0 4), shb ka (A 0) N ra, rdb ka (A 1) (d 0) rk du kd nv kf nf mf, vlw ka d np nt ng wf2 df2 tf2, rdw ka b N, ngb ka nb cn tq bq eq, trb (A 2) (C 4 60), sdw ka sb mr Mf Gf, vlw ka v (N 0 0) (N 0 1) (N 0 2) wf df tf, rows ka ra ca N C, mw ka hm am N C f g]) H := wdH.fr 10 rfl hwf
  have hwf : wdH D s.heap.size (List.flatten [vlw ka v (N 0 0) (N 0 1) (N 0 2) wf df tf, tkw ta N (N 0 1), fvb h A b nb sb v (N 0 4), shb ka (A 0) N ra, rdb ka (A 1) (d 0) rk du kd nv kf nf mf, vlw ka d np nt ng wf2 df2 tf2, rdw ka b N, ngb ka nb cn tq bq eq, trb (A 2) (C 4 60), sdw ka sb mr Mf Gf, rows ka ra ca N C, mw ka hm am N C f g]) H := wdH.fr 9 rfl hwf
  have hwf : wdH D s.heap.size (List.flatten [fvb h A b nb sb v (N 0 4), vlw ka v (N 0 0) (N 0 1) (N 0 2) wf df tf, tkw ta N (N 0 1), shb ka (A 0) N ra, rdb ka (A 1) (d 0) rk du kd nv kf nf mf, vlw ka d np nt ng wf2 df2 tf2, rdw ka b N, ngb ka nb cn tq bq eq, trb (A 2) (C 4 60), sdw ka sb mr Mf Gf, rows ka ra ca N C, mw ka hm am N C f g]) H := wdH.fr 2 rfl hwf
  have hkw : va_P D vwCl (kw ka v ta N wf df tf) H := kw_of (w := fvb h A b nb sb v (N 0 4)) (R := List.flatten [shb ka (A 0) N ra, rdb ka (A 1) (d 0) rk du kd nv kf nf mf, vlw ka d np nt ng wf2 df2 tf2, rdw ka b N, ngb ka nb cn tq bq eq, trb (A 2) (C 4 60), sdw ka sb mr Mf Gf, rows ka ra ca N C, mw ka hm am N C f g]) hwf.2.1
  refine vp_callSi (ro_runV (c_X10_depth l D ka h A b nb sb v ta N wf df tf hV hN.1 hN.2 (xs ((6 * j) + 1)) _ rfl (List.flatten [vlw ka v (N 0 0) (N 0 1) (N 0 2) wf df tf, tkw ta N (N 0 1), shb ka (A 0) N ra, rdb ka (A 1) (d 0) rk du kd nv kf nf mf, vlw ka d np nt ng wf2 df2 tf2, rdw ka b N, ngb ka nb cn tq bq eq, trb (A 2) (C 4 60), sdw ka sb mr Mf Gf, rows ka ra ca N C, mw ka hm am N C f g])) X wd_326 wd_323 wd_324 wd_325 wd_1 on_X10_depth ⟨Nat.le_of_ble_eq_true rfl, Nat.le_of_ble_eq_true rfl⟩ (va_recv hK hwf.2.1 (ci := 10) (q0 := 0) rfl rfl) ⟨hwf.2.1, hkw⟩ hl.1 rfl (Nat.le_of_ble_eq_true rfl) ⟨(by show ce ≤ 600000; omega), (by show sl ≤ 7302250; omega)⟩ dL_law_268) (fun r_1 hr_1 => ?_)
  subst hr_1
  refine lv_aload_n hx hb dL_law_271 rfl (lv_at hl 1 rfl) ?_
  refine lv_aload_n hx hb dL_law_272 rfl (lv_at hl 3 rfl) ?_
  refine lv_iload_n hx hb dL_law_273 rfl (lv_at hl 0 rfl) ?_
  refine lv_iconst (v := nI 1) hx hb dL_law_274 (by decide) ?_
  refine n_iadd hx hb dL_law_275 ?_
  refine n_sld hx hb hXs hbl hS (k := (6 * j) + 1) (by omega) hL dL_law_276 ?_
  have hwm := hw
  have hwm : wdH D s.heap.size (List.flatten [mw ka hm am N C f g, fvb h A b nb sb v (N 0 4), shb ka (A 0) N ra, rdb ka (A 1) (d 0) rk du kd nv kf nf mf, vlw ka d np nt ng wf2 df2 tf2, rdw ka b N, ngb ka nb cn tq bq eq, trb (A 2) (C 4 60), sdw ka sb mr Mf Gf, vlw ka v (N 0 0) (N 0 1) (N 0 2) wf df tf, rows ka ra ca N C, tkw ta N (N 0 1)]) H := wdH.fr 11 rfl hwm
  refine vp_callSi (ro_runV (c_X11_depth l D ka hm am N C f g (List.flatten [fvb h A b nb sb v (N 0 4), shb ka (A 0) N ra, rdb ka (A 1) (d 0) rk du kd nv kf nf mf, vlw ka d np nt ng wf2 df2 tf2, rdw ka b N, ngb ka nb cn tq bq eq, trb (A 2) (C 4 60), sdw ka sb mr Mf Gf, vlw ka v (N 0 0) (N 0 1) (N 0 2) wf df tf, rows ka ra ca N C, tkw ta N (N 0 1)]) (xs ((6 * j) + 1)) _ rfl hN.1) X wd_840 wd_837 wd_838 wd_839 wd_8 on_X11_depth ⟨Nat.le_of_ble_eq_true rfl, Nat.le_of_ble_eq_true rfl⟩ (va_recv hK hwm.2.1 (ci := 11) (q0 := 0) rfl rfl) hwm.2.1 hl.1 rfl (Nat.le_of_ble_eq_true rfl) ⟨(by show ce ≤ 600000; omega), (by show sl ≤ 7302250; omega)⟩ dL_law_277) (fun r_2 hr_2 => ?_)
  subst hr_2
  refine lv_icmp_eq (tgt := 1234) hx hb dL_law_280 (by decide) (fun _ => ?_) (fun hne => absurd rfl hne)
  refine W.widen (k := ce + 60) (n := sl + 180) (by omega) (by omega) ?_
  exact kk _ _ H locs ls hN ⟨A, b, nb, sb, mr, v, d, rk, ta, ra, ca, am, cn, tq, bq, eq, kf, nf, mf, Mf, Gf, du, kd, nv, np, nt, ng, wf, df, wf2, df2, tf, tf2, f, g, hV, hMf, hGf, hw⟩ hS hl
set_option maxRecDepth 100000 in
set_option maxHeartbeats 4000000 in
theorem law_gloom {p : Program} {l : Launch} {e : Env} {s : State} {m : MethodId} {below : List Frame} {meth : Method} {c : Code} {D : va_G} {ka : Nat → ClassId} {sc L : Nat} {xs : Nat → Int32} {Q : State → Prop} (X : Cx p s m #[Value.ref sc] c cL_law 4 RL D ka) (hXs : va_X sc L xs s s.heap) (hbl : sc < s.heap.size) (hL : L ≤ 384) {z : Nat} (hz : z = s.heap.size) {N : NN} {C : CC} (hN : OK N) {h hm j : Nat} (hj : 6 * j + 6 ≤ L) {H : Heap} {locs : List Loc} {ce sl : Nat} (hce : ce ≤ 100000) (hsl : sl ≤ 100000) (hI : INV D z ka h hm N C H) (hS : va_S (fun q => s.heap.size ≤ q) s.heap H locs) {ls : Array Slot} (hl : lv_has ls 4 [(3, .int (nI (6 * j))), (2, .ref hm), (1, .ref h), (0, .ref sc)])
    (kk : ∀ (N9 : NN) (C9 : CC) (H9 : Heap) (locs9 : List Loc) (ls9 : Array Slot), OK N9 → INV D z ka h hm N9 C9 H9 → va_S (fun q => s.heap.size ≤ q) s.heap H9 locs9 → lv_has ls9 4 [(3, .int (nI (6 * j))), (2, .ref hm), (1, .ref h), (0, .ref sc)] → W p l e room_1 s m #[Value.ref sc] below meth c H9 locs9 (ce + 60) (sl + 180) Q (F0 m 1234 ls9 [])) : W p l e room_1 s m #[Value.ref sc] below meth c H locs ce sl Q (F0 m 285 ls []) := by
  subst hz
  obtain ⟨hx, hb, hml, hown, hts, hE⟩ := id X
  have hK := hE.1
  obtain ⟨A, b, nb, sb, mr, v, d, rk, ta, ra, ca, am, cn, tq, bq, eq, kf, nf, mf, Mf, Gf, du, kd, nv, np, nt, ng, wf, df, wf2, df2, tf, tf2, f, g, hV, hMf, hGf, hw⟩ := hI
  refine lv_aload_n hx hb dL_law_285 rfl (lv_at hl 2 rfl) ?_
  refine lv_aload_n hx hb dL_law_286 rfl (lv_at hl 3 rfl) ?_
  refine lv_iload_n hx hb dL_law_287 rfl (lv_at hl 0 rfl) ?_
  refine lv_iconst (v := nI 1) hx hb dL_law_288 (by decide) ?_
  refine n_iadd hx hb dL_law_289 ?_
  refine n_sld hx hb hXs hbl hS (k := (6 * j) + 1) (by omega) hL dL_law_290 ?_
  have hwf := hw
  have hwf : wdH D s.heap.size (List.flatten [tkw ta N (N 0 1), fvb h A b nb sb v (N 0 4), shb ka (A 0) N ra, rdb ka (A 1) (d 0) rk du kd nv kf nf mf, vlw ka d np nt ng wf2 df2 tf2, rdw ka b N, ngb ka nb cn tq bq eq, trb (A 2) (C 4 60), sdw ka sb mr Mf Gf, vlw ka v (N 0 0) (N 0 1) (N 0 2) wf df tf, rows ka ra ca N C, mw ka hm am N C f g]) H := wdH.fr 10 rfl hwf
  have hwf : wdH D s.heap.size (List.flatten [vlw ka v (N 0 0) (N 0 1) (N 0 2) wf df tf, tkw ta N (N 0 1), fvb h A b nb sb v (N 0 4), shb ka (A 0) N ra, rdb ka (A 1) (d 0) rk du kd nv kf nf mf, vlw ka d np nt ng wf2 df2 tf2, rdw ka b N, ngb ka nb cn tq bq eq, trb (A 2) (C 4 60), sdw ka sb mr Mf Gf, rows ka ra ca N C, mw ka hm am N C f g]) H := wdH.fr 9 rfl hwf
  have hwf : wdH D s.heap.size (List.flatten [fvb h A b nb sb v (N 0 4), vlw ka v (N 0 0) (N 0 1) (N 0 2) wf df tf, tkw ta N (N 0 1), shb ka (A 0) N ra, rdb ka (A 1) (d 0) rk du kd nv kf nf mf, vlw ka d np nt ng wf2 df2 tf2, rdw ka b N, ngb ka nb cn tq bq eq, trb (A 2) (C 4 60), sdw ka sb mr Mf Gf, rows ka ra ca N C, mw ka hm am N C f g]) H := wdH.fr 2 rfl hwf
  have hkw : va_P D vwCl (kw ka v ta N wf df tf) H := kw_of (w := fvb h A b nb sb v (N 0 4)) (R := List.flatten [shb ka (A 0) N ra, rdb ka (A 1) (d 0) rk du kd nv kf nf mf, vlw ka d np nt ng wf2 df2 tf2, rdw ka b N, ngb ka nb cn tq bq eq, trb (A 2) (C 4 60), sdw ka sb mr Mf Gf, rows ka ra ca N C, mw ka hm am N C f g]) hwf.2.1
  refine vp_callSi (ro_runV (c_X10_gloom l D ka h A b nb sb v ta N wf df tf hV hN.1 hN.2 (xs ((6 * j) + 1)) _ rfl (List.flatten [vlw ka v (N 0 0) (N 0 1) (N 0 2) wf df tf, tkw ta N (N 0 1), shb ka (A 0) N ra, rdb ka (A 1) (d 0) rk du kd nv kf nf mf, vlw ka d np nt ng wf2 df2 tf2, rdw ka b N, ngb ka nb cn tq bq eq, trb (A 2) (C 4 60), sdw ka sb mr Mf Gf, rows ka ra ca N C, mw ka hm am N C f g])) X wd_334 wd_331 wd_332 wd_333 wd_1 on_X10_gloom ⟨Nat.le_of_ble_eq_true rfl, Nat.le_of_ble_eq_true rfl⟩ (va_recv hK hwf.2.1 (ci := 10) (q0 := 0) rfl rfl) ⟨hwf.2.1, hkw⟩ hl.1 rfl (Nat.le_of_ble_eq_true rfl) ⟨(by show ce ≤ 600000; omega), (by show sl ≤ 7302250; omega)⟩ dL_law_291) (fun r_1 hr_1 => ?_)
  subst hr_1
  refine lv_aload_n hx hb dL_law_294 rfl (lv_at hl 1 rfl) ?_
  refine lv_aload_n hx hb dL_law_295 rfl (lv_at hl 3 rfl) ?_
  refine lv_iload_n hx hb dL_law_296 rfl (lv_at hl 0 rfl) ?_
  refine lv_iconst (v := nI 1) hx hb dL_law_297 (by decide) ?_
  refine n_iadd hx hb dL_law_298 ?_
  refine n_sld hx hb hXs hbl hS (k := (6 * j) + 1) (by omega) hL dL_law_299 ?_
  have hwm := hw
  have hwm : wdH D s.heap.size (List.flatten [mw ka hm am N C f g, fvb h A b nb sb v (N 0 4), shb ka (A 0) N ra, rdb ka (A 1) (d 0) rk du kd nv kf nf mf, vlw ka d np nt ng wf2 df2 tf2, rdw ka b N, ngb ka nb cn tq bq eq, trb (A 2) (C 4 60), sdw ka sb mr Mf Gf, vlw ka v (N 0 0) (N 0 1) (N 0 2) wf df tf, rows ka ra ca N C, tkw ta N (N 0 1)]) H := wdH.fr 11 rfl hwm
  refine vp_callSi (ro_runV (c_X11_gloom l D ka hm am N C f g (List.flatten [fvb h A b nb sb v (N 0 4), shb ka (A 0) N ra, rdb ka (A 1) (d 0) rk du kd nv kf nf mf, vlw ka d np nt ng wf2 df2 tf2, rdw ka b N, ngb ka nb cn tq bq eq, trb (A 2) (C 4 60), sdw ka sb mr Mf Gf, vlw ka v (N 0 0) (N 0 1) (N 0 2) wf df tf, rows ka ra ca N C, tkw ta N (N 0 1)]) (xs ((6 * j) + 1)) _ rfl hN.1) X wd_844 wd_841 wd_842 wd_843 wd_8 on_X11_gloom ⟨Nat.le_of_ble_eq_true rfl, Nat.le_of_ble_eq_true rfl⟩ (va_recv hK hwm.2.1 (ci := 11) (q0 := 0) rfl rfl) hwm.2.1 hl.1 rfl (Nat.le_of_ble_eq_true rfl) ⟨(by show ce ≤ 600000; omega), (by show sl ≤ 7302250; omega)⟩ dL_law_300) (fun r_2 hr_2 => ?_)
  subst hr_2
  refine lv_icmp_eq (tgt := 1234) hx hb dL_law_303 (by decide) (fun _ => ?_) (fun hne => absurd rfl hne)
  refine W.widen (k := ce + 60) (n := sl + 180) (by omega) (by omega) ?_
  exact kk _ _ H locs ls hN ⟨A, b, nb, sb, mr, v, d, rk, ta, ra, ca, am, cn, tq, bq, eq, kf, nf, mf, Mf, Gf, du, kd, nv, np, nt, ng, wf, df, wf2, df2, tf, tf2, f, g, hV, hMf, hGf, hw⟩ hS hl
set_option maxRecDepth 100000 in
set_option maxHeartbeats 4000000 in
theorem law_hush {p : Program} {l : Launch} {e : Env} {s : State} {m : MethodId} {below : List Frame} {meth : Method} {c : Code} {D : va_G} {ka : Nat → ClassId} {sc L : Nat} {xs : Nat → Int32} {Q : State → Prop} (X : Cx p s m #[Value.ref sc] c cL_law 4 RL D ka) (hXs : va_X sc L xs s s.heap) (hbl : sc < s.heap.size) (hL : L ≤ 384) {z : Nat} (hz : z = s.heap.size) {N : NN} {C : CC} (hN : OK N) {h hm j : Nat} (hj : 6 * j + 6 ≤ L) {H : Heap} {locs : List Loc} {ce sl : Nat} (hce : ce ≤ 100000) (hsl : sl ≤ 100000) (hI : INV D z ka h hm N C H) (hS : va_S (fun q => s.heap.size ≤ q) s.heap H locs) {ls : Array Slot} (hl : lv_has ls 4 [(3, .int (nI (6 * j))), (2, .ref hm), (1, .ref h), (0, .ref sc)])
    (kk : ∀ (N9 : NN) (C9 : CC) (H9 : Heap) (locs9 : List Loc) (ls9 : Array Slot), OK N9 → INV D z ka h hm N9 C9 H9 → va_S (fun q => s.heap.size ≤ q) s.heap H9 locs9 → lv_has ls9 4 [(3, .int (nI (6 * j))), (2, .ref hm), (1, .ref h), (0, .ref sc)] → W p l e room_1 s m #[Value.ref sc] below meth c H9 locs9 (ce + 60) (sl + 180) Q (F0 m 1234 ls9 [])) : W p l e room_1 s m #[Value.ref sc] below meth c H locs ce sl Q (F0 m 308 ls []) := by
  subst hz
  obtain ⟨hx, hb, hml, hown, hts, hE⟩ := id X
  have hK := hE.1
  obtain ⟨A, b, nb, sb, mr, v, d, rk, ta, ra, ca, am, cn, tq, bq, eq, kf, nf, mf, Mf, Gf, du, kd, nv, np, nt, ng, wf, df, wf2, df2, tf, tf2, f, g, hV, hMf, hGf, hw⟩ := hI
  refine lv_aload_n hx hb dL_law_308 rfl (lv_at hl 2 rfl) ?_
  refine lv_aload_n hx hb dL_law_309 rfl (lv_at hl 3 rfl) ?_
  refine lv_iload_n hx hb dL_law_310 rfl (lv_at hl 0 rfl) ?_
  refine lv_iconst (v := nI 1) hx hb dL_law_311 (by decide) ?_
  refine n_iadd hx hb dL_law_312 ?_
  refine n_sld hx hb hXs hbl hS (k := (6 * j) + 1) (by omega) hL dL_law_313 ?_
  refine lv_aload_n hx hb dL_law_314 rfl (lv_at hl 3 rfl) ?_
  refine lv_iload_n hx hb dL_law_315 rfl (lv_at hl 0 rfl) ?_
  refine lv_iconst (v := nI 2) hx hb dL_law_316 (by decide) ?_
  refine n_iadd hx hb dL_law_317 ?_
  refine n_sld hx hb hXs hbl hS (k := (6 * j) + 2) (by omega) hL dL_law_318 ?_
  have hw : wdH D s.heap.size (List.flatten [tkw ta N (N 0 1), fvb h A b nb sb v (N 0 4), shb ka (A 0) N ra, rdb ka (A 1) (d 0) rk du kd nv kf nf mf, vlw ka d np nt ng wf2 df2 tf2, rdw ka b N, ngb ka nb cn tq bq eq, trb (A 2) (C 4 60), sdw ka sb mr Mf Gf, vlw ka v (N 0 0) (N 0 1) (N 0 2) wf df tf, rows ka ra ca N C, mw ka hm am N C f g]) H := wdH.fr 10 rfl hw
  have hw : wdH D s.heap.size (List.flatten [vlw ka v (N 0 0) (N 0 1) (N 0 2) wf df tf, tkw ta N (N 0 1), fvb h A b nb sb v (N 0 4), shb ka (A 0) N ra, rdb ka (A 1) (d 0) rk du kd nv kf nf mf, vlw ka d np nt ng wf2 df2 tf2, rdw ka b N, ngb ka nb cn tq bq eq, trb (A 2) (C 4 60), sdw ka sb mr Mf Gf, rows ka ra ca N C, mw ka hm am N C f g]) H := wdH.fr 9 rfl hw
  have hw : wdH D s.heap.size (List.flatten [fvb h A b nb sb v (N 0 4), vlw ka v (N 0 0) (N 0 1) (N 0 2) wf df tf, tkw ta N (N 0 1), shb ka (A 0) N ra, rdb ka (A 1) (d 0) rk du kd nv kf nf mf, vlw ka d np nt ng wf2 df2 tf2, rdw ka b N, ngb ka nb cn tq bq eq, trb (A 2) (C 4 60), sdw ka sb mr Mf Gf, rows ka ra ca N C, mw ka hm am N C f g]) H := wdH.fr 2 rfl hw
  refine mu_i (mu_runV (c_X10_hush l D ka s.heap.size  h A b nb sb v ta N wf df tf hV hN.1 hN.2  (xs ((6 * j) + 1)) _ rfl (xs ((6 * j) + 2)) _ rfl C (List.flatten [shb ka (A 0) N ra, rdb ka (A 1) (d 0) rk du kd nv kf nf mf, vlw ka d np nt ng wf2 df2 tf2, rdw ka b N, ngb ka nb cn tq bq eq, trb (A 2) (C 4 60), sdw ka sb mr Mf Gf, rows ka ra ca N C, mw ka hm am N C f g])) X wd_342 wd_339 wd_340 wd_341 wd_1 on_X10_hush ⟨Nat.le_of_ble_eq_true rfl, Nat.le_of_ble_eq_true rfl⟩ (va_recv hK hw.2.1 (ci := 10) (q0 := 0) rfl rfl) hw hl.1 rfl (Nat.le_of_ble_eq_true rfl) ⟨by show ce + 0 ≤ 600000; omega, by show sl + 0 ≤ 7302250; omega⟩ dL_law_319) hS (fun r_2 u_1 H locs hp_u_1 hw hS => ?_)
  obtain ⟨N1, C1, wf1, rfl, hV1, hr1⟩ := hp_u_1
  have hw : wdH D s.heap.size (List.flatten [fvb h A b nb sb v (N1 0 4), vlw ka v (N1 0 0) (N1 0 1) (N1 0 2) wf1 df tf, tkw ta N1 (N1 0 1), shb ka (A 0) N ra, rdb ka (A 1) (d 0) rk du kd nv kf nf mf, vlw ka d np nt ng wf2 df2 tf2, rdw ka b N, ngb ka nb cn tq bq eq, trb (A 2) (C 4 60), sdw ka sb mr Mf Gf, rows ka ra ca N C, mw ka hm am N C f g]) H := hw
  have hok1 : OK N1 := by
    have h9 : N1 = (sp_hush N C (xs ((6 * j) + 1)).toInt (xs ((6 * j) + 2)).toInt).2.1 := congrArg (fun q => q.2.1) hr1
    rw [h9]; exact ok_hush hN
  have hF := fr_hush hr1
  obtain ⟨hF1, hF2, rfl⟩ := hF
  rw [← shb_e (ka := ka) (a := A 0) (ra := ra) hF1] at hw
  rw [← rdw_e (ka := ka) (b := b) hF2] at hw
  rw [← rows_e (ka := ka) (ra := ra) (ca := ca) hF1 (eRF.rf _)] at hw
  have hw : wdH D s.heap.size (List.flatten [fvb h A b nb sb v (N1 0 4), vlw ka v (N1 0 0) (N1 0 1) (N1 0 2) wf1 df tf, tkw ta N1 (N1 0 1), shb ka (A 0) N1 ra, rdb ka (A 1) (d 0) rk du kd nv kf nf mf, vlw ka d np nt ng wf2 df2 tf2, rdw ka b N1, ngb ka nb cn tq bq eq, trb (A 2) (C1 4 60), sdw ka sb mr Mf Gf, rows ka ra ca N1 C1, mw ka hm am N C1 f g]) H := hw
  have hw : wdH D s.heap.size (List.flatten [vlw ka v (N1 0 0) (N1 0 1) (N1 0 2) wf1 df tf, tkw ta N1 (N1 0 1), fvb h A b nb sb v (N1 0 4), shb ka (A 0) N1 ra, rdb ka (A 1) (d 0) rk du kd nv kf nf mf, vlw ka d np nt ng wf2 df2 tf2, rdw ka b N1, ngb ka nb cn tq bq eq, trb (A 2) (C1 4 60), sdw ka sb mr Mf Gf, rows ka ra ca N1 C1, mw ka hm am N C1 f g]) H := wdH.bk 2 hw
  have hw : wdH D s.heap.size (List.flatten [tkw ta N1 (N1 0 1), fvb h A b nb sb v (N1 0 4), shb ka (A 0) N1 ra, rdb ka (A 1) (d 0) rk du kd nv kf nf mf, vlw ka d np nt ng wf2 df2 tf2, rdw ka b N1, ngb ka nb cn tq bq eq, trb (A 2) (C1 4 60), sdw ka sb mr Mf Gf, vlw ka v (N1 0 0) (N1 0 1) (N1 0 2) wf1 df tf, rows ka ra ca N1 C1, mw ka hm am N C1 f g]) H := wdH.bk 9 hw
  have hw : wdH D s.heap.size (List.flatten [fvb h A b nb sb v (N1 0 4), shb ka (A 0) N1 ra, rdb ka (A 1) (d 0) rk du kd nv kf nf mf, vlw ka d np nt ng wf2 df2 tf2, rdw ka b N1, ngb ka nb cn tq bq eq, trb (A 2) (C1 4 60), sdw ka sb mr Mf Gf, vlw ka v (N1 0 0) (N1 0 1) (N1 0 2) wf1 df tf, rows ka ra ca N1 C1, tkw ta N1 (N1 0 1), mw ka hm am N C1 f g]) H := wdH.bk 10 hw
  refine lv_aload_n hx hb dL_law_322 rfl (lv_at hl 1 rfl) ?_
  refine lv_aload_n hx hb dL_law_323 rfl (lv_at hl 3 rfl) ?_
  refine lv_iload_n hx hb dL_law_324 rfl (lv_at hl 0 rfl) ?_
  refine lv_iconst (v := nI 1) hx hb dL_law_325 (by decide) ?_
  refine n_iadd hx hb dL_law_326 ?_
  refine n_sld hx hb hXs hbl hS (k := (6 * j) + 1) (by omega) hL dL_law_327 ?_
  refine lv_aload_n hx hb dL_law_328 rfl (lv_at hl 3 rfl) ?_
  refine lv_iload_n hx hb dL_law_329 rfl (lv_at hl 0 rfl) ?_
  refine lv_iconst (v := nI 2) hx hb dL_law_330 (by decide) ?_
  refine n_iadd hx hb dL_law_331 ?_
  refine n_sld hx hb hXs hbl hS (k := (6 * j) + 2) (by omega) hL dL_law_332 ?_
  have hw : wdH D s.heap.size (List.flatten [mw ka hm am N C1 f g, fvb h A b nb sb v (N1 0 4), shb ka (A 0) N1 ra, rdb ka (A 1) (d 0) rk du kd nv kf nf mf, vlw ka d np nt ng wf2 df2 tf2, rdw ka b N1, ngb ka nb cn tq bq eq, trb (A 2) (C1 4 60), sdw ka sb mr Mf Gf, vlw ka v (N1 0 0) (N1 0 1) (N1 0 2) wf1 df tf, rows ka ra ca N1 C1, tkw ta N1 (N1 0 1)]) H := wdH.fr 11 rfl hw
  refine mu_i (mu_runV (c_X11_hush l D ka s.heap.size hm am N C1 f g (List.flatten [fvb h A b nb sb v (N1 0 4), shb ka (A 0) N1 ra, rdb ka (A 1) (d 0) rk du kd nv kf nf mf, vlw ka d np nt ng wf2 df2 tf2, rdw ka b N1, ngb ka nb cn tq bq eq, trb (A 2) (C1 4 60), sdw ka sb mr Mf Gf, vlw ka v (N1 0 0) (N1 0 1) (N1 0 2) wf1 df tf, rows ka ra ca N1 C1, tkw ta N1 (N1 0 1)]) (xs ((6 * j) + 1)) (xs ((6 * j) + 2)) _ _ rfl rfl hN.1) X wd_852 wd_849 wd_850 wd_851 wd_8 on_X11_hush ⟨Nat.le_of_ble_eq_true rfl, Nat.le_of_ble_eq_true rfl⟩ (va_recv hK hw.2.1 (ci := 11) (q0 := 0) rfl rfl) hw hl.1 rfl (Nat.le_of_ble_eq_true rfl) ⟨by show ce + 0 ≤ 600000; omega, by show sl + 0 ≤ 7302250; omega⟩ dL_law_333) hS (fun r_4 u_3 H locs hp_u_3 hw hS => ?_)
  obtain ⟨f2, g2, N2, C2, rfl, hr2⟩ := hp_u_3
  have hw : wdH D s.heap.size (List.flatten [mw ka hm am N2 C2 f2 g2, fvb h A b nb sb v (N1 0 4), shb ka (A 0) N1 ra, rdb ka (A 1) (d 0) rk du kd nv kf nf mf, vlw ka d np nt ng wf2 df2 tf2, rdw ka b N1, ngb ka nb cn tq bq eq, trb (A 2) (C1 4 60), sdw ka sb mr Mf Gf, vlw ka v (N1 0 0) (N1 0 1) (N1 0 2) wf1 df tf, rows ka ra ca N1 C1, tkw ta N1 (N1 0 1)]) H := hw
  have heq := hr1.trans hr2.symm
  obtain ⟨h91, h92⟩ := Prod.mk.inj heq
  obtain ⟨h93, h94⟩ := Prod.mk.inj h92
  subst h91 h93 h94
  have hw : wdH D s.heap.size (List.flatten [mw ka hm am N1 C1 f2 g2, fvb h A b nb sb v (N1 0 4), shb ka (A 0) N1 ra, rdb ka (A 1) (d 0) rk du kd nv kf nf mf, vlw ka d np nt ng wf2 df2 tf2, rdw ka b N1, ngb ka nb cn tq bq eq, trb (A 2) (C1 4 60), sdw ka sb mr Mf Gf, vlw ka v (N1 0 0) (N1 0 1) (N1 0 2) wf1 df tf, rows ka ra ca N1 C1, tkw ta N1 (N1 0 1)]) H := hw
  have hw : wdH D s.heap.size (List.flatten [fvb h A b nb sb v (N1 0 4), shb ka (A 0) N1 ra, rdb ka (A 1) (d 0) rk du kd nv kf nf mf, vlw ka d np nt ng wf2 df2 tf2, rdw ka b N1, ngb ka nb cn tq bq eq, trb (A 2) (C1 4 60), sdw ka sb mr Mf Gf, vlw ka v (N1 0 0) (N1 0 1) (N1 0 2) wf1 df tf, rows ka ra ca N1 C1, tkw ta N1 (N1 0 1), mw ka hm am N1 C1 f2 g2]) H := wdH.bk 11 hw
  refine lv_icmp_eq (tgt := 1234) hx hb dL_law_336 (by decide) (fun _ => ?_) (fun hne => absurd rfl hne)
  refine W.widen (k := ce + 60) (n := sl + 180) (by omega) (by omega) ?_
  exact kk _ _ H locs ls hok1 ⟨A, b, nb, sb, mr, v, d, rk, ta, ra, ca, am, cn, tq, bq, eq, kf, nf, mf, Mf, Gf, du, kd, nv, np, nt, ng, wf1, df, wf2, df2, tf, tf2, f2, g2, hV1, hMf, hGf, hw⟩ hS hl
set_option maxRecDepth 100000 in
set_option maxHeartbeats 4000000 in
theorem law_think {p : Program} {l : Launch} {e : Env} {s : State} {m : MethodId} {below : List Frame} {meth : Method} {c : Code} {D : va_G} {ka : Nat → ClassId} {sc L : Nat} {xs : Nat → Int32} {Q : State → Prop} (X : Cx p s m #[Value.ref sc] c cL_law 4 RL D ka) (hXs : va_X sc L xs s s.heap) (hbl : sc < s.heap.size) (hL : L ≤ 384) {z : Nat} (hz : z = s.heap.size) {N : NN} {C : CC} (hN : OK N) {h hm j : Nat} (hj : 6 * j + 6 ≤ L) {H : Heap} {locs : List Loc} {ce sl : Nat} (hce : ce ≤ 100000) (hsl : sl ≤ 100000) (hI : INV D z ka h hm N C H) (hS : va_S (fun q => s.heap.size ≤ q) s.heap H locs) {ls : Array Slot} (hl : lv_has ls 4 [(3, .int (nI (6 * j))), (2, .ref hm), (1, .ref h), (0, .ref sc)])
    (kk : ∀ (N9 : NN) (C9 : CC) (H9 : Heap) (locs9 : List Loc) (ls9 : Array Slot), OK N9 → INV D z ka h hm N9 C9 H9 → va_S (fun q => s.heap.size ≤ q) s.heap H9 locs9 → lv_has ls9 4 [(3, .int (nI (6 * j))), (2, .ref hm), (1, .ref h), (0, .ref sc)] → W p l e room_1 s m #[Value.ref sc] below meth c H9 locs9 (ce + 60) (sl + 180) Q (F0 m 1234 ls9 [])) : W p l e room_1 s m #[Value.ref sc] below meth c H locs ce sl Q (F0 m 341 ls []) := by
  subst hz
  obtain ⟨hx, hb, hml, hown, hts, hE⟩ := id X
  have hK := hE.1
  obtain ⟨A, b, nb, sb, mr, v, d, rk, ta, ra, ca, am, cn, tq, bq, eq, kf, nf, mf, Mf, Gf, du, kd, nv, np, nt, ng, wf, df, wf2, df2, tf, tf2, f, g, hV, hMf, hGf, hw⟩ := hI
  refine lv_aload_n hx hb dL_law_341 rfl (lv_at hl 2 rfl) ?_
  refine lv_aload_n hx hb dL_law_342 rfl (lv_at hl 3 rfl) ?_
  refine lv_iload_n hx hb dL_law_343 rfl (lv_at hl 0 rfl) ?_
  refine lv_iconst (v := nI 1) hx hb dL_law_344 (by decide) ?_
  refine n_iadd hx hb dL_law_345 ?_
  refine n_sld hx hb hXs hbl hS (k := (6 * j) + 1) (by omega) hL dL_law_346 ?_
  refine lv_aload_n hx hb dL_law_347 rfl (lv_at hl 3 rfl) ?_
  refine lv_iload_n hx hb dL_law_348 rfl (lv_at hl 0 rfl) ?_
  refine lv_iconst (v := nI 2) hx hb dL_law_349 (by decide) ?_
  refine n_iadd hx hb dL_law_350 ?_
  refine n_sld hx hb hXs hbl hS (k := (6 * j) + 2) (by omega) hL dL_law_351 ?_
  have hw : wdH D s.heap.size (List.flatten [tkw ta N (N 0 1), fvb h A b nb sb v (N 0 4), shb ka (A 0) N ra, rdb ka (A 1) (d 0) rk du kd nv kf nf mf, vlw ka d np nt ng wf2 df2 tf2, rdw ka b N, ngb ka nb cn tq bq eq, trb (A 2) (C 4 60), sdw ka sb mr Mf Gf, vlw ka v (N 0 0) (N 0 1) (N 0 2) wf df tf, rows ka ra ca N C, mw ka hm am N C f g]) H := wdH.fr 10 rfl hw
  have hw : wdH D s.heap.size (List.flatten [vlw ka v (N 0 0) (N 0 1) (N 0 2) wf df tf, tkw ta N (N 0 1), fvb h A b nb sb v (N 0 4), shb ka (A 0) N ra, rdb ka (A 1) (d 0) rk du kd nv kf nf mf, vlw ka d np nt ng wf2 df2 tf2, rdw ka b N, ngb ka nb cn tq bq eq, trb (A 2) (C 4 60), sdw ka sb mr Mf Gf, rows ka ra ca N C, mw ka hm am N C f g]) H := wdH.fr 9 rfl hw
  have hw : wdH D s.heap.size (List.flatten [fvb h A b nb sb v (N 0 4), vlw ka v (N 0 0) (N 0 1) (N 0 2) wf df tf, tkw ta N (N 0 1), shb ka (A 0) N ra, rdb ka (A 1) (d 0) rk du kd nv kf nf mf, vlw ka d np nt ng wf2 df2 tf2, rdw ka b N, ngb ka nb cn tq bq eq, trb (A 2) (C 4 60), sdw ka sb mr Mf Gf, rows ka ra ca N C, mw ka hm am N C f g]) H := wdH.fr 2 rfl hw
  refine mu_i (mu_runV (c_X10_think l D ka s.heap.size  h A b nb sb v ta N wf df tf hV hN.1 hN.2  (xs ((6 * j) + 1)) _ rfl (xs ((6 * j) + 2)) _ rfl C (List.flatten [shb ka (A 0) N ra, rdb ka (A 1) (d 0) rk du kd nv kf nf mf, vlw ka d np nt ng wf2 df2 tf2, rdw ka b N, ngb ka nb cn tq bq eq, trb (A 2) (C 4 60), sdw ka sb mr Mf Gf, rows ka ra ca N C, mw ka hm am N C f g])) X wd_346 wd_343 wd_344 wd_345 wd_1 on_X10_think ⟨Nat.le_of_ble_eq_true rfl, Nat.le_of_ble_eq_true rfl⟩ (va_recv hK hw.2.1 (ci := 10) (q0 := 0) rfl rfl) hw hl.1 rfl (Nat.le_of_ble_eq_true rfl) ⟨by show ce + 0 ≤ 600000; omega, by show sl + 0 ≤ 7302250; omega⟩ dL_law_352) hS (fun r_2 u_1 H locs hp_u_1 hw hS => ?_)
  obtain ⟨N1, C1, rfl, hV1, hr1⟩ := hp_u_1
  have hw : wdH D s.heap.size (List.flatten [fvb h A b nb sb v (N1 0 4), vlw ka v (N1 0 0) (N1 0 1) (N1 0 2) wf df tf, tkw ta N1 (N1 0 1), shb ka (A 0) N ra, rdb ka (A 1) (d 0) rk du kd nv kf nf mf, vlw ka d np nt ng wf2 df2 tf2, rdw ka b N, ngb ka nb cn tq bq eq, trb (A 2) (C 4 60), sdw ka sb mr Mf Gf, rows ka ra ca N C, mw ka hm am N C f g]) H := hw
  have hok1 : OK N1 := by
    have h9 : N1 = (sp_think N C (xs ((6 * j) + 1)).toInt (xs ((6 * j) + 2)).toInt).2.1 := congrArg (fun q => q.2.1) hr1
    rw [h9]; exact ok_think hN
  have hF := fr_think hr1
  obtain ⟨hF1, hF2, rfl⟩ := hF
  rw [← shb_e (ka := ka) (a := A 0) (ra := ra) hF1] at hw
  rw [← rdw_e (ka := ka) (b := b) hF2] at hw
  rw [← rows_e (ka := ka) (ra := ra) (ca := ca) hF1 (eRF.rf _)] at hw
  have hw : wdH D s.heap.size (List.flatten [fvb h A b nb sb v (N1 0 4), vlw ka v (N1 0 0) (N1 0 1) (N1 0 2) wf df tf, tkw ta N1 (N1 0 1), shb ka (A 0) N1 ra, rdb ka (A 1) (d 0) rk du kd nv kf nf mf, vlw ka d np nt ng wf2 df2 tf2, rdw ka b N1, ngb ka nb cn tq bq eq, trb (A 2) (C1 4 60), sdw ka sb mr Mf Gf, rows ka ra ca N1 C1, mw ka hm am N C1 f g]) H := hw
  have hw : wdH D s.heap.size (List.flatten [vlw ka v (N1 0 0) (N1 0 1) (N1 0 2) wf df tf, tkw ta N1 (N1 0 1), fvb h A b nb sb v (N1 0 4), shb ka (A 0) N1 ra, rdb ka (A 1) (d 0) rk du kd nv kf nf mf, vlw ka d np nt ng wf2 df2 tf2, rdw ka b N1, ngb ka nb cn tq bq eq, trb (A 2) (C1 4 60), sdw ka sb mr Mf Gf, rows ka ra ca N1 C1, mw ka hm am N C1 f g]) H := wdH.bk 2 hw
  have hw : wdH D s.heap.size (List.flatten [tkw ta N1 (N1 0 1), fvb h A b nb sb v (N1 0 4), shb ka (A 0) N1 ra, rdb ka (A 1) (d 0) rk du kd nv kf nf mf, vlw ka d np nt ng wf2 df2 tf2, rdw ka b N1, ngb ka nb cn tq bq eq, trb (A 2) (C1 4 60), sdw ka sb mr Mf Gf, vlw ka v (N1 0 0) (N1 0 1) (N1 0 2) wf df tf, rows ka ra ca N1 C1, mw ka hm am N C1 f g]) H := wdH.bk 9 hw
  have hw : wdH D s.heap.size (List.flatten [fvb h A b nb sb v (N1 0 4), shb ka (A 0) N1 ra, rdb ka (A 1) (d 0) rk du kd nv kf nf mf, vlw ka d np nt ng wf2 df2 tf2, rdw ka b N1, ngb ka nb cn tq bq eq, trb (A 2) (C1 4 60), sdw ka sb mr Mf Gf, vlw ka v (N1 0 0) (N1 0 1) (N1 0 2) wf df tf, rows ka ra ca N1 C1, tkw ta N1 (N1 0 1), mw ka hm am N C1 f g]) H := wdH.bk 10 hw
  refine lv_aload_n hx hb dL_law_355 rfl (lv_at hl 1 rfl) ?_
  refine lv_aload_n hx hb dL_law_356 rfl (lv_at hl 3 rfl) ?_
  refine lv_iload_n hx hb dL_law_357 rfl (lv_at hl 0 rfl) ?_
  refine lv_iconst (v := nI 1) hx hb dL_law_358 (by decide) ?_
  refine n_iadd hx hb dL_law_359 ?_
  refine n_sld hx hb hXs hbl hS (k := (6 * j) + 1) (by omega) hL dL_law_360 ?_
  refine lv_aload_n hx hb dL_law_361 rfl (lv_at hl 3 rfl) ?_
  refine lv_iload_n hx hb dL_law_362 rfl (lv_at hl 0 rfl) ?_
  refine lv_iconst (v := nI 2) hx hb dL_law_363 (by decide) ?_
  refine n_iadd hx hb dL_law_364 ?_
  refine n_sld hx hb hXs hbl hS (k := (6 * j) + 2) (by omega) hL dL_law_365 ?_
  have hw : wdH D s.heap.size (List.flatten [mw ka hm am N C1 f g, fvb h A b nb sb v (N1 0 4), shb ka (A 0) N1 ra, rdb ka (A 1) (d 0) rk du kd nv kf nf mf, vlw ka d np nt ng wf2 df2 tf2, rdw ka b N1, ngb ka nb cn tq bq eq, trb (A 2) (C1 4 60), sdw ka sb mr Mf Gf, vlw ka v (N1 0 0) (N1 0 1) (N1 0 2) wf df tf, rows ka ra ca N1 C1, tkw ta N1 (N1 0 1)]) H := wdH.fr 11 rfl hw
  refine mu_i (mu_runV (c_X11_think l D ka s.heap.size hm am N C1 f g (List.flatten [fvb h A b nb sb v (N1 0 4), shb ka (A 0) N1 ra, rdb ka (A 1) (d 0) rk du kd nv kf nf mf, vlw ka d np nt ng wf2 df2 tf2, rdw ka b N1, ngb ka nb cn tq bq eq, trb (A 2) (C1 4 60), sdw ka sb mr Mf Gf, vlw ka v (N1 0 0) (N1 0 1) (N1 0 2) wf df tf, rows ka ra ca N1 C1, tkw ta N1 (N1 0 1)]) (xs ((6 * j) + 1)) (xs ((6 * j) + 2)) _ _ rfl rfl hN.1) X wd_856 wd_853 wd_854 wd_855 wd_8 on_X11_think ⟨Nat.le_of_ble_eq_true rfl, Nat.le_of_ble_eq_true rfl⟩ (va_recv hK hw.2.1 (ci := 11) (q0 := 0) rfl rfl) hw hl.1 rfl (Nat.le_of_ble_eq_true rfl) ⟨by show ce + 0 ≤ 600000; omega, by show sl + 0 ≤ 7302250; omega⟩ dL_law_366) hS (fun r_4 u_3 H locs hp_u_3 hw hS => ?_)
  obtain ⟨f2, g2, N2, C2, rfl, hr2⟩ := hp_u_3
  have hw : wdH D s.heap.size (List.flatten [mw ka hm am N2 C2 f2 g2, fvb h A b nb sb v (N1 0 4), shb ka (A 0) N1 ra, rdb ka (A 1) (d 0) rk du kd nv kf nf mf, vlw ka d np nt ng wf2 df2 tf2, rdw ka b N1, ngb ka nb cn tq bq eq, trb (A 2) (C1 4 60), sdw ka sb mr Mf Gf, vlw ka v (N1 0 0) (N1 0 1) (N1 0 2) wf df tf, rows ka ra ca N1 C1, tkw ta N1 (N1 0 1)]) H := hw
  have heq := hr1.trans hr2.symm
  obtain ⟨h91, h92⟩ := Prod.mk.inj heq
  obtain ⟨h93, h94⟩ := Prod.mk.inj h92
  subst h91 h93 h94
  have hw : wdH D s.heap.size (List.flatten [mw ka hm am N1 C1 f2 g2, fvb h A b nb sb v (N1 0 4), shb ka (A 0) N1 ra, rdb ka (A 1) (d 0) rk du kd nv kf nf mf, vlw ka d np nt ng wf2 df2 tf2, rdw ka b N1, ngb ka nb cn tq bq eq, trb (A 2) (C1 4 60), sdw ka sb mr Mf Gf, vlw ka v (N1 0 0) (N1 0 1) (N1 0 2) wf df tf, rows ka ra ca N1 C1, tkw ta N1 (N1 0 1)]) H := hw
  have hw : wdH D s.heap.size (List.flatten [fvb h A b nb sb v (N1 0 4), shb ka (A 0) N1 ra, rdb ka (A 1) (d 0) rk du kd nv kf nf mf, vlw ka d np nt ng wf2 df2 tf2, rdw ka b N1, ngb ka nb cn tq bq eq, trb (A 2) (C1 4 60), sdw ka sb mr Mf Gf, vlw ka v (N1 0 0) (N1 0 1) (N1 0 2) wf df tf, rows ka ra ca N1 C1, tkw ta N1 (N1 0 1), mw ka hm am N1 C1 f2 g2]) H := wdH.bk 11 hw
  refine lv_icmp_eq (tgt := 1234) hx hb dL_law_369 (by decide) (fun _ => ?_) (fun hne => absurd rfl hne)
  refine W.widen (k := ce + 60) (n := sl + 180) (by omega) (by omega) ?_
  exact kk _ _ H locs ls hok1 ⟨A, b, nb, sb, mr, v, d, rk, ta, ra, ca, am, cn, tq, bq, eq, kf, nf, mf, Mf, Gf, du, kd, nv, np, nt, ng, wf, df, wf2, df2, tf, tf2, f2, g2, hV1, hMf, hGf, hw⟩ hS hl
set_option maxRecDepth 100000 in
set_option maxHeartbeats 4000000 in
theorem law_brace {p : Program} {l : Launch} {e : Env} {s : State} {m : MethodId} {below : List Frame} {meth : Method} {c : Code} {D : va_G} {ka : Nat → ClassId} {sc L : Nat} {xs : Nat → Int32} {Q : State → Prop} (X : Cx p s m #[Value.ref sc] c cL_law 4 RL D ka) (hXs : va_X sc L xs s s.heap) (hbl : sc < s.heap.size) (hL : L ≤ 384) {z : Nat} (hz : z = s.heap.size) {N : NN} {C : CC} (hN : OK N) {h hm j : Nat} (hj : 6 * j + 6 ≤ L) {H : Heap} {locs : List Loc} {ce sl : Nat} (hce : ce ≤ 100000) (hsl : sl ≤ 100000) (hI : INV D z ka h hm N C H) (hS : va_S (fun q => s.heap.size ≤ q) s.heap H locs) {ls : Array Slot} (hl : lv_has ls 4 [(3, .int (nI (6 * j))), (2, .ref hm), (1, .ref h), (0, .ref sc)])
    (kk : ∀ (N9 : NN) (C9 : CC) (H9 : Heap) (locs9 : List Loc) (ls9 : Array Slot), OK N9 → INV D z ka h hm N9 C9 H9 → va_S (fun q => s.heap.size ≤ q) s.heap H9 locs9 → lv_has ls9 4 [(3, .int (nI (6 * j))), (2, .ref hm), (1, .ref h), (0, .ref sc)] → W p l e room_1 s m #[Value.ref sc] below meth c H9 locs9 (ce + 60) (sl + 180) Q (F0 m 1234 ls9 [])) : W p l e room_1 s m #[Value.ref sc] below meth c H locs ce sl Q (F0 m 374 ls []) := by
  subst hz
  obtain ⟨hx, hb, hml, hown, hts, hE⟩ := id X
  have hK := hE.1
  obtain ⟨A, b, nb, sb, mr, v, d, rk, ta, ra, ca, am, cn, tq, bq, eq, kf, nf, mf, Mf, Gf, du, kd, nv, np, nt, ng, wf, df, wf2, df2, tf, tf2, f, g, hV, hMf, hGf, hw⟩ := hI
  refine lv_aload_n hx hb dL_law_374 rfl (lv_at hl 2 rfl) ?_
  refine lv_aload_n hx hb dL_law_375 rfl (lv_at hl 3 rfl) ?_
  refine lv_iload_n hx hb dL_law_376 rfl (lv_at hl 0 rfl) ?_
  refine lv_iconst (v := nI 1) hx hb dL_law_377 (by decide) ?_
  refine n_iadd hx hb dL_law_378 ?_
  refine n_sld hx hb hXs hbl hS (k := (6 * j) + 1) (by omega) hL dL_law_379 ?_
  refine lv_aload_n hx hb dL_law_380 rfl (lv_at hl 3 rfl) ?_
  refine lv_iload_n hx hb dL_law_381 rfl (lv_at hl 0 rfl) ?_
  refine lv_iconst (v := nI 2) hx hb dL_law_382 (by decide) ?_
  refine n_iadd hx hb dL_law_383 ?_
  refine n_sld hx hb hXs hbl hS (k := (6 * j) + 2) (by omega) hL dL_law_384 ?_
  have hw : wdH D s.heap.size (List.flatten [tkw ta N (N 0 1), fvb h A b nb sb v (N 0 4), shb ka (A 0) N ra, rdb ka (A 1) (d 0) rk du kd nv kf nf mf, vlw ka d np nt ng wf2 df2 tf2, rdw ka b N, ngb ka nb cn tq bq eq, trb (A 2) (C 4 60), sdw ka sb mr Mf Gf, vlw ka v (N 0 0) (N 0 1) (N 0 2) wf df tf, rows ka ra ca N C, mw ka hm am N C f g]) H := wdH.fr 10 rfl hw
  have hw : wdH D s.heap.size (List.flatten [vlw ka v (N 0 0) (N 0 1) (N 0 2) wf df tf, tkw ta N (N 0 1), fvb h A b nb sb v (N 0 4), shb ka (A 0) N ra, rdb ka (A 1) (d 0) rk du kd nv kf nf mf, vlw ka d np nt ng wf2 df2 tf2, rdw ka b N, ngb ka nb cn tq bq eq, trb (A 2) (C 4 60), sdw ka sb mr Mf Gf, rows ka ra ca N C, mw ka hm am N C f g]) H := wdH.fr 9 rfl hw
  have hw : wdH D s.heap.size (List.flatten [fvb h A b nb sb v (N 0 4), vlw ka v (N 0 0) (N 0 1) (N 0 2) wf df tf, tkw ta N (N 0 1), shb ka (A 0) N ra, rdb ka (A 1) (d 0) rk du kd nv kf nf mf, vlw ka d np nt ng wf2 df2 tf2, rdw ka b N, ngb ka nb cn tq bq eq, trb (A 2) (C 4 60), sdw ka sb mr Mf Gf, rows ka ra ca N C, mw ka hm am N C f g]) H := wdH.fr 2 rfl hw
  refine mu_i (mu_runV (c_X10_brace l D ka s.heap.size  h A b nb sb v ta N wf df tf hV hN.1 hN.2  (xs ((6 * j) + 1)) _ rfl (xs ((6 * j) + 2)) _ rfl C (List.flatten [shb ka (A 0) N ra, rdb ka (A 1) (d 0) rk du kd nv kf nf mf, vlw ka d np nt ng wf2 df2 tf2, rdw ka b N, ngb ka nb cn tq bq eq, trb (A 2) (C 4 60), sdw ka sb mr Mf Gf, rows ka ra ca N C, mw ka hm am N C f g])) X wd_350 wd_347 wd_348 wd_349 wd_1 on_X10_brace ⟨Nat.le_of_ble_eq_true rfl, Nat.le_of_ble_eq_true rfl⟩ (va_recv hK hw.2.1 (ci := 10) (q0 := 0) rfl rfl) hw hl.1 rfl (Nat.le_of_ble_eq_true rfl) ⟨by show ce + 0 ≤ 600000; omega, by show sl + 0 ≤ 7302250; omega⟩ dL_law_385) hS (fun r_2 u_1 H locs hp_u_1 hw hS => ?_)
  obtain ⟨N1, C1, rfl, hV1, hr1⟩ := hp_u_1
  have hw : wdH D s.heap.size (List.flatten [fvb h A b nb sb v (N1 0 4), vlw ka v (N1 0 0) (N1 0 1) (N1 0 2) wf df tf, tkw ta N1 (N1 0 1), shb ka (A 0) N ra, rdb ka (A 1) (d 0) rk du kd nv kf nf mf, vlw ka d np nt ng wf2 df2 tf2, rdw ka b N, ngb ka nb cn tq bq eq, trb (A 2) (C 4 60), sdw ka sb mr Mf Gf, rows ka ra ca N C, mw ka hm am N C f g]) H := hw
  have hok1 : OK N1 := by
    have h9 : N1 = (sp_brace N C (xs ((6 * j) + 1)).toInt (xs ((6 * j) + 2)).toInt).2.1 := congrArg (fun q => q.2.1) hr1
    rw [h9]; exact ok_brace hN
  have hF := fr_brace hr1
  obtain ⟨hF1, hF2, rfl⟩ := hF
  rw [← shb_e (ka := ka) (a := A 0) (ra := ra) hF1] at hw
  rw [← rdw_e (ka := ka) (b := b) hF2] at hw
  rw [← rows_e (ka := ka) (ra := ra) (ca := ca) hF1 (eRF.rf _)] at hw
  have hw : wdH D s.heap.size (List.flatten [fvb h A b nb sb v (N1 0 4), vlw ka v (N1 0 0) (N1 0 1) (N1 0 2) wf df tf, tkw ta N1 (N1 0 1), shb ka (A 0) N1 ra, rdb ka (A 1) (d 0) rk du kd nv kf nf mf, vlw ka d np nt ng wf2 df2 tf2, rdw ka b N1, ngb ka nb cn tq bq eq, trb (A 2) (C1 4 60), sdw ka sb mr Mf Gf, rows ka ra ca N1 C1, mw ka hm am N C1 f g]) H := hw
  have hw : wdH D s.heap.size (List.flatten [vlw ka v (N1 0 0) (N1 0 1) (N1 0 2) wf df tf, tkw ta N1 (N1 0 1), fvb h A b nb sb v (N1 0 4), shb ka (A 0) N1 ra, rdb ka (A 1) (d 0) rk du kd nv kf nf mf, vlw ka d np nt ng wf2 df2 tf2, rdw ka b N1, ngb ka nb cn tq bq eq, trb (A 2) (C1 4 60), sdw ka sb mr Mf Gf, rows ka ra ca N1 C1, mw ka hm am N C1 f g]) H := wdH.bk 2 hw
  have hw : wdH D s.heap.size (List.flatten [tkw ta N1 (N1 0 1), fvb h A b nb sb v (N1 0 4), shb ka (A 0) N1 ra, rdb ka (A 1) (d 0) rk du kd nv kf nf mf, vlw ka d np nt ng wf2 df2 tf2, rdw ka b N1, ngb ka nb cn tq bq eq, trb (A 2) (C1 4 60), sdw ka sb mr Mf Gf, vlw ka v (N1 0 0) (N1 0 1) (N1 0 2) wf df tf, rows ka ra ca N1 C1, mw ka hm am N C1 f g]) H := wdH.bk 9 hw
  have hw : wdH D s.heap.size (List.flatten [fvb h A b nb sb v (N1 0 4), shb ka (A 0) N1 ra, rdb ka (A 1) (d 0) rk du kd nv kf nf mf, vlw ka d np nt ng wf2 df2 tf2, rdw ka b N1, ngb ka nb cn tq bq eq, trb (A 2) (C1 4 60), sdw ka sb mr Mf Gf, vlw ka v (N1 0 0) (N1 0 1) (N1 0 2) wf df tf, rows ka ra ca N1 C1, tkw ta N1 (N1 0 1), mw ka hm am N C1 f g]) H := wdH.bk 10 hw
  refine lv_aload_n hx hb dL_law_388 rfl (lv_at hl 1 rfl) ?_
  refine lv_aload_n hx hb dL_law_389 rfl (lv_at hl 3 rfl) ?_
  refine lv_iload_n hx hb dL_law_390 rfl (lv_at hl 0 rfl) ?_
  refine lv_iconst (v := nI 1) hx hb dL_law_391 (by decide) ?_
  refine n_iadd hx hb dL_law_392 ?_
  refine n_sld hx hb hXs hbl hS (k := (6 * j) + 1) (by omega) hL dL_law_393 ?_
  refine lv_aload_n hx hb dL_law_394 rfl (lv_at hl 3 rfl) ?_
  refine lv_iload_n hx hb dL_law_395 rfl (lv_at hl 0 rfl) ?_
  refine lv_iconst (v := nI 2) hx hb dL_law_396 (by decide) ?_
  refine n_iadd hx hb dL_law_397 ?_
  refine n_sld hx hb hXs hbl hS (k := (6 * j) + 2) (by omega) hL dL_law_398 ?_
  have hw : wdH D s.heap.size (List.flatten [mw ka hm am N C1 f g, fvb h A b nb sb v (N1 0 4), shb ka (A 0) N1 ra, rdb ka (A 1) (d 0) rk du kd nv kf nf mf, vlw ka d np nt ng wf2 df2 tf2, rdw ka b N1, ngb ka nb cn tq bq eq, trb (A 2) (C1 4 60), sdw ka sb mr Mf Gf, vlw ka v (N1 0 0) (N1 0 1) (N1 0 2) wf df tf, rows ka ra ca N1 C1, tkw ta N1 (N1 0 1)]) H := wdH.fr 11 rfl hw
  refine mu_i (mu_runV (c_X11_brace l D ka s.heap.size hm am N C1 f g (List.flatten [fvb h A b nb sb v (N1 0 4), shb ka (A 0) N1 ra, rdb ka (A 1) (d 0) rk du kd nv kf nf mf, vlw ka d np nt ng wf2 df2 tf2, rdw ka b N1, ngb ka nb cn tq bq eq, trb (A 2) (C1 4 60), sdw ka sb mr Mf Gf, vlw ka v (N1 0 0) (N1 0 1) (N1 0 2) wf df tf, rows ka ra ca N1 C1, tkw ta N1 (N1 0 1)]) (xs ((6 * j) + 1)) (xs ((6 * j) + 2)) _ _ rfl rfl hN.1) X wd_860 wd_857 wd_858 wd_859 wd_8 on_X11_brace ⟨Nat.le_of_ble_eq_true rfl, Nat.le_of_ble_eq_true rfl⟩ (va_recv hK hw.2.1 (ci := 11) (q0 := 0) rfl rfl) hw hl.1 rfl (Nat.le_of_ble_eq_true rfl) ⟨by show ce + 0 ≤ 600000; omega, by show sl + 0 ≤ 7302250; omega⟩ dL_law_399) hS (fun r_4 u_3 H locs hp_u_3 hw hS => ?_)
  obtain ⟨f2, g2, N2, C2, rfl, hr2⟩ := hp_u_3
  have hw : wdH D s.heap.size (List.flatten [mw ka hm am N2 C2 f2 g2, fvb h A b nb sb v (N1 0 4), shb ka (A 0) N1 ra, rdb ka (A 1) (d 0) rk du kd nv kf nf mf, vlw ka d np nt ng wf2 df2 tf2, rdw ka b N1, ngb ka nb cn tq bq eq, trb (A 2) (C1 4 60), sdw ka sb mr Mf Gf, vlw ka v (N1 0 0) (N1 0 1) (N1 0 2) wf df tf, rows ka ra ca N1 C1, tkw ta N1 (N1 0 1)]) H := hw
  have heq := hr1.trans hr2.symm
  obtain ⟨h91, h92⟩ := Prod.mk.inj heq
  obtain ⟨h93, h94⟩ := Prod.mk.inj h92
  subst h91 h93 h94
  have hw : wdH D s.heap.size (List.flatten [mw ka hm am N1 C1 f2 g2, fvb h A b nb sb v (N1 0 4), shb ka (A 0) N1 ra, rdb ka (A 1) (d 0) rk du kd nv kf nf mf, vlw ka d np nt ng wf2 df2 tf2, rdw ka b N1, ngb ka nb cn tq bq eq, trb (A 2) (C1 4 60), sdw ka sb mr Mf Gf, vlw ka v (N1 0 0) (N1 0 1) (N1 0 2) wf df tf, rows ka ra ca N1 C1, tkw ta N1 (N1 0 1)]) H := hw
  have hw : wdH D s.heap.size (List.flatten [fvb h A b nb sb v (N1 0 4), shb ka (A 0) N1 ra, rdb ka (A 1) (d 0) rk du kd nv kf nf mf, vlw ka d np nt ng wf2 df2 tf2, rdw ka b N1, ngb ka nb cn tq bq eq, trb (A 2) (C1 4 60), sdw ka sb mr Mf Gf, vlw ka v (N1 0 0) (N1 0 1) (N1 0 2) wf df tf, rows ka ra ca N1 C1, tkw ta N1 (N1 0 1), mw ka hm am N1 C1 f2 g2]) H := wdH.bk 11 hw
  refine lv_icmp_eq (tgt := 1234) hx hb dL_law_402 (by decide) (fun _ => ?_) (fun hne => absurd rfl hne)
  refine W.widen (k := ce + 60) (n := sl + 180) (by omega) (by omega) ?_
  exact kk _ _ H locs ls hok1 ⟨A, b, nb, sb, mr, v, d, rk, ta, ra, ca, am, cn, tq, bq, eq, kf, nf, mf, Mf, Gf, du, kd, nv, np, nt, ng, wf, df, wf2, df2, tf, tf2, f2, g2, hV1, hMf, hGf, hw⟩ hS hl
set_option maxRecDepth 100000 in
set_option maxHeartbeats 4000000 in
theorem law_drain {p : Program} {l : Launch} {e : Env} {s : State} {m : MethodId} {below : List Frame} {meth : Method} {c : Code} {D : va_G} {ka : Nat → ClassId} {sc L : Nat} {xs : Nat → Int32} {Q : State → Prop} (X : Cx p s m #[Value.ref sc] c cL_law 4 RL D ka) (hXs : va_X sc L xs s s.heap) (hbl : sc < s.heap.size) (hL : L ≤ 384) {z : Nat} (hz : z = s.heap.size) {N : NN} {C : CC} (hN : OK N) {h hm j : Nat} (hj : 6 * j + 6 ≤ L) {H : Heap} {locs : List Loc} {ce sl : Nat} (hce : ce ≤ 100000) (hsl : sl ≤ 100000) (hI : INV D z ka h hm N C H) (hS : va_S (fun q => s.heap.size ≤ q) s.heap H locs) {ls : Array Slot} (hl : lv_has ls 4 [(3, .int (nI (6 * j))), (2, .ref hm), (1, .ref h), (0, .ref sc)])
    (kk : ∀ (N9 : NN) (C9 : CC) (H9 : Heap) (locs9 : List Loc) (ls9 : Array Slot), OK N9 → INV D z ka h hm N9 C9 H9 → va_S (fun q => s.heap.size ≤ q) s.heap H9 locs9 → lv_has ls9 4 [(3, .int (nI (6 * j))), (2, .ref hm), (1, .ref h), (0, .ref sc)] → W p l e room_1 s m #[Value.ref sc] below meth c H9 locs9 (ce + 60) (sl + 180) Q (F0 m 1234 ls9 [])) : W p l e room_1 s m #[Value.ref sc] below meth c H locs ce sl Q (F0 m 407 ls []) := by
  subst hz
  obtain ⟨hx, hb, hml, hown, hts, hE⟩ := id X
  have hK := hE.1
  obtain ⟨A, b, nb, sb, mr, v, d, rk, ta, ra, ca, am, cn, tq, bq, eq, kf, nf, mf, Mf, Gf, du, kd, nv, np, nt, ng, wf, df, wf2, df2, tf, tf2, f, g, hV, hMf, hGf, hw⟩ := hI
  refine lv_aload_n hx hb dL_law_407 rfl (lv_at hl 2 rfl) ?_
  refine lv_aload_n hx hb dL_law_408 rfl (lv_at hl 3 rfl) ?_
  refine lv_iload_n hx hb dL_law_409 rfl (lv_at hl 0 rfl) ?_
  refine lv_iconst (v := nI 1) hx hb dL_law_410 (by decide) ?_
  refine n_iadd hx hb dL_law_411 ?_
  refine n_sld hx hb hXs hbl hS (k := (6 * j) + 1) (by omega) hL dL_law_412 ?_
  refine lv_aload_n hx hb dL_law_413 rfl (lv_at hl 3 rfl) ?_
  refine lv_iload_n hx hb dL_law_414 rfl (lv_at hl 0 rfl) ?_
  refine lv_iconst (v := nI 2) hx hb dL_law_415 (by decide) ?_
  refine n_iadd hx hb dL_law_416 ?_
  refine n_sld hx hb hXs hbl hS (k := (6 * j) + 2) (by omega) hL dL_law_417 ?_
  have hwf := hw
  have hwf : wdH D s.heap.size (List.flatten [tkw ta N (N 0 1), fvb h A b nb sb v (N 0 4), shb ka (A 0) N ra, rdb ka (A 1) (d 0) rk du kd nv kf nf mf, vlw ka d np nt ng wf2 df2 tf2, rdw ka b N, ngb ka nb cn tq bq eq, trb (A 2) (C 4 60), sdw ka sb mr Mf Gf, vlw ka v (N 0 0) (N 0 1) (N 0 2) wf df tf, rows ka ra ca N C, mw ka hm am N C f g]) H := wdH.fr 10 rfl hwf
  have hwf : wdH D s.heap.size (List.flatten [vlw ka v (N 0 0) (N 0 1) (N 0 2) wf df tf, tkw ta N (N 0 1), fvb h A b nb sb v (N 0 4), shb ka (A 0) N ra, rdb ka (A 1) (d 0) rk du kd nv kf nf mf, vlw ka d np nt ng wf2 df2 tf2, rdw ka b N, ngb ka nb cn tq bq eq, trb (A 2) (C 4 60), sdw ka sb mr Mf Gf, rows ka ra ca N C, mw ka hm am N C f g]) H := wdH.fr 9 rfl hwf
  have hwf : wdH D s.heap.size (List.flatten [fvb h A b nb sb v (N 0 4), vlw ka v (N 0 0) (N 0 1) (N 0 2) wf df tf, tkw ta N (N 0 1), shb ka (A 0) N ra, rdb ka (A 1) (d 0) rk du kd nv kf nf mf, vlw ka d np nt ng wf2 df2 tf2, rdw ka b N, ngb ka nb cn tq bq eq, trb (A 2) (C 4 60), sdw ka sb mr Mf Gf, rows ka ra ca N C, mw ka hm am N C f g]) H := wdH.fr 2 rfl hwf
  have hkw : va_P D vwCl (kw ka v ta N wf df tf) H := kw_of (w := fvb h A b nb sb v (N 0 4)) (R := List.flatten [shb ka (A 0) N ra, rdb ka (A 1) (d 0) rk du kd nv kf nf mf, vlw ka d np nt ng wf2 df2 tf2, rdw ka b N, ngb ka nb cn tq bq eq, trb (A 2) (C 4 60), sdw ka sb mr Mf Gf, rows ka ra ca N C, mw ka hm am N C f g]) hwf.2.1
  refine vp_callSi (ro_runV (c_X10_drain l D ka h A b nb sb v ta N wf df tf hV hN.1 hN.2 (xs ((6 * j) + 1)) _ rfl (xs ((6 * j) + 2)) _ rfl (List.flatten [vlw ka v (N 0 0) (N 0 1) (N 0 2) wf df tf, tkw ta N (N 0 1), shb ka (A 0) N ra, rdb ka (A 1) (d 0) rk du kd nv kf nf mf, vlw ka d np nt ng wf2 df2 tf2, rdw ka b N, ngb ka nb cn tq bq eq, trb (A 2) (C 4 60), sdw ka sb mr Mf Gf, rows ka ra ca N C, mw ka hm am N C f g])) X wd_354 wd_351 wd_352 wd_353 wd_1 on_X10_drain ⟨Nat.le_of_ble_eq_true rfl, Nat.le_of_ble_eq_true rfl⟩ (va_recv hK hwf.2.1 (ci := 10) (q0 := 0) rfl rfl) ⟨hwf.2.1, hkw⟩ hl.1 rfl (Nat.le_of_ble_eq_true rfl) ⟨(by show ce ≤ 600000; omega), (by show sl ≤ 7302250; omega)⟩ dL_law_418) (fun r_1 hr_1 => ?_)
  subst hr_1
  refine lv_aload_n hx hb dL_law_421 rfl (lv_at hl 1 rfl) ?_
  refine lv_aload_n hx hb dL_law_422 rfl (lv_at hl 3 rfl) ?_
  refine lv_iload_n hx hb dL_law_423 rfl (lv_at hl 0 rfl) ?_
  refine lv_iconst (v := nI 1) hx hb dL_law_424 (by decide) ?_
  refine n_iadd hx hb dL_law_425 ?_
  refine n_sld hx hb hXs hbl hS (k := (6 * j) + 1) (by omega) hL dL_law_426 ?_
  refine lv_aload_n hx hb dL_law_427 rfl (lv_at hl 3 rfl) ?_
  refine lv_iload_n hx hb dL_law_428 rfl (lv_at hl 0 rfl) ?_
  refine lv_iconst (v := nI 2) hx hb dL_law_429 (by decide) ?_
  refine n_iadd hx hb dL_law_430 ?_
  refine n_sld hx hb hXs hbl hS (k := (6 * j) + 2) (by omega) hL dL_law_431 ?_
  have hwm := hw
  have hwm : wdH D s.heap.size (List.flatten [mw ka hm am N C f g, fvb h A b nb sb v (N 0 4), shb ka (A 0) N ra, rdb ka (A 1) (d 0) rk du kd nv kf nf mf, vlw ka d np nt ng wf2 df2 tf2, rdw ka b N, ngb ka nb cn tq bq eq, trb (A 2) (C 4 60), sdw ka sb mr Mf Gf, vlw ka v (N 0 0) (N 0 1) (N 0 2) wf df tf, rows ka ra ca N C, tkw ta N (N 0 1)]) H := wdH.fr 11 rfl hwm
  refine vp_callSi (ro_runV (c_X11_drain l D ka hm am N C f g (List.flatten [fvb h A b nb sb v (N 0 4), shb ka (A 0) N ra, rdb ka (A 1) (d 0) rk du kd nv kf nf mf, vlw ka d np nt ng wf2 df2 tf2, rdw ka b N, ngb ka nb cn tq bq eq, trb (A 2) (C 4 60), sdw ka sb mr Mf Gf, vlw ka v (N 0 0) (N 0 1) (N 0 2) wf df tf, rows ka ra ca N C, tkw ta N (N 0 1)]) (xs ((6 * j) + 1)) (xs ((6 * j) + 2)) _ _ rfl rfl hN.1) X wd_864 wd_861 wd_862 wd_863 wd_8 on_X11_drain ⟨Nat.le_of_ble_eq_true rfl, Nat.le_of_ble_eq_true rfl⟩ (va_recv hK hwm.2.1 (ci := 11) (q0 := 0) rfl rfl) hwm.2.1 hl.1 rfl (Nat.le_of_ble_eq_true rfl) ⟨(by show ce ≤ 600000; omega), (by show sl ≤ 7302250; omega)⟩ dL_law_432) (fun r_2 hr_2 => ?_)
  subst hr_2
  refine lv_icmp_eq (tgt := 1234) hx hb dL_law_435 (by decide) (fun _ => ?_) (fun hne => absurd rfl hne)
  refine W.widen (k := ce + 60) (n := sl + 180) (by omega) (by omega) ?_
  exact kk _ _ H locs ls hN ⟨A, b, nb, sb, mr, v, d, rk, ta, ra, ca, am, cn, tq, bq, eq, kf, nf, mf, Mf, Gf, du, kd, nv, np, nt, ng, wf, df, wf2, df2, tf, tf2, f, g, hV, hMf, hGf, hw⟩ hS hl
