set_option maxRecDepth 100000 in
set_option maxHeartbeats 8000000 in
theorem whole_start {p : Program} {e : Env} {s : State} {m : MethodId} {below : List Frame} {meth : Method} {c : Code} (l : Launch) {b L : Nat} {xs : Nat → Int32} (hL : L ≤ 384) (C0 : lw_At p s m meth c b L xs) : W p l e room_1 s m #[Value.ref b] below meth c s.heap [] 0 0 (lw_Z below #[Value.ref b] s) (entryFrame m ([Value.ref b] : List Value).toArray 4) := by
  obtain ⟨hx, hb, hr, hml, hown, htl, hXs, hbl, hlocks, hgv⟩ := id C0
  have hs := flat_of_before _ hgv
  have hts : ∀ w ∈ gtb, w.before #[Value.ref b] s = true := fun w h => htl w (List.mem_filter.mp h).1
  obtain ⟨c0, i0, hn0⟩ := u_known (C := RX0) (T := TX0) (N := 4) (n := 4) hts inX0 (hts _ wd_117)
  obtain ⟨c1, i1, hn1⟩ := u_known (C := RX1) (T := TX1) (N := 7) (n := 7) hts inX1 (hts _ wd_26)
  obtain ⟨c2, i2, hn2⟩ := u_known (C := RX2) (T := TX2) (N := 4) (n := 4) hts inX2 (hts _ wd_97)
  obtain ⟨c3, i3, hn3⟩ := u_known (C := RX3) (T := TX3) (N := 2) (n := 2) hts inX3 (hts _ wd_562)
  obtain ⟨c4, i4, hn4⟩ := u_known (C := RX4) (T := TX4) (N := 2) (n := 2) hts inX4 (hts _ wd_136)
  obtain ⟨c5, i5, hn5⟩ := u_known (C := RX5) (T := TX5) (N := 3) (n := 3) hts inX5 (hts _ wd_261)
  obtain ⟨c6, i6, hn6⟩ := u_known (C := RX6) (T := TX6) (N := 3) (n := 3) hts inX6 (hts _ wd_298)
  obtain ⟨c7, i7, hn7⟩ := u_known (C := RX7) (T := TX7) (N := 1) (n := 1) hts inX7 (hts _ wd_151)
  obtain ⟨c8, i8, hn8⟩ := u_known (C := RX8) (T := TX8) (N := 6) (n := 6) hts inX8 (hts _ wd_32)
  obtain ⟨c9, i9, hn9⟩ := u_known (C := RX9) (T := TX9) (N := 3) (n := 3) hts inX9 (hts _ wd_288)
  obtain ⟨c10, i10, hn10⟩ := u_known (C := RX10) (T := TX10) (N := 8) (n := 8) hts inX10 (hts _ wd_16)
  obtain ⟨c11, i11, hn11⟩ := u_known (C := RX11) (T := TX11) (N := 35) (n := 35) hts inX11 (hts _ wd_669)
  obtain ⟨D, hKc⟩ : ∃ D : va_G, ∀ (k : Nat) (q : vw_C), vwCl[k]? = some q → u_Kn s q.1 q.2.1 q.2.2 (D.1 k) (D.2 k) := by
    refine ⟨((fun k => match k with | 0 => c0 | 1 => c1 | 2 => c2 | 3 => c3 | 4 => c4 | 5 => c5 | 6 => c6 | 7 => c7 | 8 => c8 | 9 => c9 | 10 => c10 | _ => c11), (fun k => match k with | 0 => i0 | 1 => i1 | 2 => i2 | 3 => i3 | 4 => i4 | 5 => i5 | 6 => i6 | 7 => i7 | 8 => i8 | 9 => i9 | 10 => i10 | _ => i11)), ?_⟩
    intro k q hq
    match k, hq with
    | 0, hq => cases hq; exact hn0
    | 1, hq => cases hq; exact hn1
    | 2, hq => cases hq; exact hn2
    | 3, hq => cases hq; exact hn3
    | 4, hq => cases hq; exact hn4
    | 5, hq => cases hq; exact hn5
    | 6, hq => cases hq; exact hn6
    | 7, hq => cases hq; exact hn7
    | 8, hq => cases hq; exact hn8
    | 9, hq => cases hq; exact hn9
    | 10, hq => cases hq; exact hn10
    | 11, hq => cases hq; exact hn11
    | k + 12, hq => simp [vwCl] at hq
  obtain ⟨a0, k0, m0, ha0, hk0, hd0⟩ := Cond.arrayClass_spec (hts _ wd_73)
  obtain ⟨m1, a1, k1, ha1, -, hk1, hd1, hf1⟩ := Cond.arrayOver_spec (htl _ wd_24)
  obtain ⟨m2, a2, k2, ha2, -, hk2, hd2, hf2⟩ := Cond.arrayOver_spec (htl _ wd_38)
  obtain ⟨m3, a3, k3, ha3, hk3, hd3, hf3⟩ := Cond.arrayOver_specA (htl _ wd_142)
  obtain ⟨ka, hka0, hka1, hka2, hka3⟩ : ∃ ka : Nat → ClassId, ka 0 = a0 ∧ ka 1 = a1 ∧ ka 2 = a2 ∧ ka 3 = a3 := ⟨fun k => match k with | 0 => a0 | 1 => a1 | 2 => a2 | _ => a3, rfl, rfl, rfl, rfl⟩
  subst hka0 hka1 hka2 hka3
  have hK : va_K D vwCl (tysOf ka) s := by
    refine ⟨hKc, fun k q hq => ?_⟩
    match k, hq with
    | 0, hq => cases hq; exact ⟨fun N9 z9 => ⟨(fun q hq => by cases hq), k0, hk0, m0, hd0⟩, ha0⟩
    | 1, hq => cases hq; exact ⟨fun N9 z9 => ⟨(fun q hq => by cases hq), k1, hk1, m1, hd1⟩, k1, m1, hk1, hd1, ha1, hf1⟩
    | 2, hq => cases hq; exact ⟨fun N9 z9 => ⟨(fun q hq => by cases hq), k2, hk2, m2, hd2⟩, k2, m2, hk2, hd2, ha2, hf2⟩
    | 3, hq => cases hq; exact ⟨fun N9 z9 => ⟨(fun q hq => by cases hq), k3, hk3, m3, hd3⟩, hf3⟩
    | k + 4, hq => simp [tysOf] at hq
  have hE : EK D ka s := by
    refine ⟨hK, ?_, ?_, ?_, va_AO.of (htl _ wd_24), va_AO.of (htl _ wd_38), htl _ wd_142⟩
    · intro q hq
      simp only [nestM, List.mem_cons, List.not_mem_nil, or_false] at hq
      rcases hq with rfl | rfl | rfl | rfl | rfl | rfl | rfl | rfl | rfl
      · exact va_Nw.of rfl (htl _ wd_27)
      · exact va_Nw.of rfl (htl _ wd_33)
      · exact va_Nw.of rfl (htl _ wd_98)
      · exact va_Nw.of rfl (htl _ wd_118)
      · exact va_Nw.of rfl (htl _ wd_137)
      · exact va_Nw.of rfl (htl _ wd_152)
      · exact va_Nw.of rfl (htl _ wd_162)
      · exact va_Nw.of rfl (htl _ wd_257)
      · exact va_Nw.of rfl (htl _ wd_436)
    · intro q hq
      simp only [castW, List.mem_cons, List.not_mem_nil, or_false] at hq
      rcases hq with rfl | rfl | rfl
      · exact va_Nw.of rfl (htl _ wd_1017)
      · exact va_Nw.of rfl (htl _ wd_1018)
      · exact va_Nw.of rfl (htl _ wd_1019)
    · intro q hq
      simp only [ncastW, List.mem_cons, List.not_mem_nil, or_false] at hq
      rcases hq with rfl | rfl | rfl
      · exact va_Nc.of (hs (Cond.not (.castable "FourVault$Taker" "FourVault$Singer")) (by decide +kernel))
      · exact va_Nc.of (hs (Cond.not (.castable "FourVault$Taker" "FourVault$Widow")) (by decide +kernel))
      · exact va_Nc.of (hs (Cond.not (.castable "FourVault$Singer" "FourVault$Widow")) (by decide +kernel))
  have X : Cx p s m #[Value.ref b] c cL_law 4 RL D ka := ⟨hx, hb, hml, hown, hts, hE⟩
  have hS : va_S (fun q : Nat => s.heap.size ≤ q) s.heap s.heap [] := va_S.rf
  have hz0 : s.heap.size ≤ s.heap.size := Nat.le_refl _
  have hw : wdH D s.heap.size (([] : va_W) ++ ([] : va_W)) s.heap := ⟨Nat.le_refl _, fun k q h => by simp at h, ⟨fun i j p q h => by simp at h, fun k q h => by simp at h⟩⟩
  have hl := lv_entry ([.ref b]) (n := 4) (Nat.le_of_ble_eq_true rfl)
  rw [lg_entry_eq]
  generalize (lg_sl ([.ref b]) ++ List.replicate (4 - (lg_sl ([.ref b])).length) Slot.unset).toArray = ls at hl ⊢
  have hl : lv_has ls 4 [(0, .ref b)] := hl
  refine n_new (L := []) (Rw := ([] : va_W)) X (C := RX10) (T := TX10) (N := 8) (ci := 10) inX10 tyX10 tyX10_ok wd_15 wd_16 wd_1 hw hS hz0 rfl (fs := [.null, .null, .null, .null, .null, .null, .null, .int 0]) (fun j hj => by rcases (show j = 0 ∨ j = 1 ∨ j = 2 ∨ j = 3 ∨ j = 4 ∨ j = 5 ∨ j = 6 ∨ j = 7 by omega) with rfl | rfl | rfl | rfl | rfl | rfl | rfl | rfl <;> rfl) (Nat.le_of_ble_eq_true rfl) (Nat.le_of_ble_eq_true rfl) dL_law_0 (fun q_1 H hw hS => ?_)
  have hw : wdH D s.heap.size (([(q_1, .inr (10, [.null, .null, .null, .null, .null, .null, .null, .int 0]))] : va_W) ++ ([] : va_W)) H := hw
  refine lv_dup hx hb dL_law_3 rfl ?_
  refine mu_v (mu_runI (c_X10_init l D ka s.heap.size q_1 ([] : va_W)) X wd_19 wd_17 wd_18 wd_1 rfl on_X10_init ⟨Nat.le_of_ble_eq_true rfl, Nat.le_of_ble_eq_true rfl⟩ hw hl.1 rfl (Nat.le_of_ble_eq_true rfl) ⟨Nat.le_of_ble_eq_true rfl, Nat.le_of_ble_eq_true rfl⟩ dL_law_4) hS (fun u_2 H locs hp_u_2 hw hS => ?_)
  obtain ⟨A, rb, nb, sb, mr, v, d, rk, rfl⟩ := hp_u_2
  refine lv_astore_n (lv' := [(1, .ref q_1), (0, .ref b)]) hx hb dL_law_7 rfl hl (by decide) rfl (fun ls hl => ?_)
  refine n_new (L := []) (Rw := (([(q_1, .inr (10, [.ref (A 0), .ref (A 1), .ref (rb 0), .ref (nb 0), .ref (sb 0), .ref (A 2), .ref (v 0), .int (nI 0)])), ((A 0), .inl (ka 1, 4, .inr (.inr (.inr (.inr (fun _ => none)))))), ((A 1), .inr (1, [.ref (d 0), .ref (rk 0), .ref (rk 1), .ref (rk 2), .int 0, .int 0, .int 0])), ((rk 0), .inl (ka 0, 5, .inl (fun _ => 0))), ((rk 1), .inl (ka 0, 5, .inl (fun _ => 0))), ((rk 2), .inl (ka 0, 5, .inl (fun _ => 0))), ((d 0), .inr (8, [.ref (d 1), .ref (d 2), .ref (d 3), .int (nI 0), .int (nI 0), .int (nI 0)])), ((d 1), .inl (ka 0, 6, .inl (fun _ => 0))), ((d 2), .inl (ka 2, 5, .inr (.inr (.inr (.inr (fun _ => none)))))), ((d 3), .inl (ka 0, 5, .inl (fun _ => 0))), ((rb 0), .inr (2, [.ref (rb 1), .ref (rb 2), .ref (rb 3), .int 0])), ((rb 1), .inl (ka 0, 8, .inl (fun _ => 0))), ((rb 2), .inl (ka 0, 8, .inl (fun _ => 0))), ((rb 3), .inl (ka 0, 8, .inl (fun _ => 0))), ((nb 0), .inr (0, [.ref (nb 1), .ref (nb 2), .ref (nb 3), .int 0])), ((nb 1), .inl (ka 0, 20, .inl (fun _ => 0))), ((nb 2), .inl (ka 0, 20, .inl (fun _ => 0))), ((nb 3), .inl (ka 0, 20, .inl (fun _ => 0))), ((A 2), .inr (7, [.int 0])), ((sb 0), .inr (4, [.ref (sb 1), .ref (sb 2)])), ((sb 1), .inl (ka 3, 6, .inr (.inr (.inr (.inr (fun i => if i < 6 then some (mr i) else none)))))), ((sb 2), .inl (ka 0, 5, .inl (fun j => nI 0))), ((mr 0), .inl (ka 0, 32, .inl (fun j => nI 0))), ((mr 1), .inl (ka 0, 32, .inl (fun j => nI 0))), ((mr 2), .inl (ka 0, 32, .inl (fun j => nI 0))), ((mr 3), .inl (ka 0, 32, .inl (fun j => nI 0))), ((mr 4), .inl (ka 0, 32, .inl (fun j => nI 0))), ((mr 5), .inl (ka 0, 32, .inl (fun j => nI 0))), ((v 0), .inr (8, [.ref (v 1), .ref (v 2), .ref (v 3), .int (nI 0), .int (nI 0), .int (nI 0)])), ((v 1), .inl (ka 0, 6, .inl (fun _ => 0))), ((v 2), .inl (ka 2, 5, .inr (.inr (.inr (.inr (fun _ => none)))))), ((v 3), .inl (ka 0, 5, .inl (fun _ => 0)))] : va_W) ++ ([] : va_W))) X (C := RX11) (T := TX11) (N := 35) (ci := 11) inX11 tyX11 tyX11_ok wd_668 wd_669 wd_8 hw hS hz0 rfl (fs := [.int 0, .int 0, .null, .null, .null, .int 0, .int 0, .int 0, .null, .null, .null, .null, .null, .int 0, .int 0, .int 0, .int 0, .null, .null, .null, .null, .null, .int 0, .int 0, .int 0, .null, .null, .null, .null, .null, .null, .int 0, .null, .null, .null]) (fun j hj => by rcases (show j = 0 ∨ j = 1 ∨ j = 2 ∨ j = 3 ∨ j = 4 ∨ j = 5 ∨ j = 6 ∨ j = 7 ∨ j = 8 ∨ j = 9 ∨ j = 10 ∨ j = 11 ∨ j = 12 ∨ j = 13 ∨ j = 14 ∨ j = 15 ∨ j = 16 ∨ j = 17 ∨ j = 18 ∨ j = 19 ∨ j = 20 ∨ j = 21 ∨ j = 22 ∨ j = 23 ∨ j = 24 ∨ j = 25 ∨ j = 26 ∨ j = 27 ∨ j = 28 ∨ j = 29 ∨ j = 30 ∨ j = 31 ∨ j = 32 ∨ j = 33 ∨ j = 34 by omega) with rfl | rfl | rfl | rfl | rfl | rfl | rfl | rfl | rfl | rfl | rfl | rfl | rfl | rfl | rfl | rfl | rfl | rfl | rfl | rfl | rfl | rfl | rfl | rfl | rfl | rfl | rfl | rfl | rfl | rfl | rfl | rfl | rfl | rfl | rfl <;> rfl) (Nat.le_of_ble_eq_true rfl) (Nat.le_of_ble_eq_true rfl) dL_law_8 (fun q_3 H hw hS => ?_)
  have hw : wdH D s.heap.size (([(q_3, .inr (11, [.int 0, .int 0, .null, .null, .null, .int 0, .int 0, .int 0, .null, .null, .null, .null, .null, .int 0, .int 0, .int 0, .int 0, .null, .null, .null, .null, .null, .int 0, .int 0, .int 0, .null, .null, .null, .null, .null, .null, .int 0, .null, .null, .null]))] : va_W) ++ (([(q_1, .inr (10, [.ref (A 0), .ref (A 1), .ref (rb 0), .ref (nb 0), .ref (sb 0), .ref (A 2), .ref (v 0), .int (nI 0)])), ((A 0), .inl (ka 1, 4, .inr (.inr (.inr (.inr (fun _ => none)))))), ((A 1), .inr (1, [.ref (d 0), .ref (rk 0), .ref (rk 1), .ref (rk 2), .int 0, .int 0, .int 0])), ((rk 0), .inl (ka 0, 5, .inl (fun _ => 0))), ((rk 1), .inl (ka 0, 5, .inl (fun _ => 0))), ((rk 2), .inl (ka 0, 5, .inl (fun _ => 0))), ((d 0), .inr (8, [.ref (d 1), .ref (d 2), .ref (d 3), .int (nI 0), .int (nI 0), .int (nI 0)])), ((d 1), .inl (ka 0, 6, .inl (fun _ => 0))), ((d 2), .inl (ka 2, 5, .inr (.inr (.inr (.inr (fun _ => none)))))), ((d 3), .inl (ka 0, 5, .inl (fun _ => 0))), ((rb 0), .inr (2, [.ref (rb 1), .ref (rb 2), .ref (rb 3), .int 0])), ((rb 1), .inl (ka 0, 8, .inl (fun _ => 0))), ((rb 2), .inl (ka 0, 8, .inl (fun _ => 0))), ((rb 3), .inl (ka 0, 8, .inl (fun _ => 0))), ((nb 0), .inr (0, [.ref (nb 1), .ref (nb 2), .ref (nb 3), .int 0])), ((nb 1), .inl (ka 0, 20, .inl (fun _ => 0))), ((nb 2), .inl (ka 0, 20, .inl (fun _ => 0))), ((nb 3), .inl (ka 0, 20, .inl (fun _ => 0))), ((A 2), .inr (7, [.int 0])), ((sb 0), .inr (4, [.ref (sb 1), .ref (sb 2)])), ((sb 1), .inl (ka 3, 6, .inr (.inr (.inr (.inr (fun i => if i < 6 then some (mr i) else none)))))), ((sb 2), .inl (ka 0, 5, .inl (fun j => nI 0))), ((mr 0), .inl (ka 0, 32, .inl (fun j => nI 0))), ((mr 1), .inl (ka 0, 32, .inl (fun j => nI 0))), ((mr 2), .inl (ka 0, 32, .inl (fun j => nI 0))), ((mr 3), .inl (ka 0, 32, .inl (fun j => nI 0))), ((mr 4), .inl (ka 0, 32, .inl (fun j => nI 0))), ((mr 5), .inl (ka 0, 32, .inl (fun j => nI 0))), ((v 0), .inr (8, [.ref (v 1), .ref (v 2), .ref (v 3), .int (nI 0), .int (nI 0), .int (nI 0)])), ((v 1), .inl (ka 0, 6, .inl (fun _ => 0))), ((v 2), .inl (ka 2, 5, .inr (.inr (.inr (.inr (fun _ => none)))))), ((v 3), .inl (ka 0, 5, .inl (fun _ => 0)))] : va_W) ++ ([] : va_W))) H := hw
  refine lv_dup hx hb dL_law_11 rfl ?_
  refine mu_v (mu_runI (c_X11_init l D ka s.heap.size q_3 (([(q_1, .inr (10, [.ref (A 0), .ref (A 1), .ref (rb 0), .ref (nb 0), .ref (sb 0), .ref (A 2), .ref (v 0), .int (nI 0)])), ((A 0), .inl (ka 1, 4, .inr (.inr (.inr (.inr (fun _ => none)))))), ((A 1), .inr (1, [.ref (d 0), .ref (rk 0), .ref (rk 1), .ref (rk 2), .int 0, .int 0, .int 0])), ((rk 0), .inl (ka 0, 5, .inl (fun _ => 0))), ((rk 1), .inl (ka 0, 5, .inl (fun _ => 0))), ((rk 2), .inl (ka 0, 5, .inl (fun _ => 0))), ((d 0), .inr (8, [.ref (d 1), .ref (d 2), .ref (d 3), .int (nI 0), .int (nI 0), .int (nI 0)])), ((d 1), .inl (ka 0, 6, .inl (fun _ => 0))), ((d 2), .inl (ka 2, 5, .inr (.inr (.inr (.inr (fun _ => none)))))), ((d 3), .inl (ka 0, 5, .inl (fun _ => 0))), ((rb 0), .inr (2, [.ref (rb 1), .ref (rb 2), .ref (rb 3), .int 0])), ((rb 1), .inl (ka 0, 8, .inl (fun _ => 0))), ((rb 2), .inl (ka 0, 8, .inl (fun _ => 0))), ((rb 3), .inl (ka 0, 8, .inl (fun _ => 0))), ((nb 0), .inr (0, [.ref (nb 1), .ref (nb 2), .ref (nb 3), .int 0])), ((nb 1), .inl (ka 0, 20, .inl (fun _ => 0))), ((nb 2), .inl (ka 0, 20, .inl (fun _ => 0))), ((nb 3), .inl (ka 0, 20, .inl (fun _ => 0))), ((A 2), .inr (7, [.int 0])), ((sb 0), .inr (4, [.ref (sb 1), .ref (sb 2)])), ((sb 1), .inl (ka 3, 6, .inr (.inr (.inr (.inr (fun i => if i < 6 then some (mr i) else none)))))), ((sb 2), .inl (ka 0, 5, .inl (fun j => nI 0))), ((mr 0), .inl (ka 0, 32, .inl (fun j => nI 0))), ((mr 1), .inl (ka 0, 32, .inl (fun j => nI 0))), ((mr 2), .inl (ka 0, 32, .inl (fun j => nI 0))), ((mr 3), .inl (ka 0, 32, .inl (fun j => nI 0))), ((mr 4), .inl (ka 0, 32, .inl (fun j => nI 0))), ((mr 5), .inl (ka 0, 32, .inl (fun j => nI 0))), ((v 0), .inr (8, [.ref (v 1), .ref (v 2), .ref (v 3), .int (nI 0), .int (nI 0), .int (nI 0)])), ((v 1), .inl (ka 0, 6, .inl (fun _ => 0))), ((v 2), .inl (ka 2, 5, .inr (.inr (.inr (.inr (fun _ => none)))))), ((v 3), .inl (ka 0, 5, .inl (fun _ => 0)))] : va_W) ++ ([] : va_W))) X wd_672 wd_670 wd_671 wd_8 rfl on_X11_init ⟨Nat.le_of_ble_eq_true rfl, Nat.le_of_ble_eq_true rfl⟩ hw hl.1 rfl (Nat.le_of_ble_eq_true rfl) ⟨Nat.le_of_ble_eq_true rfl, Nat.le_of_ble_eq_true rfl⟩ dL_law_12) hS (fun u_4 H locs hp_u_4 hw hS => ?_)
  obtain ⟨am, rfl⟩ := hp_u_4
  refine lv_astore_n (lv' := [(2, .ref q_3), (1, .ref q_1), (0, .ref b)]) hx hb dL_law_15 rfl hl (by decide) rfl (fun ls hl => ?_)
  refine lv_iconst (v := nI 0) hx hb dL_law_16 (by decide) ?_
  refine lv_istore_n (lv' := [(3, .int (nI 0)), (2, .ref q_3), (1, .ref q_1), (0, .ref b)]) hx hb dL_law_17 rfl hl (by decide) rfl (fun ls hl => ?_)
  have hw : wdH D s.heap.size (List.flatten [mw ka q_3 am NI CI (fun _ => 0) (fun _ _ => 0), fvb q_1 A rb nb sb v (NI 0 4), shb ka (A 0) NI (fun _ => 0), rdb ka (A 1) (d 0) rk 0 0 0 (fun _ => 0) (fun _ => 0) (fun _ => 0), vlw ka d 0 0 0 (fun _ => 0) (fun _ => 0) (fun _ => none), rdw ka rb NI, ngb ka nb 0 (fun _ => 0) (fun _ => 0) (fun _ => 0), trb (A 2) (CI 4 60), sdw ka sb mr (fun _ _ => 0) (fun _ => 0), vlw ka v (NI 0 0) (NI 0 1) (NI 0 2) (fun _ => 0) (fun _ => 0) (fun _ => none), rows ka (fun _ => 0) (fun _ => 0) NI CI, tkw (fun _ => 0) NI (NI 0 1)]) H := by
    unfold shb
    rw [shf_NI]
    exact hw
  have hw := wdH.bk 11 hw
  refine W.widen (k := 100 + 60 * 0) (n := 1000 + 180 * 0) (Nat.le_of_ble_eq_true rfl) (Nat.le_of_ble_eq_true rfl) ?_
  exact law_loop hL C0 X (L + 1) 0 NI CI H locs ls (by omega) (by omega) OK_NI ⟨A, rb, nb, sb, mr, v, d, rk, (fun _ => 0), (fun _ => 0), (fun _ => 0), am, 0, (fun _ => 0), (fun _ => 0), (fun _ => 0), (fun _ => 0), (fun _ => 0), (fun _ => 0), (fun _ _ => 0), (fun _ => 0), 0, 0, 0, 0, 0, 0, (fun _ => 0), (fun _ => 0), (fun _ => 0), (fun _ => 0), (fun _ => none), (fun _ => none), (fun _ => 0), (fun _ _ => 0), ⟨fun j hj => absurd hj (Nat.not_lt_zero _), fun j hj => absurd hj (Nat.not_lt_zero _), fun j hj => absurd hj (Nat.not_lt_zero _)⟩, fun _ _ => Nat.zero_le _, fun _ => (show (0 : Nat) < 32 by decide), hw⟩ hS (lv_sub hl [0, 1, 2, 3] rfl)
set_option maxHeartbeats 4000000 in
theorem lw_walk (l : Launch) (b : Addr) (xs : List Int32) : MetFree l x (headSpec (Jvm.Cond.code x code maxLocals ret :: tables_1) room_1) (lw_P b xs) (fun _ _ _ _ _ => True) lw_Q := by
  refine MetFree.of_bodyS (code := code) (maxLocals := maxLocals) (ret := ret) (by decide) ?_ ?_
  · intro args s m h hn
    obtain ⟨meth, c, h1, h2, h3, h4, h5, h6, -, -⟩ := Cond.code_spec hn (atoms_spec (ws := Jvm.Cond.code x code maxLocals ret :: tables_1) h _ List.mem_cons_self)
    exact ⟨meth, c, h1, h2, h3, h4, h5, h6⟩
  · intro p e s m args below meth c s₁ B hml0 hP _
    obtain ⟨rfl, hx, hbd, hgv⟩ := hP
    obtain ⟨scr, harrAt, hlist, hof, hsmall⟩ := hx
    obtain ⟨hcb, hkn, -, -⟩ := State.arrayAt?_spec harrAt
    have hown : s.vm.findClass R_law = some m.cls := findClass_of_methodNamed B.named
    have hts0 : ∀ c ∈ (Jvm.Cond.code x code maxLocals ret :: tables_1), c.before #[Value.ref b] s = true := atoms_spec (ws := Jvm.Cond.code x code maxLocals ret :: tables_1) B.pre
    have hts : ∀ w ∈ lw_tbl, w.before #[Value.ref b] s = true := k2_hts_sels lw_privs (fun w hw => hts0 w (List.mem_cons_of_mem _ hw)) lw_privs_ok
    have hml : c.maxLocals = 4 := B.maxLocals_eq (hts0 _ List.mem_cons_self)
    have X₀ : Stand p l e room_1 s m #[Value.ref b] below meth c s₁ [] 0 0 := Stand.of_body B
    have hh0 : s₁.heap = s.heap := by rw [B.state]; rfl
    have hsz : scr.slots.size = xs.length := by rw [← Array.length_toList, hlist, List.length_map]
    have hval : ∀ j : Nat, j < xs.length → scr.slots[j]? = some (.int (xs.getD j 0)) := fun j hj => by
      rw [← Array.getElem?_toList, hlist]
      simp [hj]
    have hbl : b < s.heap.size := (Array.getElem?_eq_some_iff.mp hcb).1
    have hX : va_X b xs.length (fun j => xs.getD j 0) s s.heap := ⟨scr, hcb, hof, hkn, hsz, hval⟩
    have K : W p l e room_1 s m #[Value.ref b] below meth c s₁.heap [] 0 0 (lw_Z below #[Value.ref b] s) (entryFrame m ([Value.ref b] : List Value).toArray 4) := by
      rw [hh0]
      exact whole_start l hbd ⟨B.exec, B.bytes, B.returns, hml, hown, hts, hX, hbl, B.notSynchronized, hgv⟩
    obtain ⟨t, a1, o, b1, b2, b3⟩ := K s₁ rfl X₀
    exact ⟨t, o, a1, b1, b2, b3⟩
theorem lw_pre_spec {args : Array Value} {s : State} (h : (Jvm.Cond.and given_1 narrow_1).before args s = true) (hr : rest_1_c.before args s = true) : ∃ (b : Addr) (xs : List Int32), lw_P b xs args s := by
  have hs := flat_of_before _ h
  have hq := flat_of_before _ hr
  have hc : (Cond.count 1).before args s = true := hs _ (by decide +kernel)
  have harr : (Cond.arrayOf (.arg 0) .int).before args s = true := hs _ (by decide +kernel)
  have hle : (Cond.le (.length (.arg 0)) (.int 384)).before args s = true := hs _ (by decide +kernel)
  have hlen : (Cond.isInt (.length (.arg 0))).before args s = true := hq _ (by decide +kernel)
  have hall : (Cond.all (.arg 0) (.isInt (.elem (.arg 0) (.index 0)))).before args s = true := hq _ (by decide +kernel)
  obtain ⟨b, xs, hb, hx⟩ := State.ints_of_pre rfl harr hlen hall
  have hsm : xs.length < 2 ^ 31 := hx.choose_spec.2.2.2
  have hev : (Term.length (.arg 0)).eval args s none [] s = some (.int xs.length.toInt32) := hx.length_eval hb
  have hv := Cond.le_ints hev (show (Term.int 384).eval args s none [] s = some (.int 384) from rfl)
  have hd : xs.length.toInt32 ≤ 384 := by
    simpa [Cond.before, Cond.holds, hv] using hle
  have hN : xs.length ≤ 384 := (Int32.ofNat_le_ofNat hsm (by decide)).mp (show Int32.ofNat xs.length ≤ Int32.ofNat 384 from hd)
  exact ⟨b, xs, Cond.one_arg hc (show args[0]? = some (.ref b) from hb), hx, hN, h⟩
theorem lw_comes (l : Launch) : Comes l x (Jvm.Cond.code x code maxLocals ret :: tables_1) room_1 (fun tb e args s => Calls_1 tb e args s ∧ rest_1 tb e args s ∧ Pre_1 tb e args s)
    (fun _ _ args s o t => lw_Q args s o t) := by
  intro p e ha hc hk s m args below hf hfit hheap happ hpre
  obtain ⟨b, xs, hP⟩ := lw_pre_spec hpre.2.2 hpre.2.1
  obtain ⟨k, o, h1, h2, h3, hQ⟩ := lw_walk l b xs p e ha hc hk s m args below hf ((Spec.applies_iff_loose hf).mp happ).1 hP trivial
  exact ⟨k, o, h1, h2, h3, hQ⟩
theorem lw_frame {s t : State} {o : Outcome} {args : Array Value} (h : Framed s o t [] 600000 7302250) :
    Framed s o t (fieldLocs frame_1_writes args s ++ arrayLocs frame_1_arrays args s ++ staticLocs frame_1_statics s) 600000 7302250 := h
theorem lw_limb (L : Cond) (hL : ∀ (args : Array Value) (s t : State), L.after args s (.returned (some (.int 1))) t = true) :
    ArmFor flags0 classFile x code maxLocals ret World_1 tables_1 room_1 Calls_1 rest_1 Pre_1
      (fun tb e a s o t => postC L tb e a s o t ∧ Framed s o t (fieldLocs frame_1_writes a s ++ arrayLocs frame_1_arrays a s ++ staticLocs frame_1_statics s) 600000 7302250) := by
  intro l _ _ _ p e ha hc hk s m args below hf hfit hheap happ hpre
  obtain ⟨k, o, h1, h2, h3, rfl, hF⟩ := lw_comes l p e ha hc hk s m args below hf hfit hheap happ hpre
  exact ⟨k, _, h1, h2, h3, hL args s _, lw_frame hF⟩
theorem i_vc : Claimed_1_1 ∧ Claimed_1_2 := ⟨lw_limb limb_1_1 (fun args s t => by simp [limb_1_1, Cond.after, Cond.holds, Cond.value]), lw_limb limb_1_2 (fun args s t => Cond.after_iff.mpr (by
  first | (rw [show limb_1_2 = Cond.eq .result (.int 1) from rfl, Cond.eq_ints (x := 1) (y := 1) rfl rfl]; simp; done) | (simp [limb_1_2, Cond.value, Term.eval]; done)))⟩

