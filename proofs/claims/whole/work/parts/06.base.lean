/-! ===== the ground: words, rooms, contracts that read and contracts that change ===== -/
def wsOf (y : MethodName) (cc : ByteArray) (n : Nat) (ret : Option FieldType) : List Cond := Cond.code y cc n ret :: gtb
theorem wsOf_good {y : MethodName} {cc : ByteArray} {n : Nat} {ret : Option FieldType} (hc : Cond.code y cc n ret ∈ gtb) : GoodIn gtb (wsOf y cc n ret) := by
  intro w hw
  rcases List.mem_cons.mp hw with rfl | h
  · exact ⟨hc, good_of_word (List.mem_filter.mp hc).2⟩
  · exact ⟨h, good_of_word (List.mem_filter.mp h).2⟩
abbrev rmz (d mc ms : Nat) : Room := { frames := d, cells := mc, slots := ms, locals := 36 * d }
abbrev tysOf (ka : Nat → ClassId) : List (ClassId × FieldType) := [(ka 0, .int), (ka 1, .object "FourVault$Row"), (ka 2, .object "FourVault$Taker"), (ka 3, .array .int)]
def yX8i : MethodName := ⟨"FourVault$Vault", "<init>", "()V"⟩
abbrev nestM : List (String × Nat × MethodName) := [("FourVault", 19, yX1_init), ("FourVault$Reader", 11, yX8_init), ("FourVault", 26, yX2_init), ("FourVault", 33, yX0_init), ("FourVault", 40, yX4_init), ("FourVault", 47, yX7_init), ("FourVault", 54, yX8_init), ("FourVault$Reader", 57, yX10_newTaker), ("FourVault$Night", 36, yX10_isMinute)]
abbrev castW : List (String × String) := [("FourVault$Widow", "FourVault$Singer"), ("FourVault$Singer", "FourVault$Taker"), ("FourVault$Widow", "FourVault$Taker")]
abbrev ncastW : List (String × String) := [("FourVault$Taker", "FourVault$Singer"), ("FourVault$Taker", "FourVault$Widow"), ("FourVault$Singer", "FourVault$Widow")]
def va_AOA (t : FieldType) (U : State) : Prop := (Cond.arrayOver (.array t)).before #[] U = true
theorem va_AOA.use {t : FieldType} {A : Array Value} {U : State} (h : va_AOA t U) : (Cond.arrayOver (.array t)).before A U = true := h
theorem va_AOA.moved {t : FieldType} {u U : State} (hvm : u.vm.Alike U.vm) (h : va_AOA t u) : va_AOA t U := (Cond.arrayOver_setVmC (args := #[]) (s := u) hvm (.array t)).trans h
/-- what is known of the classes, at a state -/
def EK (D : va_G) (ka : Nat → ClassId) (U : State) : Prop := va_K D vwCl (tysOf ka) U ∧ (∀ q ∈ nestM, va_Nw (.methodLinkNest q.1 q.2.1 q.2.2 "FourVault") U) ∧ (∀ q ∈ castW, va_Nw (.castable q.1 q.2) U) ∧ (∀ q ∈ ncastW, va_Nc q.1 q.2 U) ∧ va_AO "FourVault$Row" U ∧ va_AO "FourVault$Taker" U ∧ va_AOA .int U
theorem EK.warm {D : va_G} {ka : Nat → ClassId} {s U : State} (hW : s.WarmedH U.vm) (h : EK D ka s) : EK D ka U := by
  obtain ⟨h1, h2, h3, h4, h5, h6, h7⟩ := h
  exact ⟨va_K.moved hW.alike h1, fun q hq => (h2 q hq).warmM hW, fun q hq => (h3 q hq).warmC hW, fun q hq => (h4 q hq).moved hW.alike, h5.moved hW.alike, h6.moved hW.alike, h7.moved hW.alike⟩
theorem EK.calling {D : va_G} {ka : Nat → ClassId} {U : State} {g : JFrame} {mk : MethodId} {a : Array Value} (h : EK D ka U) : EK D ka (U.calling g mk a) := by
  obtain ⟨h1, h2, h3, h4, h5, h6, h7⟩ := h
  exact ⟨va_K.moved (u := U) (U := U.calling g mk a) (Vm.Alike.refl U.vm) h1, fun q hq => (h2 q hq).same rfl rfl, fun q hq => (h3 q hq).same rfl rfl, fun q hq => (h4 q hq).moved (u := U) (U := U.calling g mk a) (Vm.Alike.refl U.vm), h5.moved (u := U) (U := U.calling g mk a) (Vm.Alike.refl U.vm), h6.moved (u := U) (U := U.calling g mk a) (Vm.Alike.refl U.vm), h7.moved (u := U) (U := U.calling g mk a) (Vm.Alike.refl U.vm)⟩
/-- what is fixed in a walk -/
def Cx (p : Program) (s : State) (m : MethodId) (args : Array Value) (c : Code) (cc : ByteArray) (nL : Nat) (own : String) (D : va_G) (ka : Nat → ClassId) : Prop := p.tables.exec = Jvm.exec ∧ c.code = cc ∧ c.maxLocals = nL ∧ s.vm.findClass own = some m.cls ∧ (∀ w ∈ gtb, w.before args s = true) ∧ EK D ka s
/-- a method that reads -/
def RO (l : Launch) (D : va_G) (ka : Nat → ClassId) (y : MethodName) (cc : ByteArray) (nL : Nat) (ret : Option FieldType) (d : Nat) (av : List Value) (B : Heap → Prop) (Qc : Array Value → State → Outcome → State → Prop) : Prop :=
  Met l y (wsOf y cc nL ret) (rmz d 0 0) (va_Pc av (fun U => B U.heap ∧ EK D ka U)) Qc 0 0 (fun _ => False)
/-- the world: the cells ws are in the heap, apart, behind z -/
def wdH (D : va_G) (z : Nat) (ws : va_W) (H : Heap) : Prop := z ≤ H.size ∧ va_P D vwCl ws H ∧ va_D (fun q => z ≤ q) ws
/-- a method that changes -/
def MU (l : Launch) (D : va_G) (ka : Nat → ClassId) (z : Nat) (y : MethodName) (cc : ByteArray) (nL : Nat) (ret : Option FieldType) (d mc ms : Nat) (av : List Value) (ws : va_W) (Qc : Array Value → State → Outcome → State → Prop) : Prop :=
  Met l y (wsOf y cc nL ret) (rmz d mc ms) (va_Pc av (fun U => wdH D z ws U.heap ∧ EK D ka U)) Qc mc ms (fun q => z ≤ q)
abbrev Qi (D : va_G) (z : Nat) (post : Int32 → va_W → Prop) : Array Value → State → Outcome → State → Prop := va_Qi post (fun u t => wdH D z u t.heap) (fun q => z ≤ q)
abbrev Ql (D : va_G) (z : Nat) (post : Int64 → va_W → Prop) : Array Value → State → Outcome → State → Prop := va_Ql post (fun u t => wdH D z u t.heap) (fun q => z ≤ q)
abbrev Qv (D : va_G) (z : Nat) (post : va_W → Prop) : Array Value → State → Outcome → State → Prop := va_Qv post (fun u t => wdH D z u t.heap) (fun q => z ≤ q)
abbrev Qr (D : va_G) (z : Nat) (post : va_W → Nat → Prop) : Array Value → State → Outcome → State → Prop := va_Qr (S := va_W) (fun _ => True) (fun u a t => post u a ∧ wdH D z u t.heap) (fun q => z ≤ q)
section GR
variable {l : Launch} {D : va_G} {ka : Nat → ClassId} {y : MethodName} {cc : ByteArray} {nL : Nat} {ret : Option FieldType} {d z mc ms : Nat} {av : List Value} {B : Heap → Prop} {ws : va_W} {Qc : Array Value → State → Outcome → State → Prop}
theorem RO.of (hy : plainName y.cls = true) (hn : (lg_sl av).length ≤ nL) (body : ∀ (p : Program) (e : Env) (s : State) (m : MethodId) (args : Array Value) (below : List Frame) (meth : Method) (c : Code), Cx p s m args c cc nL y.cls D ka → meth.sig.returnType = ret → meth.locks = false → B s.heap → ∀ ls : Array Slot, lv_has ls nL (lv_args 0 av) → W p l e (rmz d 0 0) s m args below meth c s.heap [] 0 0 (MQ below Qc args s 0 0 (fun _ => False)) (F0 m 0 ls [])) : RO l D ka y cc nL ret d av B Qc := by
  refine Met.ofW (cc := cc) (maxL := nL) (ret := ret) hy rfl ?_
  intro p e s m args below meth c s₁ B' hml hv
  obtain ⟨rfl, hB, hE⟩ := hv
  rw [lg_entry_eq]
  exact body p e s m _ below meth c ⟨B'.exec, B'.bytes, hml, findClass_of_methodNamed B'.named, fun w h => atoms_spec (ws := wsOf y cc nL ret) B'.pre w (List.mem_cons_of_mem _ h), hE⟩ B'.returns B'.notSynchronized hB _ (lv_entry av hn)
theorem MU.of (hy : plainName y.cls = true) (hn : (lg_sl av).length ≤ nL) (body : ∀ (p : Program) (e : Env) (s : State) (m : MethodId) (args : Array Value) (below : List Frame) (meth : Method) (c : Code), Cx p s m args c cc nL y.cls D ka → meth.sig.returnType = ret → meth.locks = false → (y.name = "<init>" → meth.name = "<init>") → wdH D z ws s.heap → va_S (fun q => z ≤ q) s.heap s.heap [] → ∀ ls : Array Slot, lv_has ls nL (lv_args 0 av) → W p l e (rmz d mc ms) s m args below meth c s.heap [] 0 0 (MQ below Qc args s mc ms (fun q => z ≤ q)) (F0 m 0 ls [])) : MU l D ka z y cc nL ret d mc ms av ws Qc := by
  refine Met.ofW (cc := cc) (maxL := nL) (ret := ret) hy rfl ?_
  intro p e s m args below meth c s₁ B' hml hv
  obtain ⟨rfl, hB, hE⟩ := hv
  rw [lg_entry_eq]
  exact body p e s m _ below meth c ⟨B'.exec, B'.bytes, hml, findClass_of_methodNamed B'.named, fun w h => atoms_spec (ws := wsOf y cc nL ret) B'.pre w (List.mem_cons_of_mem _ h), hE⟩ B'.returns B'.notSynchronized (fun hi => by rw [← hi]; exact (name_of_methodNamed B'.named B'.method).1) hB va_S.rf _ (lv_entry av hn)
theorem RO.blind : FrameBlind (va_Pc av (fun U => B U.heap ∧ EK D ka U)) := fun _ _ _ _ q => ⟨q.1, q.2.1, q.2.2.calling⟩
theorem MU.blind : FrameBlind (va_Pc av (fun U => wdH D z ws U.heap ∧ EK D ka U)) := fun _ _ _ _ q => ⟨q.1, q.2.1, q.2.2.calling⟩
end GR
section GC
variable {p : Program} {l : Launch} {e : Env} {R : Room} {s : State} {m : MethodId} {args : Array Value} {below : List Frame} {meth : Method} {c : Code} {H : Heap} {locs : List Loc} {cells slots : Nat} {Q : State → Prop}
variable {D : va_G} {ka : Nat → ClassId} {y : MethodName} {cc bytes : ByteArray} {nL maxL : Nat} {ret : Option FieldType} {d z mc ms index pc : Nat} {ls : Array Slot} {As st rest : List Value} {own : String} {b : Nat}
variable {B : Heap → Prop} {ws : va_W} {Qc : Array Value → State → Outcome → State → Prop} {H0 : Heap}
abbrev okName (y : MethodName) (n : Nat) : Prop := y.cls ≠ "java/lang/invoke/MethodHandle" ∧ y.cls ≠ "java/lang/invoke/VarHandle" ∧ (parseMethodDescriptor y.desc).map (fun d => d.parameters.length) = some n
abbrev okRoom (R : Room) (d maxL : Nat) : Prop := d + 1 ≤ R.frames ∧ 8 + (maxL + 11) + 36 * d ≤ R.locals
theorem ro_runV (hM : RO l D ka y bytes maxL ret d (.ref b :: As) B Qc) (X : Cx p s m args c cc nL own D ka) (hcode : Cond.code y bytes maxL ret ∈ gtb) (hlink : Cond.methodLink own index y ∈ gtb) (hinst : Cond.instanceMethod y ∈ gtb) (hsel : Cond.selects y.cls y y ∈ gtb) (hini : Cond.initialized y.cls ∈ gtb) (hd : okName y As.length) (hR : okRoom R d maxL)
    (hrecv : ∃ cell : Cell, H[b]? = some cell ∧ cell.vm.isStatics = false ∧ s.vm.findClass y.cls = some cell.cls) (hB : B H) (hls : ls.size = nL) (hst : st = As.reverse ++ .ref b :: rest) (hW : (rest.map fun v => v.category).sum ≤ 8) (hf : cells ≤ R.cells ∧ slots ≤ R.slots) (hdg : decode cc pc = .ok (.invokevirtual index, 3)) :
    CallRun p l e R s m args below meth c H locs cells slots 0 0 (F0 m pc ls st) rest (Qc (Value.ref b :: As).toArray) (fun _ => False) := by
  obtain ⟨hx, hb, hml, hown, hts, hE⟩ := X
  exact (va_runV (Ts := gtb) (C := y.cls) ⟨hx, hb, hml, hown, hts⟩ hM ⟨callB_of As.length hts (wsOf_good hcode) rfl rfl rfl (hts _ hini) (hts _ hlink) hd hR, hts _ hinst, hts _ hsel⟩ ⟨RO.blind, hrecv, fun U hU hW => ⟨rfl, by rw [hU]; exact hB, hE.warm hW⟩⟩ rfl rfl hls hst (lv_room hW) hdg hf).run
theorem ro_runS (hM : RO l D ka y bytes maxL ret d As B Qc) (X : Cx p s m args c cc nL own D ka) (hcode : Cond.code y bytes maxL ret ∈ gtb) (hlink : Cond.methodLink own index y ∈ gtb) (hstat : Cond.static y ∈ gtb) (hini : Cond.initialized y.cls ∈ gtb) (hd : okName y As.length) (hR : okRoom R d maxL)
    (hB : B H) (hls : ls.size = nL) (hst : st = As.reverse ++ rest) (hW : (rest.map fun v => v.category).sum ≤ 8) (hf : cells ≤ R.cells ∧ slots ≤ R.slots) (hdg : decode cc pc = .ok (.invokestatic index, 3)) :
    CallRun p l e R s m args below meth c H locs cells slots 0 0 (F0 m pc ls st) rest (Qc As.toArray) (fun _ => False) := by
  obtain ⟨hx, hb, hml, hown, hts, hE⟩ := X
  exact (va_runS (Ts := gtb) ⟨hx, hb, hml, hown, hts⟩ hM ⟨callB_of As.length hts (wsOf_good hcode) rfl rfl rfl (hts _ hini) (hts _ hlink) hd hR, hts _ hstat⟩ ⟨RO.blind, fun U hU hW => ⟨rfl, by rw [hU]; exact hB, hE.warm hW⟩⟩ rfl rfl hls hst (lv_room hW) hdg hf).run
theorem ro_runSN (hM : RO l D ka y bytes maxL ret d As B Qc) (X : Cx p s m args c cc nL own D ka) (hcode : Cond.code y bytes maxL ret ∈ gtb) (hlink : (own, index, y) ∈ nestM) (hstat : Cond.static y ∈ gtb) (hini : Cond.initialized y.cls ∈ gtb) (hd : okName y As.length) (hR : okRoom R d maxL)
    (hB : B H) (hls : ls.size = nL) (hst : st = As.reverse ++ rest) (hW : (rest.map fun v => v.category).sum ≤ 8) (hf : cells ≤ R.cells ∧ slots ≤ R.slots) (hdg : decode cc pc = .ok (.invokestatic index, 3)) :
    CallRun p l e R s m args below meth c H locs cells slots 0 0 (F0 m pc ls st) rest (Qc As.toArray) (fun _ => False) := by
  obtain ⟨hx, hb, hml, hown, hts, hE⟩ := X
  exact (va_runSN (Ts := gtb) (host := "FourVault") ⟨hx, hb, hml, hown, hts⟩ hM ⟨va_cnB As.length hts (wsOf_good hcode) rfl rfl rfl (hE.2.1 _ hlink) (hts _ hini) hd hR, hts _ hstat, trivial⟩ ⟨RO.blind, fun U hU hW => ⟨rfl, by rw [hU]; exact hB, hE.warm hW⟩⟩ rfl rfl hls hst (lv_room hW) hdg hf).run
/-- a virtual call of an overriding (or inherited) method: x is named, y is run, the receiver is of class C -/
theorem ro_runU {x : MethodName} {C : String} {b0 : ByteArray} {m0 : Nat} {r0 : Option FieldType} (hM : RO l D ka y bytes maxL ret d (.ref b :: As) B Qc) (X : Cx p s m args c cc nL own D ka) (hcode : Cond.code y bytes maxL ret ∈ gtb) (hcode0 : Cond.code x b0 m0 r0 ∈ gtb) (hlink : Cond.methodLink own index x ∈ gtb) (hsame : Cond.sameMethod x.cls x.cls x.name x.desc ∈ gtb) (hinst0 : Cond.instanceMethod x ∈ gtb) (hsel : Cond.selects C x y ∈ gtb) (hinst : Cond.instanceMethod y ∈ gtb) (hini : Cond.initialized y.cls ∈ gtb) (hd : okName x As.length) (hR : okRoom R d maxL)
    (hrecv : ∃ cell : Cell, H[b]? = some cell ∧ cell.vm.isStatics = false ∧ s.vm.findClass C = some cell.cls) (hB : B H) (hls : ls.size = nL) (hst : st = As.reverse ++ .ref b :: rest) (hW : (rest.map fun v => v.category).sum ≤ 8) (hf : cells ≤ R.cells ∧ slots ≤ R.slots) (hdg : decode cc pc = .ok (.invokevirtual index, 3)) :
    CallRun p l e R s m args below meth c H locs cells slots 0 0 (F0 m pc ls st) rest (Qc (Value.ref b :: As).toArray) (fun _ => False) := by
  obtain ⟨hx, hb, hml, hown, hts, hE⟩ := X
  have hG : GoodIn gtb (va_wsO own index C x.cls x y (wsOf y bytes maxL ret)) := by
    intro w hw
    rcases List.mem_append.mp hw with h | h
    · have hm : w ∈ gtb := by
        simp only [List.mem_cons, List.not_mem_nil, or_false] at h
        rcases h with rfl | rfl | rfl | rfl | rfl | rfl <;> assumption
      exact ⟨hm, good_of_word (List.mem_filter.mp hm).2⟩
    · exact wsOf_good hcode w h
  exact (va_runU (Ts := gtb) (owner := x.cls) ⟨hx, hb, hml, hown, hts⟩ hM (va_cwO As.length hts hG rfl rfl rfl hcode0 hd hR) ⟨RO.blind, hrecv, fun U hU hW => ⟨rfl, by rw [hU]; exact hB, hE.warm hW⟩⟩ rfl rfl hls hst (lv_room hW) hdg hf).run
theorem mu_runV (hM : MU l D ka z y bytes maxL ret d mc ms (.ref b :: As) ws Qc) (X : Cx p s m args c cc nL own D ka) (hcode : Cond.code y bytes maxL ret ∈ gtb) (hlink : Cond.methodLink own index y ∈ gtb) (hinst : Cond.instanceMethod y ∈ gtb) (hsel : Cond.selects y.cls y y ∈ gtb) (hini : Cond.initialized y.cls ∈ gtb) (hd : okName y As.length) (hR : okRoom R d maxL)
    (hrecv : ∃ cell : Cell, H[b]? = some cell ∧ cell.vm.isStatics = false ∧ s.vm.findClass y.cls = some cell.cls) (hw : wdH D z ws H) (hls : ls.size = nL) (hst : st = As.reverse ++ .ref b :: rest) (hW : (rest.map fun v => v.category).sum ≤ 8) (hf : cells + mc ≤ R.cells ∧ slots + ms ≤ R.slots) (hdg : decode cc pc = .ok (.invokevirtual index, 3)) :
    va_Run p l e R s m args below meth c H locs cells slots mc ms (F0 m pc ls st) rest (Qc (Value.ref b :: As).toArray) (fun q => z ≤ q) := by
  obtain ⟨hx, hb, hml, hown, hts, hE⟩ := X
  exact va_runV (Ts := gtb) (C := y.cls) ⟨hx, hb, hml, hown, hts⟩ hM ⟨callB_of As.length hts (wsOf_good hcode) rfl rfl rfl (hts _ hini) (hts _ hlink) hd hR, hts _ hinst, hts _ hsel⟩ ⟨MU.blind, hrecv, fun U hU hW => ⟨rfl, by rw [hU]; exact hw, hE.warm hW⟩⟩ rfl rfl hls hst (lv_room hW) hdg hf
theorem mu_runS (hM : MU l D ka z y bytes maxL ret d mc ms As ws Qc) (X : Cx p s m args c cc nL own D ka) (hcode : Cond.code y bytes maxL ret ∈ gtb) (hlink : Cond.methodLink own index y ∈ gtb) (hstat : Cond.static y ∈ gtb) (hini : Cond.initialized y.cls ∈ gtb) (hd : okName y As.length) (hR : okRoom R d maxL)
    (hw : wdH D z ws H) (hls : ls.size = nL) (hst : st = As.reverse ++ rest) (hW : (rest.map fun v => v.category).sum ≤ 8) (hf : cells + mc ≤ R.cells ∧ slots + ms ≤ R.slots) (hdg : decode cc pc = .ok (.invokestatic index, 3)) :
    va_Run p l e R s m args below meth c H locs cells slots mc ms (F0 m pc ls st) rest (Qc As.toArray) (fun q => z ≤ q) := by
  obtain ⟨hx, hb, hml, hown, hts, hE⟩ := X
  exact va_runS (Ts := gtb) ⟨hx, hb, hml, hown, hts⟩ hM ⟨callB_of As.length hts (wsOf_good hcode) rfl rfl rfl (hts _ hini) (hts _ hlink) hd hR, hts _ hstat⟩ ⟨MU.blind, fun U hU hW => ⟨rfl, by rw [hU]; exact hw, hE.warm hW⟩⟩ rfl rfl hls hst (lv_room hW) hdg hf
theorem mu_runI (hM : MU l D ka z y bytes maxL none d mc ms (.ref b :: As) ws Qc) (X : Cx p s m args c cc nL own D ka) (hcode : Cond.code y bytes maxL none ∈ gtb) (hlink : Cond.methodLink own index y ∈ gtb) (hinst : Cond.instanceMethod y ∈ gtb) (hini : Cond.initialized y.cls ∈ gtb) (hyn : y.name = "<init>") (hd : okName y As.length) (hR : okRoom R d maxL)
    (hw : wdH D z ws H) (hls : ls.size = nL) (hst : st = As.reverse ++ .ref b :: rest) (hW : (rest.map fun v => v.category).sum ≤ 8) (hf : cells + mc ≤ R.cells ∧ slots + ms ≤ R.slots) (hdg : decode cc pc = .ok (.invokespecial index, 3)) :
    va_Run p l e R s m args below meth c H locs cells slots mc ms (F0 m pc ls st) rest (Qc (Value.ref b :: As).toArray) (fun q => z ≤ q) := by
  obtain ⟨hx, hb, hml, hown, hts, hE⟩ := X
  exact va_runI (Ts := gtb) ⟨hx, hb, hml, hown, hts⟩ hM ⟨callB_of As.length hts (wsOf_good hcode) rfl rfl rfl (hts _ hini) (hts _ hlink) hd hR, hyn, hts _ hinst⟩ ⟨MU.blind, fun U hU hW => ⟨rfl, by rw [hU]; exact hw, hE.warm hW⟩⟩ rfl rfl hls hst (lv_room hW) hdg hf
theorem mu_runIN (hM : MU l D ka z y bytes maxL none d mc ms (.ref b :: As) ws Qc) (X : Cx p s m args c cc nL own D ka) (hcode : Cond.code y bytes maxL none ∈ gtb) (hlink : (own, index, y) ∈ nestM) (hinst : Cond.instanceMethod y ∈ gtb) (hini : Cond.initialized y.cls ∈ gtb) (hyn : y.name = "<init>") (hd : okName y As.length) (hR : okRoom R d maxL)
    (hw : wdH D z ws H) (hls : ls.size = nL) (hst : st = As.reverse ++ .ref b :: rest) (hW : (rest.map fun v => v.category).sum ≤ 8) (hf : cells + mc ≤ R.cells ∧ slots + ms ≤ R.slots) (hdg : decode cc pc = .ok (.invokespecial index, 3)) :
    va_Run p l e R s m args below meth c H locs cells slots mc ms (F0 m pc ls st) rest (Qc (Value.ref b :: As).toArray) (fun q => z ≤ q) := by
  obtain ⟨hx, hb, hml, hown, hts, hE⟩ := X
  exact va_runIN (Ts := gtb) (host := "FourVault") ⟨hx, hb, hml, hown, hts⟩ hM ⟨va_cnB As.length hts (wsOf_good hcode) rfl rfl rfl (hE.2.1 _ hlink) (hts _ hini) hd hR, hyn, hts _ hinst⟩ ⟨MU.blind, fun U hU hW => ⟨rfl, by rw [hU]; exact hw, hE.warm hW⟩⟩ rfl rfl hls hst (lv_room hW) hdg hf
theorem mu_runSN (hM : MU l D ka z y bytes maxL ret d mc ms As ws Qc) (X : Cx p s m args c cc nL own D ka) (hcode : Cond.code y bytes maxL ret ∈ gtb) (hlink : (own, index, y) ∈ nestM) (hstat : Cond.static y ∈ gtb) (hini : Cond.initialized y.cls ∈ gtb) (hd : okName y As.length) (hR : okRoom R d maxL)
    (hw : wdH D z ws H) (hls : ls.size = nL) (hst : st = As.reverse ++ rest) (hW : (rest.map fun v => v.category).sum ≤ 8) (hf : cells + mc ≤ R.cells ∧ slots + ms ≤ R.slots) (hdg : decode cc pc = .ok (.invokestatic index, 3)) :
    va_Run p l e R s m args below meth c H locs cells slots mc ms (F0 m pc ls st) rest (Qc As.toArray) (fun q => z ≤ q) := by
  obtain ⟨hx, hb, hml, hown, hts, hE⟩ := X
  exact va_runSN (Ts := gtb) (host := "FourVault") ⟨hx, hb, hml, hown, hts⟩ hM ⟨va_cnB As.length hts (wsOf_good hcode) rfl rfl rfl (hE.2.1 _ hlink) (hts _ hini) hd hR, hts _ hstat, trivial⟩ ⟨MU.blind, fun U hU hW => ⟨rfl, by rw [hU]; exact hw, hE.warm hW⟩⟩ rfl rfl hls hst (lv_room hW) hdg hf
theorem mu_runU {x : MethodName} {C : String} {b0 : ByteArray} {m0 : Nat} {r0 : Option FieldType} (hM : MU l D ka z y bytes maxL ret d mc ms (.ref b :: As) ws Qc) (X : Cx p s m args c cc nL own D ka) (hcode : Cond.code y bytes maxL ret ∈ gtb) (hcode0 : Cond.code x b0 m0 r0 ∈ gtb) (hlink : Cond.methodLink own index x ∈ gtb) (hsame : Cond.sameMethod x.cls x.cls x.name x.desc ∈ gtb) (hinst0 : Cond.instanceMethod x ∈ gtb) (hsel : Cond.selects C x y ∈ gtb) (hinst : Cond.instanceMethod y ∈ gtb) (hini : Cond.initialized y.cls ∈ gtb) (hd : okName x As.length) (hR : okRoom R d maxL)
    (hrecv : ∃ cell : Cell, H[b]? = some cell ∧ cell.vm.isStatics = false ∧ s.vm.findClass C = some cell.cls) (hw : wdH D z ws H) (hls : ls.size = nL) (hst : st = As.reverse ++ .ref b :: rest) (hW : (rest.map fun v => v.category).sum ≤ 8) (hf : cells + mc ≤ R.cells ∧ slots + ms ≤ R.slots) (hdg : decode cc pc = .ok (.invokevirtual index, 3)) :
    va_Run p l e R s m args below meth c H locs cells slots mc ms (F0 m pc ls st) rest (Qc (Value.ref b :: As).toArray) (fun q => z ≤ q) := by
  obtain ⟨hx, hb, hml, hown, hts, hE⟩ := X
  have hG : GoodIn gtb (va_wsO own index C x.cls x y (wsOf y bytes maxL ret)) := by
    intro w hw
    rcases List.mem_append.mp hw with h | h
    · have hm : w ∈ gtb := by
        simp only [List.mem_cons, List.not_mem_nil, or_false] at h
        rcases h with rfl | rfl | rfl | rfl | rfl | rfl <;> assumption
      exact ⟨hm, good_of_word (List.mem_filter.mp hm).2⟩
    · exact wsOf_good hcode w h
  exact va_runU (Ts := gtb) (owner := x.cls) ⟨hx, hb, hml, hown, hts⟩ hM (va_cwO As.length hts hG rfl rfl rfl hcode0 hd hR) ⟨MU.blind, hrecv, fun U hU hW => ⟨rfl, by rw [hU]; exact hw, hE.warm hW⟩⟩ rfl rfl hls hst (lv_room hW) hdg hf
/-- behind a call that changes -/
theorem mu_i {post : Int32 → va_W → Prop} {a : Array Value} (hr : va_Run p l e R s m args below meth c H locs cells slots mc ms (F0 m pc ls st) rest (Qi D z post a) (fun q => z ≤ q)) (hS : va_S (fun q => z ≤ q) H0 H locs)
    (kk : ∀ (r : Int32) (u : va_W) (H1 : Heap) (locs1 : List Loc), post r u → wdH D z u H1 → va_S (fun q => z ≤ q) H0 H1 locs1 → W p l e R s m args below meth c H1 locs1 (cells + mc) (slots + ms) Q (F0 m (pc + 3) ls (.int r :: rest))) : W p l e R s m args below meth c H locs cells slots Q (F0 m pc ls st) :=
  va_calli hr hS (fun _ _ h => h) (fun _ h => h) (fun r u t H1 locs1 ht _ hp hB _ _ hS1 => kk r u H1 locs1 hp (by rw [← ht]; exact hB) hS1)
theorem mu_l {post : Int64 → va_W → Prop} {a : Array Value} (hr : va_Run p l e R s m args below meth c H locs cells slots mc ms (F0 m pc ls st) rest (Ql D z post a) (fun q => z ≤ q)) (hS : va_S (fun q => z ≤ q) H0 H locs)
    (kk : ∀ (r : Int64) (u : va_W) (H1 : Heap) (locs1 : List Loc), post r u → wdH D z u H1 → va_S (fun q => z ≤ q) H0 H1 locs1 → W p l e R s m args below meth c H1 locs1 (cells + mc) (slots + ms) Q (F0 m (pc + 3) ls (.long r :: rest))) : W p l e R s m args below meth c H locs cells slots Q (F0 m pc ls st) :=
  va_calll hr hS (fun _ _ h => h) (fun _ h => h) (fun r u t H1 locs1 ht _ hp hB _ _ hS1 => kk r u H1 locs1 hp (by rw [← ht]; exact hB) hS1)
theorem mu_v {post : va_W → Prop} {a : Array Value} (hr : va_Run p l e R s m args below meth c H locs cells slots mc ms (F0 m pc ls st) rest (Qv D z post a) (fun q => z ≤ q)) (hS : va_S (fun q => z ≤ q) H0 H locs)
    (kk : ∀ (u : va_W) (H1 : Heap) (locs1 : List Loc), post u → wdH D z u H1 → va_S (fun q => z ≤ q) H0 H1 locs1 → W p l e R s m args below meth c H1 locs1 (cells + mc) (slots + ms) Q (F0 m (pc + 3) ls rest)) : W p l e R s m args below meth c H locs cells slots Q (F0 m pc ls st) :=
  va_callv hr hS (fun _ _ h => h) (fun _ h => h) (fun u t H1 locs1 ht _ hp hB _ _ hS1 => kk u H1 locs1 hp (by rw [← ht]; exact hB) hS1)
theorem mu_r {post : va_W → Nat → Prop} {a : Array Value} (hr : va_Run p l e R s m args below meth c H locs cells slots mc ms (F0 m pc ls st) rest (Qr D z post a) (fun q => z ≤ q)) (hS : va_S (fun q => z ≤ q) H0 H locs)
    (kk : ∀ (u : va_W) (ra : Nat) (H1 : Heap) (locs1 : List Loc), post u ra → wdH D z u H1 → va_S (fun q => z ≤ q) H0 H1 locs1 → W p l e R s m args below meth c H1 locs1 (cells + mc) (slots + ms) Q (F0 m (pc + 3) ls (.ref ra :: rest))) : W p l e R s m args below meth c H locs cells slots Q (F0 m pc ls st) :=
  va_callr hr hS (fun _ _ h => h) (fun _ h => h) (fun u ra t H1 locs1 ht _ _ hB _ _ hS1 => kk u ra H1 locs1 hB.1 (by rw [← ht]; exact hB.2) hS1)
/-- the ends -/
theorem ro_iret {post : Int32 → Prop} {v : Int32} (X : Cx p s m args c cc nL own D ka) (hr : meth.sig.returnType = some .int) (hlk : meth.locks = false) (hdg : decode cc pc = .ok (.ireturn, 1)) (hq : post v) : W p l e R s m args below meth c s.heap [] 0 0 (MQ below (vp_Si post) args s 0 0 (fun _ => False)) (F0 m pc ls [.int v]) :=
  W.iret (v := v) X.1 X.2.1 hr (fun t ht _ => ⟨v, rfl, hq, ht⟩) (fun q h => by cases h) hdg hlk
theorem ro_zret {post : Int32 → Prop} {v : Int32} (X : Cx p s m args c cc nL own D ka) (hr : meth.sig.returnType = some .boolean) (hlk : meth.locks = false) (hdg : decode cc pc = .ok (.ireturn, 1)) (hn : v = 0 ∨ v = 1) (hq : post v) : W p l e R s m args below meth c s.heap [] 0 0 (MQ below (vp_Si post) args s 0 0 (fun _ => False)) (F0 m pc ls [.int v]) :=
  W.zret (v := v) X.1 X.2.1 hr (by rcases hn with rfl | rfl <;> rfl) (fun t ht _ => ⟨v, rfl, hq, ht⟩) (fun q h => by cases h) hdg hlk
theorem ro_lret {post : Int64 → Prop} {v : Int64} (X : Cx p s m args c cc nL own D ka) (hr : meth.sig.returnType = some .long) (hlk : meth.locks = false) (hdg : decode cc pc = .ok (.lreturn, 1)) (hq : post v) : W p l e R s m args below meth c s.heap [] 0 0 (MQ below (vp_Sl post) args s 0 0 (fun _ => False)) (F0 m pc ls [.long v]) :=
  W.lret (v := v) X.1 X.2.1 hr (fun t ht _ => ⟨v, rfl, hq, ht⟩) (fun q h => by cases h) hdg hlk
theorem mu_iret {post : Int32 → va_W → Prop} {v : Int32} (X : Cx p s m args c cc nL own D ka) (hr : meth.sig.returnType = some .int) (hlk : meth.locks = false) (hdg : decode cc pc = .ok (.ireturn, 1)) (hS : va_S (fun q => z ≤ q) s.heap H locs) (hw : wdH D z ws H) (hc : cells ≤ mc) (hs : slots ≤ ms) (hq : post v ws) : W p l e R s m args below meth c H locs cells slots (MQ below (Qi D z post) args s mc ms (fun q => z ≤ q)) (F0 m pc ls [.int v]) :=
  W.widen hc hs (W.iret (v := v) X.1 X.2.1 hr (fun t ht _ => ⟨⟨v, ws, rfl, hq, by show wdH D z ws t.heap; rw [ht]; exact hw⟩, hS.F ht⟩) hS.2.2 hdg hlk)
theorem mu_zret {post : Int32 → va_W → Prop} {v : Int32} (X : Cx p s m args c cc nL own D ka) (hr : meth.sig.returnType = some .boolean) (hlk : meth.locks = false) (hdg : decode cc pc = .ok (.ireturn, 1)) (hS : va_S (fun q => z ≤ q) s.heap H locs) (hw : wdH D z ws H) (hc : cells ≤ mc) (hs : slots ≤ ms) (hn : v = 0 ∨ v = 1) (hq : post v ws) : W p l e R s m args below meth c H locs cells slots (MQ below (Qi D z post) args s mc ms (fun q => z ≤ q)) (F0 m pc ls [.int v]) :=
  W.widen hc hs (W.zret (v := v) X.1 X.2.1 hr (by rcases hn with rfl | rfl <;> rfl) (fun t ht _ => ⟨⟨v, ws, rfl, hq, by show wdH D z ws t.heap; rw [ht]; exact hw⟩, hS.F ht⟩) hS.2.2 hdg hlk)
theorem mu_lret {post : Int64 → va_W → Prop} {v : Int64} (X : Cx p s m args c cc nL own D ka) (hr : meth.sig.returnType = some .long) (hlk : meth.locks = false) (hdg : decode cc pc = .ok (.lreturn, 1)) (hS : va_S (fun q => z ≤ q) s.heap H locs) (hw : wdH D z ws H) (hc : cells ≤ mc) (hs : slots ≤ ms) (hq : post v ws) : W p l e R s m args below meth c H locs cells slots (MQ below (Ql D z post) args s mc ms (fun q => z ≤ q)) (F0 m pc ls [.long v]) :=
  W.widen hc hs (W.lret (v := v) X.1 X.2.1 hr (fun t ht _ => ⟨⟨v, ws, rfl, hq, by show wdH D z ws t.heap; rw [ht]; exact hw⟩, hS.F ht⟩) hS.2.2 hdg hlk)
theorem mu_vret {post : va_W → Prop} (X : Cx p s m args c cc nL own D ka) (hr : meth.sig.returnType = none) (hlk : meth.locks = false) (hdg : decode cc pc = .ok (.return_, 1)) (hS : va_S (fun q => z ≤ q) s.heap H locs) (hw : wdH D z ws H) (hc : cells ≤ mc) (hs : slots ≤ ms) (hq : post ws) : W p l e R s m args below meth c H locs cells slots (MQ below (Qv D z post) args s mc ms (fun q => z ≤ q)) (F0 m pc ls []) :=
  W.widen hc hs (W.vret X.1 X.2.1 hr (fun t ht _ => ⟨⟨ws, rfl, hq, by show wdH D z ws t.heap; rw [ht]; exact hw⟩, hS.F ht⟩) hS.2.2 hdg hlk)
end GC
