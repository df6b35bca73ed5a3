/-! methods that throw: contracts over groups; the throw; a call of one; the catch in the law's helpers -/
def lw_strs : List (Nat × String) := [(65, "the text is full"), (79, "the text is not a circle"), (118, "there is no such number"), (159, "there is no such number of a member"), (179, "the circle is full"), (191, "it is not in the circle, or has taken the pot"), (196, "too many pence would have been given"), (205, "nobody is in the circle, or it is the last month"), (213, "it is not in the circle, or cannot pay"), (225, "no state is remembered"), (254, "the script is negative or too long"), (285, "nothing has been saved there"), (292, "there is no such member"), (295, "the members have to be different"), (297, "an argument is out of its range"), (299, "there is no such save slot")]
def lw_ncs : List (String × String) := [("java/lang/IllegalStateException", "java/lang/IllegalArgumentException"), ("java/lang/IllegalStateException", "java/lang/IndexOutOfBoundsException"), ("java/lang/IllegalArgumentException", "java/lang/IllegalStateException"), ("java/lang/IllegalArgumentException", "java/lang/IndexOutOfBoundsException"), ("java/lang/IndexOutOfBoundsException", "java/lang/IllegalStateException"), ("java/lang/IndexOutOfBoundsException", "java/lang/IllegalArgumentException")]
def lw_ngs : List Cond := (vx_atS RX5 120 "java/lang/IllegalArgumentException" ["java/lang/RuntimeException", "java/lang/Exception"]).filter (fun w => !goodWord w) ++ (vx_atS RX5 294 "java/lang/IndexOutOfBoundsException" ["java/lang/RuntimeException", "java/lang/Exception"]).filter (fun w => !goodWord w) ++ (vx_atS RX5 67 "java/lang/IllegalStateException" ["java/lang/RuntimeException", "java/lang/Exception"]).filter (fun w => !goodWord w)
def ngOk : Cond → Bool
  | .declares _ => true
  | .castable _ _ => true
  | _ => false
theorem lw_ngs_ok : lw_ngs.all ngOk = true := by decide +kernel
theorem ng_moved {w : Cond} (h : ngOk w = true) {u U : State} (hvm : u.vm.Alike U.vm) (hb : w.before #[] u = true) : w.before #[] U = true := by
  have tr : ∀ {c : Cond}, c.onTables = true → c.before #[] (u.setVm U.vm) = true → c.before #[] U = true := by
    intro c hc h
    have e := Cond.onTables_vm (A := #[]) (A' := #[]) (U := u) (U' := U) U.vm c hc
    have hU : U.setVm U.vm = U := rfl
    rw [hU] at e
    rw [← e]
    exact h
  cases w <;> first | (simp [ngOk] at h; done) | exact tr rfl (by rw [Cond.declares_setVm hvm]; exact hb) | exact tr rfl (by rw [Cond.castable_setVm hvm]; exact hb)
theorem ng_use {w : Cond} (h : ngOk w = true) {A : Array Value} {U : State} (hb : w.before #[] U = true) : w.before A U = true := by
  cases w <;> first | (simp [ngOk] at h; done) | exact va_tabs rfl rfl hb
theorem lw_ng {w : Cond} (hw : w ∈ lw_ngs) : ngOk w = true := List.all_eq_true.mp lw_ngs_ok w hw
def gST (U : State) : Prop := (∀ q ∈ lw_strs, ∃ sa, vk_R RX5 q.1 q.2 sa U) ∧ (∀ q ∈ lw_ncs, va_Nc q.1 q.2 U) ∧ ∀ w ∈ lw_ngs, w.before #[] U = true
def gTH (A : Nat → Prop) (U : State) (H : Heap) : Prop := vx_Zq Bundle.tN "UNASSIGNED_STACK" Bundle.steD A U H ∧ vx_Zq Bundle.tN "SUPPRESSED_SENTINEL" Bundle.listD A U H ∧ gST U
theorem gST_warm {s U : State} (hW : s.WarmedH U.vm) (h : gST s) : gST U := ⟨fun q hq => by
  obtain ⟨sa, h1⟩ := h.1 q hq
  exact ⟨sa, vk_R.warm hW h1⟩, fun q hq => (h.2.1 q hq).moved hW.alike, fun w hw => ng_moved (lw_ng hw) hW.alike (h.2.2 w hw)⟩
theorem gTH_call {A0 A1 : Nat → Prop} {s U : State} {H : Heap} {locs : List Loc} (h : gTH A0 s s.heap) (hS : va_S A0 s.heap H locs) (hU : U.heap = H) (hW : s.WarmedH U.vm) (hsub : ∀ q, A1 q → A0 q) : gTH A1 U U.heap := by
  rw [hU]
  exact ⟨vx_Zq.moved hW.alike ((h.1.kept hS.2.1).narrow hsub), vx_Zq.moved hW.alike ((h.2.1.kept hS.2.1).narrow hsub), gST_warm hW h.2.2⟩
def gPx (G : uG) (gs : List va_W) (sz : Nat) : State → Prop := fun U => gPc G gs sz U ∧ gTH (gA gs sz) U U.heap
theorem gPx_blind {G : uG} {gs : List va_W} {sz : Nat} {av : List Value} : FrameBlind (va_Pc av (gPx G gs sz)) := fun a U g mk q => by
  obtain ⟨q0, ⟨q1, qP, qK, qD⟩, t1, t2, t3, t4, t5⟩ := q
  refine ⟨q0, ⟨q1, qP, va_K.moved (u := U) (U := U.calling g mk a) (Vm.Alike.refl U.vm) qK, qD⟩, vx_Zq.moved (u := U) (U := U.calling g mk a) (Vm.Alike.refl U.vm) t1, vx_Zq.moved (u := U) (U := U.calling g mk a) (Vm.Alike.refl U.vm) t2, fun q hq => ?_, fun q hq => (t4 q hq).moved (u := U) (U := U.calling g mk a) (Vm.Alike.refl U.vm), fun w hw => ng_moved (lw_ng hw) (u := U) (U := U.calling g mk a) (Vm.Alike.refl U.vm) (t5 w hw)⟩
  obtain ⟨sa, h1⟩ := t3 q hq
  exact ⟨sa, vk_R.same (u := U) (U := U.calling g mk a) rfl h1⟩
def om {R V : Type} (g : V → List va_W) : ((R × V) ⊕ (String × V)) → ((R × List va_W) ⊕ (String × List va_W))
  | .inl r => .inl (r.1, g r.2)
  | .inr r => .inr (r.1, g r.2)
theorem om_l {R V : Type} {g : V → List va_W} {q : (R × V) ⊕ (String × V)} {x : R} {u : List va_W} (h : om g q = .inl (x, u)) : ∃ r, q = .inl r ∧ x = r.1 ∧ u = g r.2 := by
  cases q with
  | inl r => cases h; exact ⟨r, rfl, rfl, rfl⟩
  | inr r => cases h
theorem om_r {R V : Type} {g : V → List va_W} {q : (R × V) ⊕ (String × V)} {x : String} {u : List va_W} (h : om g q = .inr (x, u)) : ∃ r, q = .inr r ∧ x = r.1 ∧ u = g r.2 := by
  cases q with
  | inl r => cases h
  | inr r => cases h; exact ⟨r, rfl, rfl, rfl⟩
theorem om_gad {R V : Type} {g : V → List va_W} {q : (R × V) ⊕ (String × V)} {gs : List va_W} (h : ∀ w, gad (g w) = gad gs) : (∀ x u, om g q = .inl (x, u) → gad u = gad gs) ∧ ∀ x u, om g q = .inr (x, u) → gad u = gad gs :=
  ⟨fun x u e => by obtain ⟨r, -, -, rfl⟩ := om_l e; exact h _, fun x u e => by obtain ⟨r, -, -, rfl⟩ := om_r e; exact h _⟩
theorem bx_some {R V B : Type} {o : Option ((R × V) ⊕ (String × V))} {k : R × V → Option B} {x : String × V → B} {r : B} (h : bx o k x = some r) : ∃ a, o = some a ∧ bxe a k x = some r := by
  cases o with
  | none => cases h
  | some a => cases a with
    | inl a => exact ⟨_, rfl, h⟩
    | inr a => exact ⟨_, rfl, h⟩
theorem bxe_l {R V B : Type} {a : R × V} {k : R × V → Option B} {x : String × V → B} {r : B} (h : bxe (.inl a) k x = some r) : k a = some r := h
theorem bxe_r {R V B : Type} {a : String × V} {k : R × V → Option B} {x : String × V → B} {r : B} (h : bxe (.inr a) k x = some r) : x a = r := Option.some.inj h
theorem bh_some {R V B : Type} {o : Option ((R × V) ⊕ (String × V))} {k : R × V → Option B} {x : String × V → Option B} {r : B} (h : bh o k x = some r) : ∃ a, o = some a ∧ bhe a k x = some r := by
  cases o with
  | none => cases h
  | some a => cases a with
    | inl a => exact ⟨_, rfl, h⟩
    | inr a => exact ⟨_, rfl, h⟩
theorem bhe_l {R V B : Type} {a : R × V} {k : R × V → Option B} {x : String × V → Option B} {r : B} (h : bhe (.inl a) k x = some r) : k a = some r := h
theorem bhe_r {R V B : Type} {a : String × V} {k : R × V → Option B} {x : String × V → Option B} {r : B} (h : bhe (.inr a) k x = some r) : x a = some r := h
def qIx (G : uG) (o : (Int32 × List va_W) ⊕ (String × List va_W)) (A : Nat → Prop) : Array Value → State → Outcome → State → Prop := va_Qi (fun (x : Int32) (u : List va_W) => o = .inl (x, u)) (fun u (t : State) => gP G u t.heap) A
def qVx (G : uG) (o : (Unit × List va_W) ⊕ (String × List va_W)) (A : Nat → Prop) : Array Value → State → Outcome → State → Prop := va_Qv (fun (u : List va_W) => o = .inl ((), u)) (fun u (t : State) => gP G u t.heap) A
def qXx {R : Type} (G : uG) (o : (R × List va_W) ⊕ (String × List va_W)) (A : Nat → Prop) : String → State → State → Prop := vx_X (fun (q : String × List va_W) => o = .inr (q.1, q.2)) (fun E q (t : State) => E = q.1 ∧ gP G q.2 t.heap) A
def mX {R : Type} (l : Launch) (y : MethodName) (ws : List Cond) (rm : Room) (G : uG) (av : List Value) (gs : List va_W) (o : (R × List va_W) ⊕ (String × List va_W)) (Qr : (Nat → Prop) → Array Value → State → Outcome → State → Prop) (mc ms : Nat) : Prop :=
  ((∀ x u, o = .inl (x, u) → gad u = gad gs) ∧ ∀ x u, o = .inr (x, u) → gad u = gad gs) ∧ ∀ sz : Nat, vx_Met l y ws rm (va_Pc av (gPx G gs sz)) (Qr (gA gs sz)) (qXx G o (gA gs sz)) mc ms (gA gs sz)
theorem mX_of {R : Type} {l : Launch} {y : MethodName} {ws ws' : List Cond} {rm : Room} {G : uG} {av : List Value} {gs : List va_W} {o : (R × List va_W) ⊕ (String × List va_W)} {Qr : (Nat → Prop) → Array Value → State → Outcome → State → Prop} {mc ms : Nat} {cc : ByteArray} {maxL : Nat} {ret : Option FieldType}
    (hy : plainName y.cls = true) (hw : ws = Cond.code y cc maxL ret :: ws') (hadr : (∀ x u, o = .inl (x, u) → gad u = gad gs) ∧ ∀ x u, o = .inr (x, u) → gad u = gad gs) (hlen : (lg_sl av).length ≤ maxL)
    (body : ∀ (p : Program) (e : Env) (s : State) (m : MethodId) (args : Array Value) (below : List Frame) (meth : Method) (c : Code) (A : Nat → Prop) (ls : Array Slot), Ev p s m args meth c cc maxL ret y.cls ws → kK G s → (∀ q, s.heap.size ≤ q → A q) → (∀ x ∈ c.exceptionTable.toList, False) → gTH A s s.heap → gP G gs s.heap → gD A gs → va_S A s.heap s.heap [] → lv_has ls maxL (lv_args 0 av) →
      W p l e rm s m args below meth c s.heap [] 0 0 (vx_MQ below (Qr A) (qXx G o A) args s mc ms A) (F0 m 0 ls [])) : mX l y ws rm G av gs o Qr mc ms := by
  refine ⟨hadr, fun sz => vx_ofW (cc := cc) (maxL := maxL) (ret := ret) hy hw ?_⟩
  intro p e s m args below meth c s₁ B hml hex hv
  obtain ⟨rfl, ⟨hsz, hP, hK, hD0⟩, hTH⟩ := hv
  subst hsz
  have hl := lv_entry av (n := maxL) hlen
  rw [lg_entry_eq]
  exact body p e s m _ below meth c _ _ ⟨B.exec, B.bytes, hml, findClass_of_methodNamed B.named, atoms_spec (ws := ws) B.pre, B.returns, B.notSynchronized⟩ hK (fun q h => Or.inr h) hex hTH hP (hD0.self (sz := s.heap.size)) va_S.rf hl
/-- the law's helpers: they catch, and come to an end -/
def mH (l : Launch) (y : MethodName) (ws : List Cond) (rm : Room) (G : uG) (av : List Value) (gs gs' : List va_W) (Qr : (Nat → Prop) → Array Value → State → Outcome → State → Prop) (mc ms : Nat) : Prop :=
  gad gs' = gad gs ∧ ∀ sz : Nat, Met l y ws rm (va_Pc av (gPx G gs sz)) (Qr (gA gs sz)) mc ms (gA gs sz)
theorem mH_of {l : Launch} {y : MethodName} {ws ws' : List Cond} {rm : Room} {G : uG} {av : List Value} {gs gs' : List va_W} {Qr : (Nat → Prop) → Array Value → State → Outcome → State → Prop} {mc ms : Nat} {cc : ByteArray} {maxL : Nat} {ret : Option FieldType} {hh : List (Nat × Nat × Nat × Nat)}
    (hy : plainName y.cls = true) (hw : ws = Cond.codeWith y cc maxL ret hh :: ws') (hadr : gad gs' = gad gs) (hlen : (lg_sl av).length ≤ maxL)
    (body : ∀ (p : Program) (e : Env) (s : State) (m : MethodId) (args : Array Value) (below : List Frame) (meth : Method) (c : Code) (A : Nat → Prop) (ls : Array Slot), Ev p s m args meth c cc maxL ret y.cls ws → kK G s → (∀ q, s.heap.size ≤ q → A q) → c.exceptionTable.toList = tableOf hh → gTH A s s.heap → gP G gs s.heap → gD A gs → va_S A s.heap s.heap [] → lv_has ls maxL (lv_args 0 av) →
      W p l e rm s m args below meth c s.heap [] 0 0 (MQ below (Qr A) args s mc ms A) (F0 m 0 ls [])) : mH l y ws rm G av gs gs' Qr mc ms := by
  refine ⟨hadr, fun sz => va_MetW (cc := cc) (maxL := maxL) (ret := ret) (hh := hh) hy hw ?_⟩
  intro p e s m args below meth c s₁ B hml hv
  obtain ⟨rfl, ⟨hsz, hP, hK, hD0⟩, hTH⟩ := hv
  subst hsz
  have hl := lv_entry av (n := maxL) hlen
  rw [lg_entry_eq]
  exact body p e s m _ below meth c _ _ ⟨B.exec, B.bytes, hml, findClass_of_methodNamed B.named, atoms_spec (ws := ws) B.pre, B.returns, B.notSynchronized⟩ hK (fun q h => Or.inr h) (vx_table (x := y) B (atoms_spec (ws := ws) B.pre _ (by rw [hw]; exact List.mem_cons_self))) hTH hP (hD0.self (sz := s.heap.size)) va_S.rf hl
section XRows
variable {p : Program} {l : Launch} {e : Env} {R : Room} {s : State} {m : MethodId} {args : Array Value} {below : List Frame} {meth : Method} {c : Code} {H : Heap} {locs : List Loc} {cells slots : Nat} {Q : State → Prop}
variable {cc : ByteArray} {pc : Nat} {ls : Array Slot} {rest st0 : List Value} {G : uG} {A A0 : Nat → Prop} {a : Nat} {gs : List va_W} {H0 : Heap}
variable {nL : Nat} {ret : Option FieldType} {own : String} {Ts : List Cond}
theorem g_xiret {r : Int32} {o : (Int32 × List va_W) ⊕ (String × List va_W)} {mc ms : Nat} {XC : String → State → State → Prop} (hexec : p.tables.exec = Jvm.exec) (hb : c.code = cc) (hr : meth.sig.returnType = some .int) (hlocks : meth.locks = false) (ho : o = .inl (r, gs)) (hc : cells ≤ mc) (hs : slots ≤ ms) (hP : gP G gs H) (hS : va_S A s.heap H locs) (hdg : decode cc pc = .ok (.ireturn, 1)) : W p l e R s m args below meth c H locs cells slots (vx_MQ below (qIx G o A) XC args s mc ms A) (F0 m pc ls [.int r]) :=
  vx_ret (W.widen hc hs (W.iret hexec hb hr (fun t ht hW => ⟨⟨r, gs, rfl, ho, by show gP G gs t.heap; rw [ht]; exact hP⟩, hS.F ht⟩) hS.2.2 hdg hlocks))
theorem g_xzret {r : Int32} {ty : FieldType} {o : (Int32 × List va_W) ⊕ (String × List va_W)} {mc ms : Nat} {XC : String → State → State → Prop} (hexec : p.tables.exec = Jvm.exec) (hb : c.code = cc) (hr : meth.sig.returnType = some ty) (hn : narrow ty (.int r) = .int r) (hlocks : meth.locks = false) (ho : o = .inl (r, gs)) (hc : cells ≤ mc) (hs : slots ≤ ms) (hP : gP G gs H) (hS : va_S A s.heap H locs) (hdg : decode cc pc = .ok (.ireturn, 1)) : W p l e R s m args below meth c H locs cells slots (vx_MQ below (qIx G o A) XC args s mc ms A) (F0 m pc ls [.int r]) :=
  vx_ret (W.widen hc hs (W.zret hexec hb hr hn (fun t ht hW => ⟨⟨r, gs, rfl, ho, by show gP G gs t.heap; rw [ht]; exact hP⟩, hS.F ht⟩) hS.2.2 hdg hlocks))
theorem g_xvret {o : (Unit × List va_W) ⊕ (String × List va_W)} {mc ms : Nat} {XC : String → State → State → Prop} (hexec : p.tables.exec = Jvm.exec) (hb : c.code = cc) (hr : meth.sig.returnType = none) (hlocks : meth.locks = false) (ho : o = .inl ((), gs)) (hc : cells ≤ mc) (hs : slots ≤ ms) (hP : gP G gs H) (hS : va_S A s.heap H locs) (hdg : decode cc pc = .ok (.return_, 1)) : W p l e R s m args below meth c H locs cells slots (vx_MQ below (qVx G o A) XC args s mc ms A) (F0 m pc ls []) :=
  vx_ret (W.widen hc hs (W.vret hexec hb hr (fun t ht hW => ⟨⟨gs, rfl, ho, by show gP G gs t.heap; rw [ht]; exact hP⟩, hS.F ht⟩) hS.2.2 hdg hlocks))
theorem g_hret {r : Int32} {mc ms : Nat} (hexec : p.tables.exec = Jvm.exec) (hb : c.code = cc) (hr : meth.sig.returnType = some .int) (hlocks : meth.locks = false) (hc : cells ≤ mc) (hs : slots ≤ ms) (hP : gP G gs H) (hS : va_S A s.heap H locs) (hdg : decode cc pc = .ok (.ireturn, 1)) : W p l e R s m args below meth c H locs cells slots (MQ below (qI G gs r A) args s mc ms A) (F0 m pc ls [.int r]) :=
  W.widen hc hs (W.iret hexec hb hr (fun t ht hW => ⟨⟨r, (), rfl, rfl, by show gP G gs t.heap; rw [ht]; exact hP⟩, hS.F ht⟩) hS.2.2 hdg hlocks)
theorem gP_grow {H1 : Heap} (hP : gP G gs H) (h : ∀ q : Nat, q < H.size → H1[q]? = H[q]?) : gP G gs H1 := fun k q hk => (hP k q hk).kept (h q.1 (hP k q hk).lt)
/-- not caught here -/
theorem g_xout {R9 : Type} {o : (R9 × List va_W) ⊕ (String × List va_W)} {Qc : Array Value → State → Outcome → State → Prop} {mc ms : Nat} {E : String} {ce : Cell} {q : Addr} (hex : ∀ x ∈ c.exceptionTable.toList, False) (hlocks : meth.locks = false) (hcell : H[q]? = some ce) (hv : ce.vm = .none) (hcl : s.vm.findClass E = some ce.cls) (ho : o = .inr (E, gs)) (hc : cells ≤ mc) (hs : slots ≤ ms) (hP : gP G gs H) (hS : va_S A s.heap H locs) : vx_W p l e R s m args below meth c H locs cells slots (vx_MQ below Qc (qXx G o A) args s mc ms A) (F0 m pc ls rest) q :=
  vx_out (fun x hx => (hex x hx).elim) hlocks hcell hv hcl (fun t ht hW => ⟨(E, gs), ho, ⟨rfl, by show gP G gs t.heap; rw [ht]; exact hP⟩, hS.F ht⟩) hS.2.2 hc hs
theorem g_throw (S : Ev p s m args meth c cc nL ret own Ts) {R9 : Type} {o : (R9 × List va_W) ⊕ (String × List va_W)} {Qc : Array Value → State → Outcome → State → Prop} {mc ms ik is ic : Nat} {cls text : String} {names : List String} (hown5 : own = RX5) (hex : ∀ x ∈ c.exceptionTable.toList, False) (hl0 : l.stackTraces = false) (hTH : gTH A s s.heap) (hcls : Bundle.fit cls = true) (hnames : ∀ n ∈ names, Bundle.fit n = true) (hk : (Cond.classLink own ik cls).before args s = true) (hini : (Cond.initialized cls).before args s = true) (hstr : (is, text) ∈ lw_strs) (hat : ∀ w ∈ (vx_atS own ic cls names).filter goodWord, w ∈ Ts) (hg1 : ∀ w ∈ (vx_atS own ic cls names).filter (fun w => !goodWord w), w ∈ lw_ngs) (hgood : ∀ w ∈ Cond.classLink own ik cls :: Cond.initialized cls :: vx_atS own ic cls names, vx_ot w = true)
    (d0 : decode cc pc = .ok (.new ik, 3)) (d3 : decode cc (pc + 3) = .ok (.dup, 1)) (d4 : decode cc (pc + 4) = .ok (.ldc is, 2)) (d6 : decode cc (pc + 6) = .ok (.invokespecial ic, 3)) (d9 : decode cc (pc + 9) = .ok (.athrow, 1))
    (hfr : names.length + 3 < R.frames) (hlo : (rest.map fun v => v.category).sum + (13 * (names.length + 1) + 43) ≤ R.locals) (hRc : cells + 1 ≤ R.cells) (hRs : slots + 6 ≤ R.slots) (hc : cells + 1 ≤ mc) (hs : slots + 6 ≤ ms) (hls : ls.size = nL) (ho : o = .inr (cls, gs)) (hP : gP G gs H) (hS : va_S A s.heap H locs) : W p l e R s m args below meth c H locs cells slots (vx_MQ below Qc (qXx G o A) args s mc ms A) (F0 m pc ls rest) := by
  subst hown5
  obtain ⟨hexec, hb, hml, hown, hts, -, hlocks⟩ := S
  obtain ⟨sa, hsa⟩ := hTH.2.2.1 _ hstr
  exact vx_throwS hexec hb hl0 hown hcls hnames hk hini hsa (vx_hat (fun w hw => hts w (hat w hw)) (B := lw_ngs) hg1 (fun w hw => ng_use (lw_ng hw) (hTH.2.2.2.2 w hw))) hgood hTH.1 hTH.2.1 hS (hls.trans hml.symm) d0 d3 d4 d6 d9 (fun x hx => (hex x hx).elim) hfr hlo hRc hRs hlocks
    (fun t _ z hk9 => ⟨(cls, gs), ho, ⟨rfl, gP_grow hP hk9⟩, Nat.le_trans hS.1 z, fun q h1 h2 => by rw [hk9 q (Nat.lt_of_lt_of_le h1 hS.1)]; exact hS.2.1 q h1 h2⟩) hS.2.2 hc hs
theorem g_throwW (S : Ev p s m args meth c cc nL ret own Ts) {R9 : Type} {o : (R9 × List va_W) ⊕ (String × List va_W)} {Qc : Array Value → State → Outcome → State → Prop} {mc ms ik is ic : Nat} {cls text : String} {names : List String} (hown5 : own = RX5) (hex : ∀ x ∈ c.exceptionTable.toList, False) (hl0 : l.stackTraces = false) (hTH : gTH A s s.heap) (hcls : Bundle.fit cls = true) (hnames : ∀ n ∈ names, Bundle.fit n = true) (hk : (Cond.classLink own ik cls).before args s = true) (hini : (Cond.initialized cls).before args s = true) (hstr : (is, text) ∈ lw_strs) (hat : ∀ w ∈ (vx_atS own ic cls names).filter goodWord, w ∈ Ts) (hg1 : ∀ w ∈ (vx_atS own ic cls names).filter (fun w => !goodWord w), w ∈ lw_ngs) (hgood : ∀ w ∈ Cond.classLink own ik cls :: Cond.initialized cls :: vx_atS own ic cls names, vx_ot w = true)
    (d0 : decode cc pc = .ok (.new ik, 3)) (d3 : decode cc (pc + 3) = .ok (.dup, 1)) (d4 : decode cc (pc + 4) = .ok (.ldc_w is, 3)) (d6 : decode cc (pc + 7) = .ok (.invokespecial ic, 3)) (d9 : decode cc (pc + 10) = .ok (.athrow, 1))
    (hfr : names.length + 3 < R.frames) (hlo : (rest.map fun v => v.category).sum + (13 * (names.length + 1) + 43) ≤ R.locals) (hRc : cells + 1 ≤ R.cells) (hRs : slots + 6 ≤ R.slots) (hc : cells + 1 ≤ mc) (hs : slots + 6 ≤ ms) (hls : ls.size = nL) (ho : o = .inr (cls, gs)) (hP : gP G gs H) (hS : va_S A s.heap H locs) : W p l e R s m args below meth c H locs cells slots (vx_MQ below Qc (qXx G o A) args s mc ms A) (F0 m pc ls rest) := by
  subst hown5
  obtain ⟨hexec, hb, hml, hown, hts, -, hlocks⟩ := S
  obtain ⟨sa, hsa⟩ := hTH.2.2.1 _ hstr
  exact vx_throwSW hexec hb hl0 hown hcls hnames hk hini hsa (vx_hat (fun w hw => hts w (hat w hw)) (B := lw_ngs) hg1 (fun w hw => ng_use (lw_ng hw) (hTH.2.2.2.2 w hw))) hgood hTH.1 hTH.2.1 hS (hls.trans hml.symm) d0 d3 d4 d6 d9 (fun x hx => (hex x hx).elim) hfr hlo hRc hRs hlocks
    (fun t _ z hk9 => ⟨(cls, gs), ho, ⟨rfl, gP_grow hP hk9⟩, Nat.le_trans hS.1 z, fun q h1 h2 => by rw [hk9 q (Nat.lt_of_lt_of_le h1 hS.1)]; exact hS.2.1 q h1 h2⟩) hS.2.2 hc hs
theorem g_callXVi (S : Ev p s m args meth c cc nL ret own Ts) {y : MethodName} {wsC : List Cond} {rm : Room} {index maxL n mc ms : Nat} {b : Nat} {C : String} {bytes : ByteArray} {retC : Option FieldType} {As : List Value} {gc : List va_W} {o : (Int32 × List va_W) ⊕ (String × List va_W)} (hM : mX l y wsC rm G (.ref b :: As) gc o (qIx G o) mc ms) (cw : CallW R s args own C index y bytes maxL retC wsC rm mc ms n) (hTH : gTH A s s.heap) (hK : kK G s) (hP : gP G gs H) (hD : gD A gs) (hS : va_S A s.heap H locs) (hA : ∀ q, s.heap.size ≤ q → A q) {is : List Nat} (hC : is.map (fun i => gs[i]?) = gc.map some) (hn : va_nd is = true) (kr : Nat) {g : va_W} {ci : Nat} {fs : List Value} {T : u_T} {N : Nat} (hg : gs[kr]? = some g) (he : g[0]? = some (b, .inr (ci, fs))) (hc : vwCl[ci]? = some (C, T, N)) (hl : As.length = n) (hsz : ls.size = nL) (hst : st0 = As.reverse ++ .ref b :: rest) (hW : (rest.map fun v => v.category).sum ≤ 8) (hdg : decode cc pc = .ok (.invokevirtual index, 3)) (hf : cells + mc ≤ R.cells ∧ slots + ms ≤ R.slots) {cells' slots' : Nat} (hc9 : cells + mc = cells') (hs9 : slots + ms = slots')
    (kk : ∀ (x : Int32) (u : List va_W), o = .inl (x, u) → ∀ (H1 : Heap) (locs1 : List Loc), gP G (gset gs is u) H1 → gD A (gset gs is u) → va_S A s.heap H1 locs1 → W p l e R s m args below meth c H1 locs1 cells' slots' Q (F0 m (pc + 3) ls (.int x :: rest)))
    (kx : ∀ (E : String) (u : List va_W), o = .inr (E, u) → ∀ (ce : Cell) (q9 : Addr) (H1 : Heap) (locs1 : List Loc), gP G (gset gs is u) H1 → gD A (gset gs is u) → va_S A s.heap H1 locs1 → H1[q9]? = some ce → ce.vm = .none → s.vm.findClass E = some ce.cls → vx_W p l e R s m args below meth c H1 locs1 cells' slots' Q (F0 m pc ls rest) q9) : W p l e R s m args below meth c H locs cells slots Q (F0 m pc ls st0) := by
  subst hc9; subst hs9
  have hF := g_free hD hS hA hC
  refine vx_calli (vx_runV (As := As) (rest := rest) ⟨S.1, S.2.1, S.2.2.1, S.2.2.2.1, S.2.2.2.2.1⟩ (hM.2 H.size) cw ⟨gPx_blind, va_recv hK (gP_at hP hg) hc he, fun U hU hW9 => ⟨rfl, ⟨by rw [hU], by rw [hU]; exact gP_sub hP hC, va_K.moved hW9.alike hK, gD_T (gD_sub hD hn hC)⟩, gTH_call hTH hS hU hW9 hF⟩⟩ rfl hl hsz hst (lv_room hW) hdg hf) hS (fun q _ h => hF q h) hF (fun q _ h => hF q h) (fun E ce q9 u t H1 locs1 ht hvm hw hB hz1 hk1 hS1 hce hcv hcl => ?_) (fun x u t H1 locs1 ht hvm hw hB hz1 hk1 hS1 => ?_)
  · obtain ⟨rfl, hB⟩ := hB
    obtain ⟨p1, d1⟩ := gjoin hP hD hn hC hk1 (by rw [← ht]; exact hB) (hM.1.2 _ _ hw)
    exact kx _ _ hw ce q9 H1 locs1 p1 d1 hS1 hce hcv hcl
  · obtain ⟨p1, d1⟩ := gjoin hP hD hn hC hk1 (by rw [← ht]; exact hB) (hM.1.1 _ _ hw)
    exact kk x u hw H1 locs1 p1 d1 hS1
theorem g_callXVv (S : Ev p s m args meth c cc nL ret own Ts) {y : MethodName} {wsC : List Cond} {rm : Room} {index maxL n mc ms : Nat} {b : Nat} {C : String} {bytes : ByteArray} {retC : Option FieldType} {As : List Value} {gc : List va_W} {o : (Unit × List va_W) ⊕ (String × List va_W)} (hM : mX l y wsC rm G (.ref b :: As) gc o (qVx G o) mc ms) (cw : CallW R s args own C index y bytes maxL retC wsC rm mc ms n) (hTH : gTH A s s.heap) (hK : kK G s) (hP : gP G gs H) (hD : gD A gs) (hS : va_S A s.heap H locs) (hA : ∀ q, s.heap.size ≤ q → A q) {is : List Nat} (hC : is.map (fun i => gs[i]?) = gc.map some) (hn : va_nd is = true) (kr : Nat) {g : va_W} {ci : Nat} {fs : List Value} {T : u_T} {N : Nat} (hg : gs[kr]? = some g) (he : g[0]? = some (b, .inr (ci, fs))) (hc : vwCl[ci]? = some (C, T, N)) (hl : As.length = n) (hsz : ls.size = nL) (hst : st0 = As.reverse ++ .ref b :: rest) (hW : (rest.map fun v => v.category).sum ≤ 8) (hdg : decode cc pc = .ok (.invokevirtual index, 3)) (hf : cells + mc ≤ R.cells ∧ slots + ms ≤ R.slots) {cells' slots' : Nat} (hc9 : cells + mc = cells') (hs9 : slots + ms = slots')
    (kk : ∀ (u : List va_W), o = .inl ((), u) → ∀ (H1 : Heap) (locs1 : List Loc), gP G (gset gs is u) H1 → gD A (gset gs is u) → va_S A s.heap H1 locs1 → W p l e R s m args below meth c H1 locs1 cells' slots' Q (F0 m (pc + 3) ls (rest)))
    (kx : ∀ (E : String) (u : List va_W), o = .inr (E, u) → ∀ (ce : Cell) (q9 : Addr) (H1 : Heap) (locs1 : List Loc), gP G (gset gs is u) H1 → gD A (gset gs is u) → va_S A s.heap H1 locs1 → H1[q9]? = some ce → ce.vm = .none → s.vm.findClass E = some ce.cls → vx_W p l e R s m args below meth c H1 locs1 cells' slots' Q (F0 m pc ls rest) q9) : W p l e R s m args below meth c H locs cells slots Q (F0 m pc ls st0) := by
  subst hc9; subst hs9
  have hF := g_free hD hS hA hC
  refine vx_callv (vx_runV (As := As) (rest := rest) ⟨S.1, S.2.1, S.2.2.1, S.2.2.2.1, S.2.2.2.2.1⟩ (hM.2 H.size) cw ⟨gPx_blind, va_recv hK (gP_at hP hg) hc he, fun U hU hW9 => ⟨rfl, ⟨by rw [hU], by rw [hU]; exact gP_sub hP hC, va_K.moved hW9.alike hK, gD_T (gD_sub hD hn hC)⟩, gTH_call hTH hS hU hW9 hF⟩⟩ rfl hl hsz hst (lv_room hW) hdg hf) hS (fun q _ h => hF q h) hF (fun q _ h => hF q h) (fun E ce q9 u t H1 locs1 ht hvm hw hB hz1 hk1 hS1 hce hcv hcl => ?_) (fun u t H1 locs1 ht hvm hw hB hz1 hk1 hS1 => ?_)
  · obtain ⟨rfl, hB⟩ := hB
    obtain ⟨p1, d1⟩ := gjoin hP hD hn hC hk1 (by rw [← ht]; exact hB) (hM.1.2 _ _ hw)
    exact kx _ _ hw ce q9 H1 locs1 p1 d1 hS1 hce hcv hcl
  · obtain ⟨p1, d1⟩ := gjoin hP hD hn hC hk1 (by rw [← ht]; exact hB) (hM.1.1 _ _ hw)
    exact kk u hw H1 locs1 p1 d1 hS1
theorem g_callXSi (S : Ev p s m args meth c cc nL ret own Ts) {y : MethodName} {wsC : List Cond} {rm : Room} {index maxL n mc ms : Nat} {bytes : ByteArray} {retC : Option FieldType} {As : List Value} {gc : List va_W} {o : (Int32 × List va_W) ⊕ (String × List va_W)} (hM : mX l y wsC rm G (As) gc o (qIx G o) mc ms) (cw : (CallB R s args own index y bytes maxL retC wsC rm mc ms n ∧ (Cond.static y).before args s = true)) (hTH : gTH A s s.heap) (hK : kK G s) (hP : gP G gs H) (hD : gD A gs) (hS : va_S A s.heap H locs) (hA : ∀ q, s.heap.size ≤ q → A q) {is : List Nat} (hC : is.map (fun i => gs[i]?) = gc.map some) (hn : va_nd is = true) (hl : As.length = n) (hsz : ls.size = nL) (hst : st0 = As.reverse ++ rest) (hW : (rest.map fun v => v.category).sum ≤ 8) (hdg : decode cc pc = .ok (.invokestatic index, 3)) (hf : cells + mc ≤ R.cells ∧ slots + ms ≤ R.slots) {cells' slots' : Nat} (hc9 : cells + mc = cells') (hs9 : slots + ms = slots')
    (kk : ∀ (x : Int32) (u : List va_W), o = .inl (x, u) → ∀ (H1 : Heap) (locs1 : List Loc), gP G (gset gs is u) H1 → gD A (gset gs is u) → va_S A s.heap H1 locs1 → W p l e R s m args below meth c H1 locs1 cells' slots' Q (F0 m (pc + 3) ls (.int x :: rest)))
    (kx : ∀ (E : String) (u : List va_W), o = .inr (E, u) → ∀ (ce : Cell) (q9 : Addr) (H1 : Heap) (locs1 : List Loc), gP G (gset gs is u) H1 → gD A (gset gs is u) → va_S A s.heap H1 locs1 → H1[q9]? = some ce → ce.vm = .none → s.vm.findClass E = some ce.cls → vx_W p l e R s m args below meth c H1 locs1 cells' slots' Q (F0 m pc ls rest) q9) : W p l e R s m args below meth c H locs cells slots Q (F0 m pc ls st0) := by
  subst hc9; subst hs9
  have hF := g_free hD hS hA hC
  refine vx_calli (vx_runS (As := As) (rest := rest) ⟨S.1, S.2.1, S.2.2.1, S.2.2.2.1, S.2.2.2.2.1⟩ (hM.2 H.size) cw ⟨gPx_blind, fun U hU hW9 => ⟨rfl, ⟨by rw [hU], by rw [hU]; exact gP_sub hP hC, va_K.moved hW9.alike hK, gD_T (gD_sub hD hn hC)⟩, gTH_call hTH hS hU hW9 hF⟩⟩ rfl hl hsz hst (lv_room hW) hdg hf) hS (fun q _ h => hF q h) hF (fun q _ h => hF q h) (fun E ce q9 u t H1 locs1 ht hvm hw hB hz1 hk1 hS1 hce hcv hcl => ?_) (fun x u t H1 locs1 ht hvm hw hB hz1 hk1 hS1 => ?_)
  · obtain ⟨rfl, hB⟩ := hB
    obtain ⟨p1, d1⟩ := gjoin hP hD hn hC hk1 (by rw [← ht]; exact hB) (hM.1.2 _ _ hw)
    exact kx _ _ hw ce q9 H1 locs1 p1 d1 hS1 hce hcv hcl
  · obtain ⟨p1, d1⟩ := gjoin hP hD hn hC hk1 (by rw [← ht]; exact hB) (hM.1.1 _ _ hw)
    exact kk x u hw H1 locs1 p1 d1 hS1
theorem g_callXSv (S : Ev p s m args meth c cc nL ret own Ts) {y : MethodName} {wsC : List Cond} {rm : Room} {index maxL n mc ms : Nat} {bytes : ByteArray} {retC : Option FieldType} {As : List Value} {gc : List va_W} {o : (Unit × List va_W) ⊕ (String × List va_W)} (hM : mX l y wsC rm G (As) gc o (qVx G o) mc ms) (cw : (CallB R s args own index y bytes maxL retC wsC rm mc ms n ∧ (Cond.static y).before args s = true)) (hTH : gTH A s s.heap) (hK : kK G s) (hP : gP G gs H) (hD : gD A gs) (hS : va_S A s.heap H locs) (hA : ∀ q, s.heap.size ≤ q → A q) {is : List Nat} (hC : is.map (fun i => gs[i]?) = gc.map some) (hn : va_nd is = true) (hl : As.length = n) (hsz : ls.size = nL) (hst : st0 = As.reverse ++ rest) (hW : (rest.map fun v => v.category).sum ≤ 8) (hdg : decode cc pc = .ok (.invokestatic index, 3)) (hf : cells + mc ≤ R.cells ∧ slots + ms ≤ R.slots) {cells' slots' : Nat} (hc9 : cells + mc = cells') (hs9 : slots + ms = slots')
    (kk : ∀ (u : List va_W), o = .inl ((), u) → ∀ (H1 : Heap) (locs1 : List Loc), gP G (gset gs is u) H1 → gD A (gset gs is u) → va_S A s.heap H1 locs1 → W p l e R s m args below meth c H1 locs1 cells' slots' Q (F0 m (pc + 3) ls (rest)))
    (kx : ∀ (E : String) (u : List va_W), o = .inr (E, u) → ∀ (ce : Cell) (q9 : Addr) (H1 : Heap) (locs1 : List Loc), gP G (gset gs is u) H1 → gD A (gset gs is u) → va_S A s.heap H1 locs1 → H1[q9]? = some ce → ce.vm = .none → s.vm.findClass E = some ce.cls → vx_W p l e R s m args below meth c H1 locs1 cells' slots' Q (F0 m pc ls rest) q9) : W p l e R s m args below meth c H locs cells slots Q (F0 m pc ls st0) := by
  subst hc9; subst hs9
  have hF := g_free hD hS hA hC
  refine vx_callv (vx_runS (As := As) (rest := rest) ⟨S.1, S.2.1, S.2.2.1, S.2.2.2.1, S.2.2.2.2.1⟩ (hM.2 H.size) cw ⟨gPx_blind, fun U hU hW9 => ⟨rfl, ⟨by rw [hU], by rw [hU]; exact gP_sub hP hC, va_K.moved hW9.alike hK, gD_T (gD_sub hD hn hC)⟩, gTH_call hTH hS hU hW9 hF⟩⟩ rfl hl hsz hst (lv_room hW) hdg hf) hS (fun q _ h => hF q h) hF (fun q _ h => hF q h) (fun E ce q9 u t H1 locs1 ht hvm hw hB hz1 hk1 hS1 hce hcv hcl => ?_) (fun u t H1 locs1 ht hvm hw hB hz1 hk1 hS1 => ?_)
  · obtain ⟨rfl, hB⟩ := hB
    obtain ⟨p1, d1⟩ := gjoin hP hD hn hC hk1 (by rw [← ht]; exact hB) (hM.1.2 _ _ hw)
    exact kx _ _ hw ce q9 H1 locs1 p1 d1 hS1 hce hcv hcl
  · obtain ⟨p1, d1⟩ := gjoin hP hD hn hC hk1 (by rw [← ht]; exact hB) (hM.1.1 _ _ hw)
    exact kk u hw H1 locs1 p1 d1 hS1
end XRows
theorem vg_RX5_120 : ∀ w ∈ (vx_atS RX5 120 "java/lang/IllegalArgumentException" ["java/lang/RuntimeException", "java/lang/Exception"]).filter (fun w => !goodWord w), w ∈ lw_ngs := fun w h => (List.mem_append_left _ (List.mem_append_left _ h))
theorem vg_RX5_294 : ∀ w ∈ (vx_atS RX5 294 "java/lang/IndexOutOfBoundsException" ["java/lang/RuntimeException", "java/lang/Exception"]).filter (fun w => !goodWord w), w ∈ lw_ngs := fun w h => (List.mem_append_left _ (List.mem_append_right _ h))
theorem vg_RX5_67 : ∀ w ∈ (vx_atS RX5 67 "java/lang/IllegalStateException" ["java/lang/RuntimeException", "java/lang/Exception"]).filter (fun w => !goodWord w), w ∈ lw_ngs := fun w h => (List.mem_append_right _ h)
theorem vh_RX5_120 : ∀ w ∈ Cond.classLink RX5 116 "java/lang/IllegalArgumentException" :: Cond.initialized "java/lang/IllegalArgumentException" :: vx_atS RX5 120 "java/lang/IllegalArgumentException" ["java/lang/RuntimeException", "java/lang/Exception"], vx_ot w = true := by decide +kernel
theorem vh_RX5_294 : ∀ w ∈ Cond.classLink RX5 290 "java/lang/IndexOutOfBoundsException" :: Cond.initialized "java/lang/IndexOutOfBoundsException" :: vx_atS RX5 294 "java/lang/IndexOutOfBoundsException" ["java/lang/RuntimeException", "java/lang/Exception"], vx_ot w = true := by decide +kernel
theorem vh_RX5_67 : ∀ w ∈ Cond.classLink RX5 63 "java/lang/IllegalStateException" :: Cond.initialized "java/lang/IllegalStateException" :: vx_atS RX5 67 "java/lang/IllegalStateException" ["java/lang/RuntimeException", "java/lang/Exception"], vx_ot w = true := by decide +kernel
theorem vf_IllegalArgumentException : Bundle.fit "java/lang/IllegalArgumentException" = true := by decide +kernel
theorem vc_IllegalArgumentException : Cond.castable "java/lang/IllegalArgumentException" "java/lang/IllegalArgumentException" ∈ lw_ngs := by decide +kernel
theorem vf_IllegalStateException : Bundle.fit "java/lang/IllegalStateException" = true := by decide +kernel
theorem vc_IllegalStateException : Cond.castable "java/lang/IllegalStateException" "java/lang/IllegalStateException" ∈ lw_ngs := by decide +kernel
theorem vf_IndexOutOfBoundsException : Bundle.fit "java/lang/IndexOutOfBoundsException" = true := by decide +kernel
theorem vc_IndexOutOfBoundsException : Cond.castable "java/lang/IndexOutOfBoundsException" "java/lang/IndexOutOfBoundsException" ∈ lw_ngs := by decide +kernel
theorem vf_names : ∀ n ∈ ["java/lang/RuntimeException", "java/lang/Exception"], Bundle.fit n = true := by decide +kernel
