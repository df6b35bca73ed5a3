/-! contracts over groups; the rows of the kit over groups -/
abbrev Ev (p : Program) (s : State) (m : MethodId) (args : Array Value) (meth : Method) (c : Code) (cc : ByteArray) (nL : Nat) (ret : Option FieldType) (own : String) (Ts : List Cond) : Prop :=
  p.tables.exec = Jvm.exec ∧ c.code = cc ∧ c.maxLocals = nL ∧ s.vm.findClass own = some m.cls ∧ (∀ w ∈ Ts, w.before args s = true) ∧ meth.sig.returnType = ret ∧ meth.locks = false
def gPc (G : uG) (gs : List va_W) (sz : Nat) : State → Prop := fun U => U.heap.size = sz ∧ gP G gs U.heap ∧ kK G U ∧ gD (fun _ => True) gs
theorem gPc_blind {G : uG} {gs : List va_W} {sz : Nat} {av : List Value} : FrameBlind (va_Pc av (gPc G gs sz)) := fun a U g mk q => by
  obtain ⟨q0, q1, qP, qK, qD⟩ := q
  exact ⟨q0, q1, qP, va_K.moved (u := U) (U := U.calling g mk a) (Vm.Alike.refl U.vm) qK, qD⟩
def qI (G : uG) (gs' : List va_W) (r : Int32) (A : Nat → Prop) : Array Value → State → Outcome → State → Prop := va_Qi (fun (x : Int32) (_ : Unit) => x = r) (fun _ (t : State) => gP G gs' t.heap) A
def qL (G : uG) (gs' : List va_W) (r : Int64) (A : Nat → Prop) : Array Value → State → Outcome → State → Prop := va_Ql (fun (x : Int64) (_ : Unit) => x = r) (fun _ (t : State) => gP G gs' t.heap) A
def qV (G : uG) (gs' : List va_W) (_ : Unit) (A : Nat → Prop) : Array Value → State → Outcome → State → Prop := va_Qv (fun (_ : Unit) => True) (fun _ (t : State) => gP G gs' t.heap) A
/-- a contract over groups: what goes in, what comes out, at the same places -/
def mQ (l : Launch) (y : MethodName) (ws : List Cond) (rm : Room) (G : uG) (av : List Value) (gs gs' : List va_W) (Qr : (Nat → Prop) → Array Value → State → Outcome → State → Prop) : Prop :=
  gad gs' = gad gs ∧ ∀ sz : Nat, Met l y ws rm (va_Pc av (gPc G gs sz)) (Qr (gA gs sz)) 0 0 (gA gs sz)
theorem m_of {l : Launch} {y : MethodName} {ws ws' : List Cond} {rm : Room} {G : uG} {av : List Value} {gs gs' : List va_W} {Qr : (Nat → Prop) → Array Value → State → Outcome → State → Prop} {cc : ByteArray} {maxL : Nat} {ret : Option FieldType}
    (hy : plainName y.cls = true) (hw : ws = Cond.code y cc maxL ret :: ws') (hadr : gad gs' = gad gs) (hlen : (lg_sl av).length ≤ maxL)
    (body : ∀ (p : Program) (e : Env) (s : State) (m : MethodId) (args : Array Value) (below : List Frame) (meth : Method) (c : Code) (A : Nat → Prop) (ls : Array Slot), Ev p s m args meth c cc maxL ret y.cls ws → kK G s → (∀ q, s.heap.size ≤ q → A q) → gP G gs s.heap → gD A gs → va_S A s.heap s.heap [] → lv_has ls maxL (lv_args 0 av) →
      W p l e rm s m args below meth c s.heap [] 0 0 (MQ below (Qr A) args s 0 0 A) (F0 m 0 ls [])) : mQ l y ws rm G av gs gs' Qr := by
  refine ⟨hadr, fun sz => Met.ofW (cc := cc) (maxL := maxL) (ret := ret) hy hw ?_⟩
  intro p e s m args below meth c s₁ B hml hv
  obtain ⟨rfl, hsz, hP, hK, hD0⟩ := hv
  subst hsz
  have hl := lv_entry av (n := maxL) hlen
  rw [lg_entry_eq]
  exact body p e s m _ below meth c _ _ ⟨B.exec, B.bytes, hml, findClass_of_methodNamed B.named, atoms_spec (ws := ws) B.pre, B.returns, B.notSynchronized⟩ hK (fun q h => Or.inr h) hP (hD0.self (sz := s.heap.size)) va_S.rf hl
section GRows
variable {p : Program} {l : Launch} {e : Env} {R : Room} {s : State} {m : MethodId} {args : Array Value} {below : List Frame} {meth : Method} {c : Code} {H : Heap} {locs : List Loc} {cells slots : Nat} {Q : State → Prop}
variable {cc : ByteArray} {pc : Nat} {ls : Array Slot} {rest st0 : List Value} {G : uG} {A A0 : Nat → Prop} {a : Nat} {gs : List va_W} {H0 : Heap}
variable {nL : Nat} {ret : Option FieldType} {own : String} {Ts : List Cond}
theorem lv_nmi {x y : Int32} (h : y = x) (k : W p l e R s m args below meth c H locs cells slots Q (F0 m pc ls (.int y :: rest))) : W p l e R s m args below meth c H locs cells slots Q (F0 m pc ls (.int x :: rest)) := by subst h; exact k
theorem lv_nml {x y : Int64} (h : y = x) (k : W p l e R s m args below meth c H locs cells slots Q (F0 m pc ls (.long y :: rest))) : W p l e R s m args below meth c H locs cells slots Q (F0 m pc ls (.long x :: rest)) := by subst h; exact k
theorem lv_nmf {x y : UInt32} (h : y = x) (k : W p l e R s m args below meth c H locs cells slots Q (F0 m pc ls (.float y :: rest))) : W p l e R s m args below meth c H locs cells slots Q (F0 m pc ls (.float x :: rest)) := by subst h; exact k
theorem g_get (hexec : p.tables.exec = Jvm.exec) (hb : c.code = cc) {ref C : String} {T : u_T} {N ci index : Nat} (hts : ∀ w ∈ Ts, w.before args s = true) (hin : ∀ w ∈ u_ws C T N, w ∈ Ts) (hown : s.vm.findClass own = some m.cls) (hK : kK G s) (hP : gP G gs H) (k0 q0 : Nat) {g : va_W} {fs : List Value} (hg : gs[k0]? = some g) (he : g[q0]? = some (a, .inr (ci, fs))) (hc : vwCl[ci]? = some (C, T, N)) (k : Nat) (hk : k < N) (hlink : (Cond.fieldLink own index ref (T k).2.1 (T k).2.2.1).before args s = true) (hsame : ∀ x, s.fieldFound? (T k).1 (T k).2.1 (T k).2.2.1 = some x → s.fieldFound? ref (T k).2.1 (T k).2.2.1 = some x) {v : Value} (hv : fs[k]? = some v) (hdg : decode cc pc = .ok (.getfield index, 3))
    (kk : W p l e R s m args below meth c H locs cells slots Q (F0 m (pc + 3) ls (v :: rest))) : W p l e R s m args below meth c H locs cells slots Q (F0 m pc ls (.ref a :: rest)) :=
  va_get hexec hb hts hin hown hK (gP_at hP hg) q0 he hc k hk hlink hsame hv hdg kk
theorem g_put (hexec : p.tables.exec = Jvm.exec) (hb : c.code = cc) {ref C : String} {T : u_T} {N ci index : Nat} (hts : ∀ w ∈ Ts, w.before args s = true) (hin : ∀ w ∈ u_ws C T N, w ∈ Ts) (ty0 : Nat → FieldType) (hty : ∀ k, k < N → parseFieldDescriptor (T k).2.2.1 = some (ty0 k)) (hnm : ∀ a, a < N → ∀ b, b < N → a ≠ b → (T a).2.1 ≠ (T b).2.1) (hown : s.vm.findClass own = some m.cls) (hK : kK G s) (hP : gP G gs H) (hD : gD A gs) (hS0 : va_S A H0 H locs) (k0 q0 : Nat) {g : va_W} {fs : List Value} (hg : gs[k0]? = some g) (he : g[q0]? = some (a, .inr (ci, fs))) (hc : vwCl[ci]? = some (C, T, N)) (k : Nat) (hk : k < N) (hlink : (Cond.fieldLink own index ref (T k).2.1 (T k).2.2.1).before args s = true) (hsame : ∀ x, s.fieldFound? (T k).1 (T k).2.1 (T k).2.2.1 = some x → s.fieldFound? ref (T k).2.1 (T k).2.2.1 = some x) (hfin : (T k).2.2.2 = false) {ty : FieldType} {v : Value} (hd : parseFieldDescriptor (T k).2.2.1 = some ty) (hn : narrow ty v = v) (hfit : fits ty v = true) (hl : k < fs.length)
    (hdg : decode cc pc = .ok (.putfield index, 3)) {gs' : List va_W} (hgs : gs.set k0 (g.set q0 (a, .inr (ci, fs.set k v))) = gs') (kk : ∀ (H1 : Heap) (locs1 : List Loc), gP G gs' H1 → gD A gs' → va_S A H0 H1 locs1 → W p l e R s m args below meth c H1 locs1 cells slots Q (F0 m (pc + 3) ls rest)) : W p l e R s m args below meth c H locs cells slots Q (F0 m pc ls (v :: .ref a :: rest)) := by
  refine va_put hexec hb hts hin ty0 hty hnm hown hK hP hD hS0 (fo gs k0 + q0) (fo_at gs k0 q0 g _ hg he) hc k hk hlink hsame hfin hd hn hfit hl hdg fun H1 locs1 p1 d1 s1 => ?_
  rw [fo_set gs k0 q0 g _ hg he, hgs] at p1 d1
  exact kk H1 locs1 p1 d1 s1
theorem g_iald (hexec : p.tables.exec = Jvm.exec) (hb : c.code = cc) (hK : kK G s) (hP : gP G gs H) (k0 q0 t0 : Nat) {g : va_W} {cA : ClassId} {n : Nat} {f : Nat → Int32} (hg : gs[k0]? = some g) (ha : g[q0]? = some (a, .inl (cA, n, .inl f))) (ht : (kT G)[t0]? = some (cA, .int)) {i : Int32} (hin : vp_in i n) (hdg : decode cc pc = .ok (.iaload, 1))
    (kk : W p l e R s m args below meth c H locs cells slots Q (F0 m (pc + 1) ls (.int (f i.toNatClampNeg) :: rest))) : W p l e R s m args below meth c H locs cells slots Q (F0 m pc ls (.int i :: .ref a :: rest)) :=
  va_iald hexec hb hK (gP_at hP hg) q0 t0 ha ht hin hdg kk
theorem g_zald (hexec : p.tables.exec = Jvm.exec) (hb : c.code = cc) (hK : kK G s) (hP : gP G gs H) (k0 q0 t0 : Nat) {g : va_W} {cA : ClassId} {n : Nat} {f : Nat → Int32} (hg : gs[k0]? = some g) (ha : g[q0]? = some (a, .inl (cA, n, .inl f))) (ht : (kT G)[t0]? = some (cA, .boolean)) {i : Int32} (hin : vp_in i n) (hdg : decode cc pc = .ok (.baload, 1))
    (kk : W p l e R s m args below meth c H locs cells slots Q (F0 m (pc + 1) ls (.int (f i.toNatClampNeg) :: rest))) : W p l e R s m args below meth c H locs cells slots Q (F0 m pc ls (.int i :: .ref a :: rest)) :=
  va_zald hexec hb hK (gP_at hP hg) q0 t0 ha ht hin hdg kk
theorem g_lald (hexec : p.tables.exec = Jvm.exec) (hb : c.code = cc) (hK : kK G s) (hP : gP G gs H) (k0 q0 t0 : Nat) {g : va_W} {cA : ClassId} {n : Nat} {f : Nat → Int64} (hg : gs[k0]? = some g) (ha : g[q0]? = some (a, .inl (cA, n, .inr (.inl f)))) (ht : (kT G)[t0]? = some (cA, .long)) {i : Int32} (hin : vp_in i n) (hdg : decode cc pc = .ok (.laload, 1))
    (kk : W p l e R s m args below meth c H locs cells slots Q (F0 m (pc + 1) ls (.long (f i.toNatClampNeg) :: rest))) : W p l e R s m args below meth c H locs cells slots Q (F0 m pc ls (.int i :: .ref a :: rest)) :=
  va_lald hexec hb hK (gP_at hP hg) q0 t0 ha ht hin hdg kk
theorem g_iast (hexec : p.tables.exec = Jvm.exec) (hb : c.code = cc) (hK : kK G s) (hP : gP G gs H) (hD : gD A gs) (hS : va_S A H0 H locs) (k0 q0 t0 : Nat) {g : va_W} {cA : ClassId} {n : Nat} {f : Nat → Int32} (hg : gs[k0]? = some g) (ha : g[q0]? = some (a, .inl (cA, n, .inl f))) (ht : (kT G)[t0]? = some (cA, .int)) {i : Int32} {x : Int32} (hin : vp_in i n) (hdg : decode cc pc = .ok (.iastore, 1)) {gs' : List va_W} (hgs : gs.set k0 (g.set q0 (a, .inl (cA, n, .inl (upd f i.toNatClampNeg x)))) = gs')
    (kk : ∀ (H1 : Heap) (locs1 : List Loc), gP G gs' H1 → gD A gs' → va_S A H0 H1 locs1 → W p l e R s m args below meth c H1 locs1 cells slots Q (F0 m (pc + 1) ls rest)) : W p l e R s m args below meth c H locs cells slots Q (F0 m pc ls (.int x :: .int i :: .ref a :: rest)) := by
  refine va_iast hexec hb hK hP hD hS (fo gs k0 + q0) t0 (fo_at gs k0 q0 g _ hg ha) ht hin hdg fun H1 locs1 p1 d1 s1 => ?_
  rw [fo_set gs k0 q0 g _ hg ha, hgs] at p1 d1
  exact kk H1 locs1 p1 d1 s1
theorem g_zast (hexec : p.tables.exec = Jvm.exec) (hb : c.code = cc) (hK : kK G s) (hP : gP G gs H) (hD : gD A gs) (hS : va_S A H0 H locs) (k0 q0 t0 : Nat) {g : va_W} {cA : ClassId} {n : Nat} {f : Nat → Int32} (hg : gs[k0]? = some g) (ha : g[q0]? = some (a, .inl (cA, n, .inl f))) (ht : (kT G)[t0]? = some (cA, .boolean)) {i : Int32} {x : Int32} (hin : vp_in i n) (hdg : decode cc pc = .ok (.bastore, 1)) {gs' : List va_W} (hgs : gs.set k0 (g.set q0 (a, .inl (cA, n, .inl (upd f i.toNatClampNeg (vp_nar .boolean x))))) = gs')
    (kk : ∀ (H1 : Heap) (locs1 : List Loc), gP G gs' H1 → gD A gs' → va_S A H0 H1 locs1 → W p l e R s m args below meth c H1 locs1 cells slots Q (F0 m (pc + 1) ls rest)) : W p l e R s m args below meth c H locs cells slots Q (F0 m pc ls (.int x :: .int i :: .ref a :: rest)) := by
  refine va_zast hexec hb hK hP hD hS (fo gs k0 + q0) t0 (fo_at gs k0 q0 g _ hg ha) ht hin hdg fun H1 locs1 p1 d1 s1 => ?_
  rw [fo_set gs k0 q0 g _ hg ha, hgs] at p1 d1
  exact kk H1 locs1 p1 d1 s1
theorem g_last (hexec : p.tables.exec = Jvm.exec) (hb : c.code = cc) (hK : kK G s) (hP : gP G gs H) (hD : gD A gs) (hS : va_S A H0 H locs) (k0 q0 t0 : Nat) {g : va_W} {cA : ClassId} {n : Nat} {f : Nat → Int64} (hg : gs[k0]? = some g) (ha : g[q0]? = some (a, .inl (cA, n, .inr (.inl f)))) (ht : (kT G)[t0]? = some (cA, .long)) {i : Int32} {x : Int64} (hin : vp_in i n) (hdg : decode cc pc = .ok (.lastore, 1)) {gs' : List va_W} (hgs : gs.set k0 (g.set q0 (a, .inl (cA, n, .inr (.inl (vp_updL f i.toNatClampNeg x))))) = gs')
    (kk : ∀ (H1 : Heap) (locs1 : List Loc), gP G gs' H1 → gD A gs' → va_S A H0 H1 locs1 → W p l e R s m args below meth c H1 locs1 cells slots Q (F0 m (pc + 1) ls rest)) : W p l e R s m args below meth c H locs cells slots Q (F0 m pc ls (.long x :: .int i :: .ref a :: rest)) := by
  refine va_last hexec hb hK hP hD hS (fo gs k0 + q0) t0 (fo_at gs k0 q0 g _ hg ha) ht hin hdg fun H1 locs1 p1 d1 s1 => ?_
  rw [fo_set gs k0 q0 g _ hg ha, hgs] at p1 d1
  exact kk H1 locs1 p1 d1 s1
theorem g_alen (hexec : p.tables.exec = Jvm.exec) (hb : c.code = cc) (hK : kK G s) (hP : gP G gs H) (k0 q0 t0 : Nat) {g : va_W} {cA : ClassId} {x : vp_A} (hg : gs[k0]? = some g) (ha : g[q0]? = some (a, .inl (cA, x))) {ty : FieldType} (ht : (kT G)[t0]? = some (cA, ty)) {v : Int32} (hv : Int32.ofNat x.1 = v) (hdg : decode cc pc = .ok (.arraylength, 1))
    (kk : W p l e R s m args below meth c H locs cells slots Q (F0 m (pc + 1) ls (.int v :: rest))) : W p l e R s m args below meth c H locs cells slots Q (F0 m pc ls (.ref a :: rest)) :=
  va_alen hexec hb hK (gP_at hP hg) q0 t0 ha ht hv hdg kk
theorem g_iret {r : Int32} (hexec : p.tables.exec = Jvm.exec) (hb : c.code = cc) (hr : meth.sig.returnType = some .int) (hlocks : meth.locks = false) (hP : gP G gs H) (hS : va_S A s.heap H locs) (hdg : decode cc pc = .ok (.ireturn, 1)) : W p l e R s m args below meth c H locs cells slots (MQ below (qI G gs r A) args s cells slots A) (F0 m pc ls [.int r]) :=
  W.iret hexec hb hr (fun t ht hW => ⟨⟨r, (), rfl, rfl, by show gP G gs t.heap; rw [ht]; exact hP⟩, hS.F ht⟩) hS.2.2 hdg hlocks
theorem g_lret {r : Int64} (hexec : p.tables.exec = Jvm.exec) (hb : c.code = cc) (hr : meth.sig.returnType = some .long) (hlocks : meth.locks = false) (hP : gP G gs H) (hS : va_S A s.heap H locs) (hdg : decode cc pc = .ok (.lreturn, 1)) : W p l e R s m args below meth c H locs cells slots (MQ below (qL G gs r A) args s cells slots A) (F0 m pc ls [.long r]) :=
  W.lret hexec hb hr (fun t ht hW => ⟨⟨r, (), rfl, rfl, by show gP G gs t.heap; rw [ht]; exact hP⟩, hS.F ht⟩) hS.2.2 hdg hlocks
theorem g_vret (hexec : p.tables.exec = Jvm.exec) (hb : c.code = cc) (hr : meth.sig.returnType = none) (hlocks : meth.locks = false) (hP : gP G gs H) (hS : va_S A s.heap H locs) (hdg : decode cc pc = .ok (.return_, 1)) : W p l e R s m args below meth c H locs cells slots (MQ below (qV G gs () A) args s cells slots A) (F0 m pc ls []) :=
  W.vret hexec hb hr (fun t ht hW => ⟨⟨(), rfl, trivial, by show gP G gs t.heap; rw [ht]; exact hP⟩, hS.F ht⟩) hS.2.2 hdg hlocks
theorem g_zret {r : Int32} {ty : FieldType} (hexec : p.tables.exec = Jvm.exec) (hb : c.code = cc) (hr : meth.sig.returnType = some ty) (hn : narrow ty (.int r) = .int r) (hlocks : meth.locks = false) (hP : gP G gs H) (hS : va_S A s.heap H locs) (hdg : decode cc pc = .ok (.ireturn, 1)) : W p l e R s m args below meth c H locs cells slots (MQ below (qI G gs r A) args s cells slots A) (F0 m pc ls [.int r]) :=
  W.zret hexec hb hr hn (fun t ht hW => ⟨⟨r, (), rfl, rfl, by show gP G gs t.heap; rw [ht]; exact hP⟩, hS.F ht⟩) hS.2.2 hdg hlocks
theorem g_callVi (S : Ev p s m args meth c cc nL ret own Ts) {y : MethodName} {wsC : List Cond} {rm : Room} {index maxL n : Nat} {C : String} {bytes : ByteArray} {retC : Option FieldType} {As : List Value} {b : Nat} {gc gc' : List va_W} {r : Int32} (hM : mQ l y wsC rm G (.ref b :: As) gc gc' (qI G gc' r)) (cw : CallW R s args own C index y bytes maxL retC wsC rm 0 0 n) (hK : kK G s) (hP : gP G gs H) (hD : gD A0 gs) (hS : va_S A0 H0 H locs) (hA : ∀ q, H0.size ≤ q → A0 q) {is : List Nat} (hC : is.map (fun i => gs[i]?) = gc.map some) (hn : va_nd is = true) (kr : Nat) {g : va_W} {ci : Nat} {fs : List Value} {T : u_T} {N : Nat} (hg : gs[kr]? = some g) (he : g[0]? = some (b, .inr (ci, fs))) (hc : vwCl[ci]? = some (C, T, N)) (hl : As.length = n) (hsz : ls.size = nL) (hst : st0 = As.reverse ++ .ref b :: rest) (hW : (rest.map fun v => v.category).sum ≤ 8) (hdg : decode cc pc = .ok (.invokevirtual index, 3)) (hf : cells + 0 ≤ R.cells ∧ slots + 0 ≤ R.slots) {gs' : List va_W} (hgs : gset gs is gc' = gs')
    (kk : ∀ (H1 : Heap) (locs1 : List Loc), gP G gs' H1 → gD A0 gs' → va_S A0 H0 H1 locs1 → W p l e R s m args below meth c H1 locs1 cells slots Q (F0 m (pc + 3) ls (.int r :: rest))) : W p l e R s m args below meth c H locs cells slots Q (F0 m pc ls st0) := by
  have hF := g_free hD hS hA hC
  refine va_calli (va_runV (As := As) (rest := rest) ⟨S.1, S.2.1, S.2.2.1, S.2.2.2.1, S.2.2.2.2.1⟩ (hM.2 H.size) cw ⟨gPc_blind, va_recv hK (gP_at hP hg) hc he, fun U hU hW9 => ⟨rfl, by rw [hU], by rw [hU]; exact gP_sub hP hC, va_K.moved hW9.alike hK, gD_T (gD_sub hD hn hC)⟩⟩ rfl hl hsz hst (lv_room hW) hdg hf) hS (fun q _ h => hF q h) hF (fun r9 u t H1 locs1 ht hvm hw hB hz1 hk1 hS1 => ?_)
  obtain ⟨p1, d1⟩ := gjoin hP hD hn hC hk1 (by rw [← ht]; exact hB) hM.1
  rw [hgs] at p1 d1
  subst hw
  exact kk H1 locs1 p1 d1 hS1
theorem g_callVl (S : Ev p s m args meth c cc nL ret own Ts) {y : MethodName} {wsC : List Cond} {rm : Room} {index maxL n : Nat} {C : String} {bytes : ByteArray} {retC : Option FieldType} {As : List Value} {b : Nat} {gc gc' : List va_W} {r : Int64} (hM : mQ l y wsC rm G (.ref b :: As) gc gc' (qL G gc' r)) (cw : CallW R s args own C index y bytes maxL retC wsC rm 0 0 n) (hK : kK G s) (hP : gP G gs H) (hD : gD A0 gs) (hS : va_S A0 H0 H locs) (hA : ∀ q, H0.size ≤ q → A0 q) {is : List Nat} (hC : is.map (fun i => gs[i]?) = gc.map some) (hn : va_nd is = true) (kr : Nat) {g : va_W} {ci : Nat} {fs : List Value} {T : u_T} {N : Nat} (hg : gs[kr]? = some g) (he : g[0]? = some (b, .inr (ci, fs))) (hc : vwCl[ci]? = some (C, T, N)) (hl : As.length = n) (hsz : ls.size = nL) (hst : st0 = As.reverse ++ .ref b :: rest) (hW : (rest.map fun v => v.category).sum ≤ 8) (hdg : decode cc pc = .ok (.invokevirtual index, 3)) (hf : cells + 0 ≤ R.cells ∧ slots + 0 ≤ R.slots) {gs' : List va_W} (hgs : gset gs is gc' = gs')
    (kk : ∀ (H1 : Heap) (locs1 : List Loc), gP G gs' H1 → gD A0 gs' → va_S A0 H0 H1 locs1 → W p l e R s m args below meth c H1 locs1 cells slots Q (F0 m (pc + 3) ls (.long r :: rest))) : W p l e R s m args below meth c H locs cells slots Q (F0 m pc ls st0) := by
  have hF := g_free hD hS hA hC
  refine va_calll (va_runV (As := As) (rest := rest) ⟨S.1, S.2.1, S.2.2.1, S.2.2.2.1, S.2.2.2.2.1⟩ (hM.2 H.size) cw ⟨gPc_blind, va_recv hK (gP_at hP hg) hc he, fun U hU hW9 => ⟨rfl, by rw [hU], by rw [hU]; exact gP_sub hP hC, va_K.moved hW9.alike hK, gD_T (gD_sub hD hn hC)⟩⟩ rfl hl hsz hst (lv_room hW) hdg hf) hS (fun q _ h => hF q h) hF (fun r9 u t H1 locs1 ht hvm hw hB hz1 hk1 hS1 => ?_)
  obtain ⟨p1, d1⟩ := gjoin hP hD hn hC hk1 (by rw [← ht]; exact hB) hM.1
  rw [hgs] at p1 d1
  subst hw
  exact kk H1 locs1 p1 d1 hS1
theorem g_callVv (S : Ev p s m args meth c cc nL ret own Ts) {y : MethodName} {wsC : List Cond} {rm : Room} {index maxL n : Nat} {C : String} {bytes : ByteArray} {retC : Option FieldType} {As : List Value} {b : Nat} {gc gc' : List va_W} {r : Unit} (hM : mQ l y wsC rm G (.ref b :: As) gc gc' (qV G gc' r)) (cw : CallW R s args own C index y bytes maxL retC wsC rm 0 0 n) (hK : kK G s) (hP : gP G gs H) (hD : gD A0 gs) (hS : va_S A0 H0 H locs) (hA : ∀ q, H0.size ≤ q → A0 q) {is : List Nat} (hC : is.map (fun i => gs[i]?) = gc.map some) (hn : va_nd is = true) (kr : Nat) {g : va_W} {ci : Nat} {fs : List Value} {T : u_T} {N : Nat} (hg : gs[kr]? = some g) (he : g[0]? = some (b, .inr (ci, fs))) (hc : vwCl[ci]? = some (C, T, N)) (hl : As.length = n) (hsz : ls.size = nL) (hst : st0 = As.reverse ++ .ref b :: rest) (hW : (rest.map fun v => v.category).sum ≤ 8) (hdg : decode cc pc = .ok (.invokevirtual index, 3)) (hf : cells + 0 ≤ R.cells ∧ slots + 0 ≤ R.slots) {gs' : List va_W} (hgs : gset gs is gc' = gs')
    (kk : ∀ (H1 : Heap) (locs1 : List Loc), gP G gs' H1 → gD A0 gs' → va_S A0 H0 H1 locs1 → W p l e R s m args below meth c H1 locs1 cells slots Q (F0 m (pc + 3) ls (rest))) : W p l e R s m args below meth c H locs cells slots Q (F0 m pc ls st0) := by
  have hF := g_free hD hS hA hC
  refine va_callv (va_runV (As := As) (rest := rest) ⟨S.1, S.2.1, S.2.2.1, S.2.2.2.1, S.2.2.2.2.1⟩ (hM.2 H.size) cw ⟨gPc_blind, va_recv hK (gP_at hP hg) hc he, fun U hU hW9 => ⟨rfl, by rw [hU], by rw [hU]; exact gP_sub hP hC, va_K.moved hW9.alike hK, gD_T (gD_sub hD hn hC)⟩⟩ rfl hl hsz hst (lv_room hW) hdg hf) hS (fun q _ h => hF q h) hF (fun u t H1 locs1 ht hvm hw hB hz1 hk1 hS1 => ?_)
  obtain ⟨p1, d1⟩ := gjoin hP hD hn hC hk1 (by rw [← ht]; exact hB) hM.1
  rw [hgs] at p1 d1
  skip
  exact kk H1 locs1 p1 d1 hS1
theorem g_callSi (S : Ev p s m args meth c cc nL ret own Ts) {y : MethodName} {wsC : List Cond} {rm : Room} {index maxL n : Nat} {bytes : ByteArray} {retC : Option FieldType} {As : List Value} {gc gc' : List va_W} {r : Int32} (hM : mQ l y wsC rm G (As) gc gc' (qI G gc' r)) (cw : (CallB R s args own index y bytes maxL retC wsC rm 0 0 n ∧ (Cond.static y).before args s = true)) (hK : kK G s) (hP : gP G gs H) (hD : gD A0 gs) (hS : va_S A0 H0 H locs) (hA : ∀ q, H0.size ≤ q → A0 q) {is : List Nat} (hC : is.map (fun i => gs[i]?) = gc.map some) (hn : va_nd is = true) (hl : As.length = n) (hsz : ls.size = nL) (hst : st0 = As.reverse ++ rest) (hW : (rest.map fun v => v.category).sum ≤ 8) (hdg : decode cc pc = .ok (.invokestatic index, 3)) (hf : cells + 0 ≤ R.cells ∧ slots + 0 ≤ R.slots) {gs' : List va_W} (hgs : gset gs is gc' = gs')
    (kk : ∀ (H1 : Heap) (locs1 : List Loc), gP G gs' H1 → gD A0 gs' → va_S A0 H0 H1 locs1 → W p l e R s m args below meth c H1 locs1 cells slots Q (F0 m (pc + 3) ls (.int r :: rest))) : W p l e R s m args below meth c H locs cells slots Q (F0 m pc ls st0) := by
  have hF := g_free hD hS hA hC
  refine va_calli (va_runS (As := As) (rest := rest) ⟨S.1, S.2.1, S.2.2.1, S.2.2.2.1, S.2.2.2.2.1⟩ (hM.2 H.size) cw ⟨gPc_blind, fun U hU hW9 => ⟨rfl, by rw [hU], by rw [hU]; exact gP_sub hP hC, va_K.moved hW9.alike hK, gD_T (gD_sub hD hn hC)⟩⟩ rfl hl hsz hst (lv_room hW) hdg hf) hS (fun q _ h => hF q h) hF (fun r9 u t H1 locs1 ht hvm hw hB hz1 hk1 hS1 => ?_)
  obtain ⟨p1, d1⟩ := gjoin hP hD hn hC hk1 (by rw [← ht]; exact hB) hM.1
  rw [hgs] at p1 d1
  subst hw
  exact kk H1 locs1 p1 d1 hS1
theorem g_callSl (S : Ev p s m args meth c cc nL ret own Ts) {y : MethodName} {wsC : List Cond} {rm : Room} {index maxL n : Nat} {bytes : ByteArray} {retC : Option FieldType} {As : List Value} {gc gc' : List va_W} {r : Int64} (hM : mQ l y wsC rm G (As) gc gc' (qL G gc' r)) (cw : (CallB R s args own index y bytes maxL retC wsC rm 0 0 n ∧ (Cond.static y).before args s = true)) (hK : kK G s) (hP : gP G gs H) (hD : gD A0 gs) (hS : va_S A0 H0 H locs) (hA : ∀ q, H0.size ≤ q → A0 q) {is : List Nat} (hC : is.map (fun i => gs[i]?) = gc.map some) (hn : va_nd is = true) (hl : As.length = n) (hsz : ls.size = nL) (hst : st0 = As.reverse ++ rest) (hW : (rest.map fun v => v.category).sum ≤ 8) (hdg : decode cc pc = .ok (.invokestatic index, 3)) (hf : cells + 0 ≤ R.cells ∧ slots + 0 ≤ R.slots) {gs' : List va_W} (hgs : gset gs is gc' = gs')
    (kk : ∀ (H1 : Heap) (locs1 : List Loc), gP G gs' H1 → gD A0 gs' → va_S A0 H0 H1 locs1 → W p l e R s m args below meth c H1 locs1 cells slots Q (F0 m (pc + 3) ls (.long r :: rest))) : W p l e R s m args below meth c H locs cells slots Q (F0 m pc ls st0) := by
  have hF := g_free hD hS hA hC
  refine va_calll (va_runS (As := As) (rest := rest) ⟨S.1, S.2.1, S.2.2.1, S.2.2.2.1, S.2.2.2.2.1⟩ (hM.2 H.size) cw ⟨gPc_blind, fun U hU hW9 => ⟨rfl, by rw [hU], by rw [hU]; exact gP_sub hP hC, va_K.moved hW9.alike hK, gD_T (gD_sub hD hn hC)⟩⟩ rfl hl hsz hst (lv_room hW) hdg hf) hS (fun q _ h => hF q h) hF (fun r9 u t H1 locs1 ht hvm hw hB hz1 hk1 hS1 => ?_)
  obtain ⟨p1, d1⟩ := gjoin hP hD hn hC hk1 (by rw [← ht]; exact hB) hM.1
  rw [hgs] at p1 d1
  subst hw
  exact kk H1 locs1 p1 d1 hS1
theorem g_callSv (S : Ev p s m args meth c cc nL ret own Ts) {y : MethodName} {wsC : List Cond} {rm : Room} {index maxL n : Nat} {bytes : ByteArray} {retC : Option FieldType} {As : List Value} {gc gc' : List va_W} {r : Unit} (hM : mQ l y wsC rm G (As) gc gc' (qV G gc' r)) (cw : (CallB R s args own index y bytes maxL retC wsC rm 0 0 n ∧ (Cond.static y).before args s = true)) (hK : kK G s) (hP : gP G gs H) (hD : gD A0 gs) (hS : va_S A0 H0 H locs) (hA : ∀ q, H0.size ≤ q → A0 q) {is : List Nat} (hC : is.map (fun i => gs[i]?) = gc.map some) (hn : va_nd is = true) (hl : As.length = n) (hsz : ls.size = nL) (hst : st0 = As.reverse ++ rest) (hW : (rest.map fun v => v.category).sum ≤ 8) (hdg : decode cc pc = .ok (.invokestatic index, 3)) (hf : cells + 0 ≤ R.cells ∧ slots + 0 ≤ R.slots) {gs' : List va_W} (hgs : gset gs is gc' = gs')
    (kk : ∀ (H1 : Heap) (locs1 : List Loc), gP G gs' H1 → gD A0 gs' → va_S A0 H0 H1 locs1 → W p l e R s m args below meth c H1 locs1 cells slots Q (F0 m (pc + 3) ls (rest))) : W p l e R s m args below meth c H locs cells slots Q (F0 m pc ls st0) := by
  have hF := g_free hD hS hA hC
  refine va_callv (va_runS (As := As) (rest := rest) ⟨S.1, S.2.1, S.2.2.1, S.2.2.2.1, S.2.2.2.2.1⟩ (hM.2 H.size) cw ⟨gPc_blind, fun U hU hW9 => ⟨rfl, by rw [hU], by rw [hU]; exact gP_sub hP hC, va_K.moved hW9.alike hK, gD_T (gD_sub hD hn hC)⟩⟩ rfl hl hsz hst (lv_room hW) hdg hf) hS (fun q _ h => hF q h) hF (fun u t H1 locs1 ht hvm hw hB hz1 hk1 hS1 => ?_)
  obtain ⟨p1, d1⟩ := gjoin hP hD hn hC hk1 (by rw [← ht]; exact hB) hM.1
  rw [hgs] at p1 d1
  skip
  exact kk H1 locs1 p1 d1 hS1
theorem g_ldcfw (hexec : p.tables.exec = Jvm.exec) (hb : c.code = cc) {index : Nat} {v : UInt32} (hown : s.vm.findClass own = some m.cls) (hconst : (Jvm.Cond.constantFloat own index v).before args s = true) (hdg : decode cc pc = .ok (.ldc_w index, 3)) (kk : W p l e R s m args below meth c H locs cells slots Q (F0 m (pc + 3) ls (.float v :: rest))) : W p l e R s m args below meth c H locs cells slots Q (F0 m pc ls rest) := by
  intro T hT X
  obtain ⟨t, a9, b9⟩ := kk T hT X
  refine ⟨t, ?_, b9⟩
  obtain ⟨k, cf, hk, hcf, hcp⟩ := Cond.constantFloat_spec hown hconst
  obtain ⟨k', hk', he⟩ := X.warmed.alike.2.2 _ _ hk
  have hdg9 : decode c.code pc = .ok (.ldc_w index, 3) := by rw [hb]; exact hdg
  jvm_step X.here [hexec, hdg9, ldc_w.wp_float (s := T) (f := F0 m pc ls rest) X.here.top hk' (by rw [he]; exact hcf) hcp]
  exact a9
end GRows
