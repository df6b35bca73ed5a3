/-! constructors: what is made lies in new groups; a constructor's contract tells the groups that it leaves -/
def lw_nests : List (String × Nat × MethodName × String) := [(RX5, 9, yX3_init, "SavingsCircle"), (RX5, 21, yX1_init, "SavingsCircle"), (RX5, 28, yX2_init, "SavingsCircle"), (RX2, 9, yX3_init, "SavingsCircle"), (RX2, 18, yX1_init, "SavingsCircle"), (RX0, 17, yX3_init, "SavingsCircle"), (RX5, 42, yX4_init, "SavingsCircle")]
def gNS (U : State) : Prop := (∀ q ∈ lw_nests, va_Nw (.methodLinkNest q.1 q.2.1 q.2.2.1 q.2.2.2) U) ∧ va_AO "SavingsCircle$State" U
theorem gNS_warm {s U : State} (hW : s.WarmedH U.vm) (h : gNS s) : gNS U := ⟨fun q hq => va_Nw.warmM hW (h.1 q hq), h.2.moved hW.alike⟩
def gPn (G : uG) (gs : List va_W) (sz : Nat) : State → Prop := fun U => gPc G gs sz U ∧ gNS U
theorem gPn_blind {G : uG} {gs : List va_W} {sz : Nat} {av : List Value} : FrameBlind (va_Pc av (gPn G gs sz)) := fun a U g mk q => by
  obtain ⟨q0, ⟨q1, qP, qK, qD⟩, t1, t2⟩ := q
  exact ⟨q0, ⟨q1, qP, va_K.moved (u := U) (U := U.calling g mk a) (Vm.Alike.refl U.vm) qK, qD⟩, fun q hq => va_Nw.same rfl (u := U) (U := U.calling g mk a) rfl (t1 q hq), t2.moved (u := U) (U := U.calling g mk a) (Vm.Alike.refl U.vm)⟩
def qN (G : uG) (K : List va_W → Prop) (A : Nat → Prop) : Array Value → State → Outcome → State → Prop := va_Qv (fun (u : List va_W) => K u) (fun u (t : State) => gP G u t.heap ∧ gD A u) A
def mN (l : Launch) (y : MethodName) (ws : List Cond) (rm : Room) (G : uG) (av : List Value) (gs : List va_W) (K : List va_W → Prop) (mc ms : Nat) : Prop :=
  ∀ sz : Nat, Met l y ws rm (va_Pc av (gPn G gs sz)) (qN G K (gA gs sz)) mc ms (gA gs sz)
theorem mN_of {l : Launch} {y : MethodName} {ws ws' : List Cond} {rm : Room} {G : uG} {av : List Value} {gs : List va_W} {K : List va_W → Prop} {mc ms : Nat} {cc : ByteArray} {maxL : Nat} {ret : Option FieldType}
    (hy : plainName y.cls = true) (hw : ws = Cond.code y cc maxL ret :: ws') (hlen : (lg_sl av).length ≤ maxL)
    (body : ∀ (p : Program) (e : Env) (s : State) (m : MethodId) (args : Array Value) (below : List Frame) (meth : Method) (c : Code) (A : Nat → Prop) (ls : Array Slot), Ev p s m args meth c cc maxL ret y.cls ws → kK G s → (∀ q, s.heap.size ≤ q → A q) → meth.name = y.name → gNS s → gP G gs s.heap → gD A gs → va_S A s.heap s.heap [] → lv_has ls maxL (lv_args 0 av) →
      W p l e rm s m args below meth c s.heap [] 0 0 (MQ below (qN G K A) args s mc ms A) (F0 m 0 ls [])) : mN l y ws rm G av gs K mc ms := by
  refine fun sz => Met.ofW (cc := cc) (maxL := maxL) (ret := ret) hy hw ?_
  intro p e s m args below meth c s₁ B hml hv
  obtain ⟨rfl, ⟨hsz, hP, hK, hD0⟩, hNS⟩ := hv
  subst hsz
  have hl := lv_entry av (n := maxL) hlen
  rw [lg_entry_eq]
  exact body p e s m _ below meth c _ _ ⟨B.exec, B.bytes, hml, findClass_of_methodNamed B.named, atoms_spec (ws := ws) B.pre, B.returns, B.notSynchronized⟩ hK (fun q h => Or.inr h) (name_of_methodNamed B.named B.method).1 hNS hP (hD0.self (sz := s.heap.size)) va_S.rf hl
theorem fl_push {α : Type} (gs : List (List α)) (x : α) : gs.flatten ++ [x] = (gs ++ [[x]]).flatten := by simp
/-- behind a constructor: its groups at their places, with what it made -/
theorem gjoin2 {G : uG} {A0 : Nat → Prop} {gs gc u : List va_W} {H H1 : Heap} (hP : gP G gs H) (hD : gD A0 gs) {is : List Nat} (hn : va_nd is = true) (hC : is.map (fun i => gs[i]?) = gc.map some) (hlen : u.length = gc.length) (hk : ∀ q : Nat, q < H.size → ¬ gA gc H.size q → H1[q]? = H[q]?) (hF : ∀ q, gA gc H.size q → A0 q) (hP1 : gP G u H1) (hD1 : gD (gA gc H.size) u) : gP G (gset gs is u) H1 ∧ gD A0 (gset gs is u) := by
  have hlen1 : is.length = gc.length := by
    have h1 := congrArg List.length hC
    rwa [List.length_map, List.length_map] at h1
  have hlen2 : is.length = u.length := by rw [hlen1, hlen]
  have hin : ∀ i ∈ is, i < gs.length := by
    intro i hi
    obtain ⟨j, hj⟩ := List.getElem?_of_mem hi
    have h1 : (gc.map some)[j]? = some (gs[i]?) := by rw [← hC, List.getElem?_map, hj]; rfl
    rw [List.getElem?_map] at h1
    cases hg : gc[j]? with
    | none => rw [hg] at h1; cases h1
    | some g =>
      rw [hg] at h1
      have h2 : gs[i]? = some g := (Option.some.inj h1).symm
      exact (List.getElem?_eq_some_iff.mp h2).1
  have apart : ∀ (k q : Nat) (g : va_W) (x : Nat × va_E), k ∉ is → gs[k]? = some g → g[q]? = some x → ¬ gA gc H.size x.1 := by
    intro k q g x hk1 hg hx ha
    have hv := gP_at hP hg q x hx
    rcases ha with ⟨p, e, hp⟩ | ha
    · obtain ⟨k1, g1, q1, a1, b1, -⟩ := fo_inv gc p (x.1, e) hp
      obtain ⟨i, c1, c2⟩ := pl_at hC a1
      obtain ⟨rfl, -⟩ := gD_inj hD hg c2 hx b1 rfl
      exact hk1 (List.mem_of_getElem? c1)
    · exact absurd hv.lt (Nat.not_lt.mpr ha)
  refine ⟨gP_of fun k g hg => ?_, gD_of (fun k1 k2 q1 q2 g1 g2 x1 x2 h1 h2 e1 e2 he => ?_) (fun k q g x h e => ?_)⟩
  · rcases gset_get is gs u k g hn hlen2 hin hg with ⟨j, h1, h2⟩ | ⟨h1, h2⟩
    · exact gP_at hP1 h2
    · intro q x hx
      have hv := gP_at hP h2 q x hx
      exact hv.kept (hk x.1 hv.lt (apart k q g x h1 h2 hx))
  · rcases gset_get is gs u k1 g1 hn hlen2 hin h1 with ⟨j1, a1, b1⟩ | ⟨a1, b1⟩ <;> rcases gset_get is gs u k2 g2 hn hlen2 hin h2 with ⟨j2, a2, b2⟩ | ⟨a2, b2⟩
    · obtain ⟨rfl, hq⟩ := gD_inj hD1 b1 b2 e1 e2 he
      exact ⟨Option.some.inj (a1.symm.trans a2), hq⟩
    · exact absurd (by rw [← he]; exact gD_A hD1 b1 e1) (apart k2 q2 g2 x2 a2 b2 e2)
    · exact absurd (by rw [he]; exact gD_A hD1 b2 e2) (apart k1 q1 g1 x1 a1 b1 e1)
    · exact gD_inj hD b1 b2 e1 e2 he
  · rcases gset_get is gs u k g hn hlen2 hin h with ⟨j, h1, h2⟩ | ⟨h1, h2⟩
    · exact hF _ (gD_A hD1 h2 e)
    · exact gD_A hD h2 e
theorem arrV_cong {cI : ClassId} {n : Nat} {f g : Nat → Value} (h : ∀ j, j < n → f j = g j) : arrV cI n f = arrV cI n g := by
  unfold arrV
  congr 1
  exact congrArg Array.ofFn (funext fun j => h j.val j.isLt)
/-- a row of references told by another function that says the same of its places -/
theorem gP_row {G : uG} {gs : List va_W} {H : Heap} (hP : gP G gs H) (hD : gD (fun _ => True) gs) {k0 q0 n : Nat} {g : va_W} {a : Nat} {cA : ClassId} {f f' : Nat → Option Nat} (hg : gs[k0]? = some g) (ha : g[q0]? = some (a, .inl (cA, n, .inr (.inr (.inr (.inr f)))))) (h : ∀ j, j < n → f j = f' j) : gP G (gs.set k0 (g.set q0 (a, .inl (cA, n, .inr (.inr (.inr (.inr f'))))))) H := by
  have h1 := fo_set gs k0 q0 g _ hg ha (a, .inl (cA, n, .inr (.inr (.inr (.inr f')))))
  unfold gP
  rw [← h1]
  refine va_P.set (A := fun _ => True) (e0 := .inl (cA, n, .inr (.inr (.inr (.inr f))))) hP hD (fo_at gs k0 q0 g _ hg ha) ?_ (fun q _ => rfl)
  have h2 : H[a]? = some (vp_cell cA (n, .inr (.inr (.inr (.inr f))))) := gP_at hP hg q0 _ ha
  show H[a]? = some (vp_cell cA (n, .inr (.inr (.inr (.inr f')))))
  rw [h2, vp_cell_q, vp_cell_q, arrV_cong (fun j hj => by rw [h j hj])]
section CRows
variable {p : Program} {l : Launch} {e : Env} {R : Room} {s : State} {m : MethodId} {args : Array Value} {below : List Frame} {meth : Method} {c : Code} {H : Heap} {locs : List Loc} {cells slots : Nat} {Q : State → Prop}
variable {cc : ByteArray} {pc : Nat} {ls : Array Slot} {rest st0 : List Value} {G : uG} {A A0 : Nat → Prop} {a : Nat} {gs : List va_W} {H0 : Heap}
variable {nL : Nat} {ret : Option FieldType} {own : String} {Ts : List Cond}
theorem g_nret {K : List va_W → Prop} {mc ms : Nat} (hexec : p.tables.exec = Jvm.exec) (hb : c.code = cc) (hr : meth.sig.returnType = none) (hlocks : meth.locks = false) (hc : cells ≤ mc) (hs : slots ≤ ms) (hP : gP G gs H) (hD : gD A gs) (hS : va_S A s.heap H locs) (hdg : decode cc pc = .ok (.return_, 1)) (hk : K gs) : W p l e R s m args below meth c H locs cells slots (MQ below (qN G K A) args s mc ms A) (F0 m pc ls []) :=
  W.widen hc hs (W.vret hexec hb hr (fun t ht hW => ⟨⟨gs, rfl, hk, by show gP G gs t.heap ∧ gD A gs; rw [ht]; exact ⟨hP, hD⟩⟩, hS.F ht⟩) hS.2.2 hdg hlocks)
theorem g_newo (hexec : p.tables.exec = Jvm.exec) (hb : c.code = cc) {C : String} {T : u_T} {N ci index : Nat} (hts : ∀ w ∈ Ts, w.before args s = true) (hin : ∀ w ∈ u_ws C T N, w ∈ Ts) (ty : Nat → FieldType) (hty : ∀ k, k < N → parseFieldDescriptor (T k).2.2.1 = some (ty k)) (hown : s.vm.findClass own = some m.cls) (hcl : (Cond.classLink own index C).before args s = true) (hinst : (Cond.instantiable C N).before args s = true) (hini : (Cond.initialized C).before args s = true)
    (hK : kK G s) (hP : gP G gs H) (hD : gD A gs) (hS : va_S A H0 H locs) (hA : ∀ q, H0.size ≤ q → A q) (hc : vwCl[ci]? = some (C, T, N)) {fs : List Value} (hfs : ∀ j, j < N → defaultValue (ty j) = vp_V fs j) (hcells : cells + 1 ≤ R.cells) (hslots : slots + N ≤ R.slots) (hdg : decode cc pc = .ok (.new index, 3)) {cells' slots' : Nat} (hc9 : cells + 1 = cells') (hs9 : slots + N = slots')
    (kk : ∀ (q : Nat) (H1 : Heap), gP G (gs ++ [[(q, .inr (ci, fs))]]) H1 → gD A (gs ++ [[(q, .inr (ci, fs))]]) → va_S A H0 H1 locs → W p l e R s m args below meth c H1 locs cells' slots' Q (F0 m (pc + 3) ls (.ref q :: rest))) : W p l e R s m args below meth c H locs cells slots Q (F0 m pc ls rest) := by
  subst hc9; subst hs9
  refine va_new hexec hb hts hin ty hty hown hcl hinst hini hK hP hD hS hA hc hfs hcells hslots hdg fun q H1 p1 d1 s1 => ?_
  rw [fl_push] at p1 d1
  exact kk q H1 p1 d1 s1
theorem g_newi (hexec : p.tables.exec = Jvm.exec) (hb : c.code = cc) (harr : (Cond.arrayClass .int).before args s = true) (hK : kK G s) (hP : gP G gs H) (hD : gD A gs) (hS : va_S A H0 H locs) (hA : ∀ q, H0.size ≤ q → A q) {n : Int32} {N' : Nat} (hn : ¬ n < 0) (hN : n.toNatClampNeg = N') (hbytes : N' * 4 ≤ 536870912) (hcells : cells + 1 ≤ R.cells) (hslots : slots + N' ≤ R.slots) (hdg : decode cc pc = .ok (.newarray .int, 2)) {cells' slots' : Nat} (hc9 : cells + 1 = cells') (hs9 : slots + N' = slots')
    (kk : ∀ (q : Nat) (H1 : Heap), gP G (gs ++ [[(q, .inl (G.2.1, N', .inl (fun _ => (0 : Int32))))]]) H1 → gD A (gs ++ [[(q, .inl (G.2.1, N', .inl (fun _ => (0 : Int32))))]]) → va_S A H0 H1 locs → W p l e R s m args below meth c H1 locs cells' slots' Q (F0 m (pc + 2) ls (.ref q :: rest))) : W p l e R s m args below meth c H locs cells slots Q (F0 m pc ls (.int n :: rest)) := by
  subst hc9; subst hs9
  refine va_newaK hexec hb (atype := .int) harr rfl hdg rfl hn hN hbytes hcells hslots rfl fun H1 cA e1 z1 o1 hAr hNm => ?_
  have hcA : cA = G.2.1 := Option.some.inj (hNm.symm.trans (hK.2 0 _ rfl).2)
  subst hcA
  have hk : ∀ (k : Nat) (x : Nat × va_E), gs.flatten[k]? = some x → H1[x.1]? = H[x.1]? := fun k x hx => o1 x.1 ((hP k x hx).lt)
  have p1 : va_P G.1 vwCl (gs.flatten ++ [(H.size, .inl (G.2.1, N', .inl (fun _ => (0 : Int32))))]) H1 := (va_P.kept hP hk).app (fun k x hx => by
    have hz : k < 1 := (List.getElem?_eq_some_iff.mp hx).1
    rw [show k = 0 by omega] at hx
    cases hx
    exact e1)
  have d1 : va_D A (gs.flatten ++ [(H.size, .inl (G.2.1, N', .inl (fun _ => (0 : Int32))))]) := va_D.push hD hP rfl (hA _ hS.1)
  rw [fl_push] at p1 d1
  exact kk H.size H1 p1 d1 ⟨Nat.le_trans hS.1 (by omega), fun x h1 h2 => (o1 x (Nat.lt_of_lt_of_le h1 hS.1)).trans (hS.2.1 x h1 h2), hS.2.2⟩
theorem g_newz (hexec : p.tables.exec = Jvm.exec) (hb : c.code = cc) (harr : (Cond.arrayClass .boolean).before args s = true) (hK : kK G s) (hP : gP G gs H) (hD : gD A gs) (hS : va_S A H0 H locs) (hA : ∀ q, H0.size ≤ q → A q) {n : Int32} {N' : Nat} (hn : ¬ n < 0) (hN : n.toNatClampNeg = N') (hbytes : N' * 1 ≤ 536870912) (hcells : cells + 1 ≤ R.cells) (hslots : slots + N' ≤ R.slots) (hdg : decode cc pc = .ok (.newarray .boolean, 2)) {cells' slots' : Nat} (hc9 : cells + 1 = cells') (hs9 : slots + N' = slots')
    (kk : ∀ (q : Nat) (H1 : Heap), gP G (gs ++ [[(q, .inl (G.2.2.1, N', .inl (fun _ => (0 : Int32))))]]) H1 → gD A (gs ++ [[(q, .inl (G.2.2.1, N', .inl (fun _ => (0 : Int32))))]]) → va_S A H0 H1 locs → W p l e R s m args below meth c H1 locs cells' slots' Q (F0 m (pc + 2) ls (.ref q :: rest))) : W p l e R s m args below meth c H locs cells slots Q (F0 m pc ls (.int n :: rest)) := by
  subst hc9; subst hs9
  refine va_newaK hexec hb (atype := .boolean) harr rfl hdg rfl hn hN hbytes hcells hslots rfl fun H1 cA e1 z1 o1 hAr hNm => ?_
  have hcA : cA = G.2.2.1 := Option.some.inj (hNm.symm.trans (hK.2 1 _ rfl).2)
  subst hcA
  have hk : ∀ (k : Nat) (x : Nat × va_E), gs.flatten[k]? = some x → H1[x.1]? = H[x.1]? := fun k x hx => o1 x.1 ((hP k x hx).lt)
  have p1 : va_P G.1 vwCl (gs.flatten ++ [(H.size, .inl (G.2.2.1, N', .inl (fun _ => (0 : Int32))))]) H1 := (va_P.kept hP hk).app (fun k x hx => by
    have hz : k < 1 := (List.getElem?_eq_some_iff.mp hx).1
    rw [show k = 0 by omega] at hx
    cases hx
    exact e1)
  have d1 : va_D A (gs.flatten ++ [(H.size, .inl (G.2.2.1, N', .inl (fun _ => (0 : Int32))))]) := va_D.push hD hP rfl (hA _ hS.1)
  rw [fl_push] at p1 d1
  exact kk H.size H1 p1 d1 ⟨Nat.le_trans hS.1 (by omega), fun x h1 h2 => (o1 x (Nat.lt_of_lt_of_le h1 hS.1)).trans (hS.2.1 x h1 h2), hS.2.2⟩
theorem g_newr (hexec : p.tables.exec = Jvm.exec) (hb : c.code = cc) {index : Nat} (hown : s.vm.findClass own = some m.cls) (hclink : (Cond.classLink own index "SavingsCircle$State").before args s = true) (hover : va_AO "SavingsCircle$State" s) (hK : kK G s) (hP : gP G gs H) (hD : gD A gs) (hS : va_S A H0 H locs) (hA : ∀ q, H0.size ≤ q → A q) {n : Int32} {N' : Nat} (hn : ¬ n < 0) (hN : n.toNatClampNeg = N') (hbytes : N' * 4 ≤ 536870912) (hcells : cells + 1 ≤ R.cells) (hslots : slots + N' ≤ R.slots) (hdg : decode cc pc = .ok (.anewarray index, 3)) {cells' slots' : Nat} (hc9 : cells + 1 = cells') (hs9 : slots + N' = slots')
    (kk : ∀ (q : Nat) (H1 : Heap), gP G (gs ++ [[(q, .inl (G.2.2.2.1, N', .inr (.inr (.inr (.inr (fun _ => none))))))]]) H1 → gD A (gs ++ [[(q, .inl (G.2.2.2.1, N', .inr (.inr (.inr (.inr (fun _ => none))))))]]) → va_S A H0 H1 locs → W p l e R s m args below meth c H1 locs cells' slots' Q (F0 m (pc + 3) ls (.ref q :: rest))) : W p l e R s m args below meth c H locs cells slots Q (F0 m pc ls (.int n :: rest)) := by
  subst hc9; subst hs9
  refine va_newq hexec hb hown hclink hover hK hP hD hS hA hn hN hbytes hcells hslots hdg fun q cA H1 k1 p1 d1 s1 => ?_
  obtain ⟨-, -, -, -, -, h1⟩ := (k1.2 3 _ rfl).2
  obtain ⟨-, -, -, -, -, h2⟩ := (hK.2 2 _ rfl).2
  have hcA : cA = G.2.2.2.1 := Option.some.inj (h1.symm.trans h2)
  subst hcA
  rw [fl_push] at p1 d1
  exact kk q H1 p1 d1 s1
theorem g_putF (hexec : p.tables.exec = Jvm.exec) (hb : c.code = cc) {ref C : String} {T : u_T} {N ci index : Nat} (hts : ∀ w ∈ Ts, w.before args s = true) (hin : ∀ w ∈ u_ws C T N, w ∈ Ts) (ty0 : Nat → FieldType) (hty : ∀ k, k < N → parseFieldDescriptor (T k).2.2.1 = some (ty0 k)) (hnm : ∀ a, a < N → ∀ b, b < N → a ≠ b → (T a).2.1 ≠ (T b).2.1) (hown : s.vm.findClass own = some m.cls) (hK : kK G s) (hP : gP G gs H) (hD : gD A gs) (hS0 : va_S A H0 H locs) (k0 q0 : Nat) {g : va_W} {fs : List Value} (hg : gs[k0]? = some g) (he : g[q0]? = some (a, .inr (ci, fs))) (hc : vwCl[ci]? = some (C, T, N)) (k : Nat) (hk : k < N) (hlink : (Cond.fieldLink own index ref (T k).2.1 (T k).2.2.1).before args s = true) (hsame : ∀ x, s.fieldFound? (T k).1 (T k).2.1 (T k).2.2.1 = some x → s.fieldFound? ref (T k).2.1 (T k).2.2.1 = some x) (hfin : (T k).2.2.2 = true) (hin2 : meth.name = "<init>") (hdecl : (T k).1 = own) {ty : FieldType} {v : Value} (hd : parseFieldDescriptor (T k).2.2.1 = some ty) (hn : narrow ty v = v) (hfit : fits ty v = true) (hl : k < fs.length)
    (hdg : decode cc pc = .ok (.putfield index, 3)) {gs' : List va_W} (hgs : gs.set k0 (g.set q0 (a, .inr (ci, fs.set k v))) = gs') (kk : ∀ (H1 : Heap) (locs1 : List Loc), gP G gs' H1 → gD A gs' → va_S A H0 H1 locs1 → W p l e R s m args below meth c H1 locs1 cells slots Q (F0 m (pc + 3) ls rest)) : W p l e R s m args below meth c H locs cells slots Q (F0 m pc ls (v :: .ref a :: rest)) := by
  refine va_putF hexec hb hts hin ty0 hty hnm hown hK hP hD hS0 (fo gs k0 + q0) (fo_at gs k0 q0 g _ hg he) hc k hk hlink hsame hfin hin2 hdecl hd hn hfit hl hdg fun H1 locs1 p1 d1 s1 => ?_
  rw [fo_set gs k0 q0 g _ hg he, hgs] at p1 d1
  exact kk H1 locs1 p1 d1 s1
theorem g_astq (hexec : p.tables.exec = Jvm.exec) (hb : c.code = cc) (hK : kK G s) (hP : gP G gs H) (hD : gD A gs) (hS : va_S A H0 H locs) (k0 q0 kv : Nat) {g gv : va_W} {n v : Nat} {vs : List Value} {f : Nat → Option Nat} (hg : gs[k0]? = some g) (ha : g[q0]? = some (a, .inl (G.2.2.2.1, n, .inr (.inr (.inr (.inr f)))))) (hgv : gs[kv]? = some gv) (hv : gv[0]? = some (v, .inr (3, vs))) {i : Int32} (hin : vp_in i n) (hdg : decode cc pc = .ok (.aastore, 1)) {gs' : List va_W} (hgs : gs.set k0 (g.set q0 (a, .inl (G.2.2.2.1, n, .inr (.inr (.inr (.inr (va_up f i.toNatClampNeg (some v)))))))) = gs')
    (kk : ∀ (H1 : Heap) (locs1 : List Loc), gP G gs' H1 → gD A gs' → va_S A H0 H1 locs1 → W p l e R s m args below meth c H1 locs1 cells slots Q (F0 m (pc + 1) ls rest)) : W p l e R s m args below meth c H locs cells slots Q (F0 m pc ls (.ref v :: .int i :: .ref a :: rest)) := by
  refine va_astq hexec hb hK hP hD hS (fo gs k0 + q0) 2 (fo gs kv + 0) 3 (r := (RX3, TX3, 17)) (fo_at gs k0 q0 g _ hg ha) rfl (fo_at gs kv 0 gv _ hgv hv) rfl hin hdg fun H1 locs1 p1 d1 s1 => ?_
  rw [fo_set gs k0 q0 g _ hg ha, hgs] at p1 d1
  exact kk H1 locs1 p1 d1 s1
theorem g_ctorI (S : Ev p s m args meth c cc nL ret own Ts) {y : MethodName} {wsC : List Cond} {rm : Room} {index maxL n mc ms : Nat} {bytes : ByteArray} {As : List Value} {b : Nat} {gc : List va_W} {K : List va_W → Prop} (hM : mN l y wsC rm G (.ref b :: As) gc K mc ms) (cw : (CallB R s args own index y bytes maxL none wsC rm mc ms n ∧ y.name = "<init>" ∧ (Cond.instanceMethod y).before args s = true)) (hNS : gNS s) (hK : kK G s) (hP : gP G gs H) (hD : gD A0 gs) (hS : va_S A0 H0 H locs) (hA : ∀ q, H0.size ≤ q → A0 q) {is : List Nat} (hC : is.map (fun i => gs[i]?) = gc.map some) (hn : va_nd is = true) (hlen : ∀ u, K u → u.length = gc.length) (hl : As.length = n) (hsz : ls.size = nL) (hst : st0 = As.reverse ++ .ref b :: rest) (hW : (rest.map fun v => v.category).sum ≤ 8) (hdg : decode cc pc = .ok (.invokespecial index, 3)) (hf : cells + mc ≤ R.cells ∧ slots + ms ≤ R.slots) {cells' slots' : Nat} (hc9 : cells + mc = cells') (hs9 : slots + ms = slots')
    (kk : ∀ (u : List va_W), K u → ∀ (H1 : Heap) (locs1 : List Loc), gP G (gset gs is u) H1 → gD A0 (gset gs is u) → va_S A0 H0 H1 locs1 → W p l e R s m args below meth c H1 locs1 cells' slots' Q (F0 m (pc + 3) ls rest)) : W p l e R s m args below meth c H locs cells slots Q (F0 m pc ls st0) := by
  subst hc9; subst hs9
  have hF := g_free hD hS hA hC
  refine va_callv (va_runI (As := As) (rest := rest) ⟨S.1, S.2.1, S.2.2.1, S.2.2.2.1, S.2.2.2.2.1⟩ (hM H.size) cw ⟨gPn_blind, fun U hU hW9 => ⟨rfl, ⟨by rw [hU], by rw [hU]; exact gP_sub hP hC, va_K.moved hW9.alike hK, gD_T (gD_sub hD hn hC)⟩, gNS_warm hW9 hNS⟩⟩ rfl hl hsz hst (lv_room hW) hdg hf) hS (fun q _ h => hF q h) hF (fun u t H1 locs1 ht hvm hw hB hz1 hk1 hS1 => ?_)
  obtain ⟨p1, d1⟩ := gjoin2 hP hD hn hC (hlen u hw) hk1 hF (by rw [← ht]; exact hB.1) hB.2
  exact kk u hw H1 locs1 p1 d1 hS1
theorem g_ctor0 (S : Ev p s m args meth c cc nL ret own Ts) {y : MethodName} {wsC : List Cond} {rm : Room} {index maxL n mc ms : Nat} {bytes : ByteArray} {As : List Value} {b : Nat} {K : List va_W → Prop} (hM : mN l y wsC rm G (.ref b :: As) gs K mc ms) (cw : (CallB R s args own index y bytes maxL none wsC rm mc ms n ∧ y.name = "<init>" ∧ (Cond.instanceMethod y).before args s = true)) (hNS : gNS s) (hK : kK G s) (hP : gP G gs H) (hD : gD A0 gs) (hS : va_S A0 H0 H locs) (hA : ∀ q, H0.size ≤ q → A0 q) (hF : ∀ q, gA gs H.size q → A0 q) (hl : As.length = n) (hsz : ls.size = nL) (hst : st0 = As.reverse ++ .ref b :: rest) (hW : (rest.map fun v => v.category).sum ≤ 8) (hdg : decode cc pc = .ok (.invokespecial index, 3)) (hf : cells + mc ≤ R.cells ∧ slots + ms ≤ R.slots) {cells' slots' : Nat} (hc9 : cells + mc = cells') (hs9 : slots + ms = slots')
    (kk : ∀ (u : List va_W), K u → ∀ (H1 : Heap) (locs1 : List Loc), gP G u H1 → gD A0 u → va_S A0 H0 H1 locs1 → W p l e R s m args below meth c H1 locs1 cells' slots' Q (F0 m (pc + 3) ls rest)) : W p l e R s m args below meth c H locs cells slots Q (F0 m pc ls st0) := by
  subst hc9; subst hs9
  refine va_callv (va_runI (As := As) (rest := rest) ⟨S.1, S.2.1, S.2.2.1, S.2.2.2.1, S.2.2.2.2.1⟩ (hM H.size) cw ⟨gPn_blind, fun U hU hW9 => ⟨rfl, ⟨by rw [hU], by rw [hU]; exact hP, va_K.moved hW9.alike hK, gD_T hD⟩, gNS_warm hW9 hNS⟩⟩ rfl hl hsz hst (lv_room hW) hdg hf) hS (fun q _ h => hF q h) hF (fun u t H1 locs1 ht hvm hw hB hz1 hk1 hS1 => ?_)
  exact kk u hw H1 locs1 (by rw [← ht]; exact hB.1) (hB.2.weaken (fun _ _ _ h => hF _ h)) hS1
theorem g_ctorN (S : Ev p s m args meth c cc nL ret own Ts) {y : MethodName} {wsC : List Cond} {rm : Room} {index maxL n mc ms : Nat} {host : String} {bytes : ByteArray} {As : List Value} {b : Nat} {gc : List va_W} {K : List va_W → Prop} (hM : mN l y wsC rm G (.ref b :: As) gc K mc ms) (cw : (va_CN R s args own index y host bytes maxL none wsC rm mc ms n ∧ y.name = "<init>" ∧ (Cond.instanceMethod y).before args s = true)) (hNS : gNS s) (hK : kK G s) (hP : gP G gs H) (hD : gD A0 gs) (hS : va_S A0 H0 H locs) (hA : ∀ q, H0.size ≤ q → A0 q) {is : List Nat} (hC : is.map (fun i => gs[i]?) = gc.map some) (hn : va_nd is = true) (hlen : ∀ u, K u → u.length = gc.length) (hl : As.length = n) (hsz : ls.size = nL) (hst : st0 = As.reverse ++ .ref b :: rest) (hW : (rest.map fun v => v.category).sum ≤ 8) (hdg : decode cc pc = .ok (.invokespecial index, 3)) (hf : cells + mc ≤ R.cells ∧ slots + ms ≤ R.slots) {cells' slots' : Nat} (hc9 : cells + mc = cells') (hs9 : slots + ms = slots')
    (kk : ∀ (u : List va_W), K u → ∀ (H1 : Heap) (locs1 : List Loc), gP G (gset gs is u) H1 → gD A0 (gset gs is u) → va_S A0 H0 H1 locs1 → W p l e R s m args below meth c H1 locs1 cells' slots' Q (F0 m (pc + 3) ls rest)) : W p l e R s m args below meth c H locs cells slots Q (F0 m pc ls st0) := by
  subst hc9; subst hs9
  have hF := g_free hD hS hA hC
  refine va_callv (va_runIN (As := As) (rest := rest) ⟨S.1, S.2.1, S.2.2.1, S.2.2.2.1, S.2.2.2.2.1⟩ (hM H.size) cw ⟨gPn_blind, fun U hU hW9 => ⟨rfl, ⟨by rw [hU], by rw [hU]; exact gP_sub hP hC, va_K.moved hW9.alike hK, gD_T (gD_sub hD hn hC)⟩, gNS_warm hW9 hNS⟩⟩ rfl hl hsz hst (lv_room hW) hdg hf) hS (fun q _ h => hF q h) hF (fun u t H1 locs1 ht hvm hw hB hz1 hk1 hS1 => ?_)
  obtain ⟨p1, d1⟩ := gjoin2 hP hD hn hC (hlen u hw) hk1 hF (by rw [← ht]; exact hB.1) hB.2
  exact kk u hw H1 locs1 p1 d1 hS1
end CRows
