/-! contracts of methods that read the law's own script: its cell is no part of the world, and stays as it is -/
def gPs (G : uG) (gs : List va_W) (b L : Nat) (xs : Nat → Int32) (sz : Nat) : State → Prop := fun U => gPc G gs sz U ∧ va_X b L xs U U.heap ∧ b < U.heap.size ∧ ¬ gA gs sz b
theorem gPs_blind {G : uG} {gs : List va_W} {b L : Nat} {xs : Nat → Int32} {sz : Nat} {av : List Value} : FrameBlind (va_Pc av (gPs G gs b L xs sz)) := fun a U g mk q => by
  obtain ⟨q0, ⟨q1, qP, qK, qD⟩, qX, q2, q3⟩ := q
  exact ⟨q0, ⟨q1, qP, va_K.moved (u := U) (U := U.calling g mk a) (Vm.Alike.refl U.vm) qK, qD⟩, va_X.moved (u := U) (U := U.calling g mk a) (Vm.Alike.refl U.vm) qX, q2, q3⟩
def mS (l : Launch) (y : MethodName) (ws : List Cond) (rm : Room) (b L : Nat) (xs : Nat → Int32) (G : uG) (av : List Value) (gs gs' : List va_W) (Qr : (Nat → Prop) → Array Value → State → Outcome → State → Prop) : Prop :=
  gad gs' = gad gs ∧ ∀ sz : Nat, Met l y ws rm (va_Pc av (gPs G gs b L xs sz)) (Qr (gA gs sz)) 0 0 (gA gs sz)
theorem ms_of {l : Launch} {y : MethodName} {ws ws' : List Cond} {rm : Room} {b L : Nat} {xs : Nat → Int32} {G : uG} {av : List Value} {gs gs' : List va_W} {Qr : (Nat → Prop) → Array Value → State → Outcome → State → Prop} {cc : ByteArray} {maxL : Nat} {ret : Option FieldType}
    (hy : plainName y.cls = true) (hw : ws = Cond.code y cc maxL ret :: ws') (hadr : gad gs' = gad gs) (hlen : (lg_sl av).length ≤ maxL)
    (body : ∀ (p : Program) (e : Env) (s : State) (m : MethodId) (args : Array Value) (below : List Frame) (meth : Method) (c : Code) (A : Nat → Prop) (ls : Array Slot), Ev p s m args meth c cc maxL ret y.cls ws → kK G s → (∀ q, s.heap.size ≤ q → A q) → va_X b L xs s s.heap → b < s.heap.size → ¬ A b → gP G gs s.heap → gD A gs → va_S A s.heap s.heap [] → lv_has ls maxL (lv_args 0 av) →
      W p l e rm s m args below meth c s.heap [] 0 0 (MQ below (Qr A) args s 0 0 A) (F0 m 0 ls [])) : mS l y ws rm b L xs G av gs gs' Qr := by
  refine ⟨hadr, fun sz => Met.ofW (cc := cc) (maxL := maxL) (ret := ret) hy hw ?_⟩
  intro p e s m args below meth c s₁ B hml hv
  obtain ⟨rfl, ⟨hsz, hP, hK, hD0⟩, hX, hbl, hbA⟩ := hv
  subst hsz
  have hl := lv_entry av (n := maxL) hlen
  rw [lg_entry_eq]
  exact body p e s m _ below meth c _ _ ⟨B.exec, B.bytes, hml, findClass_of_methodNamed B.named, atoms_spec (ws := ws) B.pre, B.returns, B.notSynchronized⟩ hK (fun q h => Or.inr h) hX hbl hbA hP (hD0.self (sz := s.heap.size)) va_S.rf hl
section SRows
variable {p : Program} {l : Launch} {e : Env} {R : Room} {s : State} {m : MethodId} {args : Array Value} {below : List Frame} {meth : Method} {c : Code} {H : Heap} {locs : List Loc} {cells slots : Nat} {Q : State → Prop}
variable {cc : ByteArray} {pc : Nat} {ls : Array Slot} {rest st0 : List Value} {G : uG} {A A0 : Nat → Prop} {a : Nat} {gs : List va_W}
variable {nL : Nat} {ret : Option FieldType} {own : String} {Ts : List Cond}
theorem g_callSis (S : Ev p s m args meth c cc nL ret own Ts) {y : MethodName} {wsC : List Cond} {rm : Room} {b L : Nat} {xs : Nat → Int32} {index maxL n : Nat} {bytes : ByteArray} {retC : Option FieldType} {As : List Value} {gc gc' : List va_W} {r : Int32} (hM : mS l y wsC rm b L xs G (As) gc gc' (qI G gc' r)) (cw : (CallB R s args own index y bytes maxL retC wsC rm 0 0 n ∧ (Cond.static y).before args s = true)) (hX : va_X b L xs s s.heap) (hbl : b < s.heap.size) (hbA : ¬ A0 b) (hK : kK G s) (hP : gP G gs H) (hD : gD A0 gs) (hS : va_S A0 s.heap H locs) (hA : ∀ q, s.heap.size ≤ q → A0 q) {is : List Nat} (hC : is.map (fun i => gs[i]?) = gc.map some) (hn : va_nd is = true) (hl : As.length = n) (hsz : ls.size = nL) (hst : st0 = As.reverse ++ rest) (hW : (rest.map fun v => v.category).sum ≤ 8) (hdg : decode cc pc = .ok (.invokestatic index, 3)) (hf : cells + 0 ≤ R.cells ∧ slots + 0 ≤ R.slots) {gs' : List va_W} (hgs : gset gs is gc' = gs')
    (kk : ∀ (H1 : Heap) (locs1 : List Loc), gP G gs' H1 → gD A0 gs' → va_S A0 s.heap H1 locs1 → W p l e R s m args below meth c H1 locs1 cells slots Q (F0 m (pc + 3) ls (.int r :: rest))) : W p l e R s m args below meth c H locs cells slots Q (F0 m pc ls st0) := by
  have hF := g_free hD hS hA hC
  have hX1 : va_X b L xs s H := hX.kept (hS.2.1 b hbl hbA)
  have hbl1 : b < H.size := Nat.lt_of_lt_of_le hbl hS.1
  have hbA1 : ¬ gA gc H.size b := fun h => hbA (hF b h)
  refine va_calli (va_runS (As := As) (rest := rest) ⟨S.1, S.2.1, S.2.2.1, S.2.2.2.1, S.2.2.2.2.1⟩ (hM.2 H.size) cw ⟨gPs_blind, fun U hU hW9 => ⟨rfl, ⟨by rw [hU], by rw [hU]; exact gP_sub hP hC, va_K.moved hW9.alike hK, gD_T (gD_sub hD hn hC)⟩, by rw [hU]; exact va_X.moved hW9.alike hX1, by rw [hU]; exact hbl1, hbA1⟩⟩ rfl hl hsz hst (lv_room hW) hdg hf) hS (fun q _ h => hF q h) hF (fun r9 u t H1 locs1 ht hvm hw hB hz1 hk1 hS1 => ?_)
  obtain ⟨p1, d1⟩ := gjoin hP hD hn hC hk1 (by rw [← ht]; exact hB) hM.1
  rw [hgs] at p1 d1
  subst hw
  exact kk H1 locs1 p1 d1 hS1
end SRows
