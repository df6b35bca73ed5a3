/-! a call of one of the law's helpers -/
section HRows
variable {p : Program} {l : Launch} {e : Env} {R : Room} {s : State} {m : MethodId} {args : Array Value} {below : List Frame} {meth : Method} {c : Code} {H : Heap} {locs : List Loc} {cells slots : Nat} {Q : State → Prop}
variable {cc : ByteArray} {pc : Nat} {ls : Array Slot} {rest st0 : List Value} {G : uG} {A : Nat → Prop} {gs : List va_W}
variable {nL : Nat} {ret : Option FieldType} {own : String} {Ts : List Cond}
theorem g_callHi (S : Ev p s m args meth c cc nL ret own Ts) {y : MethodName} {wsC : List Cond} {rm : Room} {index maxL n mc ms : Nat} {bytes : ByteArray} {retC : Option FieldType} {hh : List (Nat × Nat × Nat × Nat)} {As : List Value} {gc gc' : List va_W} {r : Int32} (hM : mH l y wsC rm G As gc gc' (qI G gc' r) mc ms) (cw : vx_CSW R s args own index y bytes maxL retC hh wsC rm mc ms n) (hTH : gTH A s s.heap) (hK : kK G s) (hP : gP G gs H) (hD : gD A gs) (hS : va_S A s.heap H locs) (hA : ∀ q, s.heap.size ≤ q → A q) {is : List Nat} (hC : is.map (fun i => gs[i]?) = gc.map some) (hn : va_nd is = true) (hl : As.length = n) (hsz : ls.size = nL) (hst : st0 = As.reverse ++ rest) (hW : (rest.map fun v => v.category).sum ≤ 8) (hdg : decode cc pc = .ok (.invokestatic index, 3)) (hf : cells + mc ≤ R.cells ∧ slots + ms ≤ R.slots) {gs' : List va_W} (hgs : gset gs is gc' = gs')
    (kk : ∀ (H1 : Heap) (locs1 : List Loc), gP G gs' H1 → gD A gs' → va_S A s.heap H1 locs1 → W p l e R s m args below meth c H1 locs1 (cells + mc) (slots + ms) Q (F0 m (pc + 3) ls (.int r :: rest))) : W p l e R s m args below meth c H locs cells slots Q (F0 m pc ls st0) := by
  have hF := g_free hD hS hA hC
  refine va_calli (vx_runSW (As := As) (rest := rest) ⟨S.1, S.2.1, S.2.2.1, S.2.2.2.1, S.2.2.2.2.1⟩ (hM.2 H.size) cw ⟨gPx_blind, fun U hU hW9 => ⟨rfl, ⟨by rw [hU], by rw [hU]; exact gP_sub hP hC, va_K.moved hW9.alike hK, gD_T (gD_sub hD hn hC)⟩, gTH_call hTH hS hU hW9 hF⟩⟩ rfl hl hsz hst (lv_room hW) hdg hf) hS (fun q _ h => hF q h) hF (fun r9 u t H1 locs1 ht hvm hw hB hz1 hk1 hS1 => ?_)
  obtain ⟨p1, d1⟩ := gjoin hP hD hn hC hk1 (by rw [← ht]; exact hB) hM.1
  rw [hgs] at p1 d1
  subst hw
  exact kk H1 locs1 p1 d1 hS1
end HRows
