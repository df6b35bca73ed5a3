theorem ng_any {w : Cond} (h : ngOk w = true) {A : Array Value} {U : State} (hb : w.before A U = true) : w.before #[] U = true := by
  cases w <;> first | (simp [ngOk] at h; done) | exact va_tabs rfl rfl hb
/-! the start: what the Statement gives of it, as the walks want it -/
theorem st_str {args : Array Value} {s : State} (hg : (Jvm.Cond.and given_1 narrow_1).before args s = true) (hts : ∀ w ∈ lw_tbl, w.before args s = true) : ∀ q ∈ lw_strs, ∃ sa, vk_R RX5 q.1 q.2 sa s := by
  have hs := flat_of_before _ hg
  have one : ∀ (k : Nat) (tx : String), (Cond.exactly (.string "SavingsCircle" k) "java/lang/String").before args s = true → (Cond.stringRef "SavingsCircle" k tx).before args s = true → ∃ sa, vk_R RX5 k tx sa s := by
    intro k tx h1 h2
    obtain ⟨sa, -, -, -, he, -⟩ := Cond.exactly_spec h1
    exact ⟨sa, vk_R.of h2 he⟩
  intro q hq
  simp only [lw_strs, List.mem_cons, List.not_mem_nil, or_false] at hq
  rcases hq with rfl | rfl | rfl | rfl | rfl | rfl | rfl | rfl | rfl | rfl | rfl | rfl | rfl | rfl | rfl | rfl
  · exact one _ _ (hs _ (by decide +kernel)) (hts _ (by decide +kernel))
  · exact one _ _ (hs _ (by decide +kernel)) (hts _ (by decide +kernel))
  · exact one _ _ (hs _ (by decide +kernel)) (hts _ (by decide +kernel))
  · exact one _ _ (hs _ (by decide +kernel)) (hts _ (by decide +kernel))
  · exact one _ _ (hs _ (by decide +kernel)) (hts _ (by decide +kernel))
  · exact one _ _ (hs _ (by decide +kernel)) (hts _ (by decide +kernel))
  · exact one _ _ (hs _ (by decide +kernel)) (hts _ (by decide +kernel))
  · exact one _ _ (hs _ (by decide +kernel)) (hts _ (by decide +kernel))
  · exact one _ _ (hs _ (by decide +kernel)) (hts _ (by decide +kernel))
  · exact one _ _ (hs _ (by decide +kernel)) (hts _ (by decide +kernel))
  · exact one _ _ (hs _ (by decide +kernel)) (hts _ (by decide +kernel))
  · exact one _ _ (hs _ (by decide +kernel)) (hts _ (by decide +kernel))
  · exact one _ _ (hs _ (by decide +kernel)) (hts _ (by decide +kernel))
  · exact one _ _ (hs _ (by decide +kernel)) (hts _ (by decide +kernel))
  · exact one _ _ (hs _ (by decide +kernel)) (hts _ (by decide +kernel))
  · exact one _ _ (hs _ (by decide +kernel)) (hts _ (by decide +kernel))
theorem st_ncs {args : Array Value} {s : State} (hg : (Jvm.Cond.and given_1 narrow_1).before args s = true) : ∀ q ∈ lw_ncs, va_Nc q.1 q.2 s := by
  have hs := flat_of_before _ hg
  intro q hq
  simp only [lw_ncs, List.mem_cons, List.not_mem_nil, or_false] at hq
  rcases hq with rfl | rfl | rfl | rfl | rfl | rfl
  · exact va_Nc.of (hs _ (by decide +kernel))
  · exact va_Nc.of (hs _ (by decide +kernel))
  · exact va_Nc.of (hs _ (by decide +kernel))
  · exact va_Nc.of (hs _ (by decide +kernel))
  · exact va_Nc.of (hs _ (by decide +kernel))
  · exact va_Nc.of (hs _ (by decide +kernel))
theorem st_ngs {args : Array Value} {s : State} (hts : ∀ w ∈ lw_tbl, w.before args s = true) : ∀ w ∈ lw_ngs, w.before #[] s = true := by
  have h : ∀ w ∈ lw_ngs, w ∈ lw_tbl := by
    decide +kernel
  intro w hw
  exact ng_any (lw_ng hw) (hts _ (h w hw))
theorem st_th {args : Array Value} {s : State} (hg : (Jvm.Cond.and given_1 narrow_1).before args s = true) (hts : ∀ w ∈ lw_tbl, w.before args s = true) : gTH (fun q => s.heap.size ≤ q) s s.heap := by
  have hs := flat_of_before _ hg
  have hA : ∀ a : Nat, a < s.heap.size → ¬ (fun q : Nat => s.heap.size ≤ q) a := fun a h => Nat.not_le.mpr h
  exact ⟨vx_Zqof (hts _ (by decide +kernel)) (hts _ (by decide +kernel)) (hs _ (by decide +kernel)) hA, vx_Zqof (hts _ (by decide +kernel)) (hts _ (by decide +kernel)) (hs _ (by decide +kernel)) hA, st_str hg hts, st_ncs hg, st_ngs hts⟩
theorem st_ns {args : Array Value} {s : State} (hts : ∀ w ∈ lw_tbl, w.before args s = true) : gNS s := by
  refine ⟨fun q hq => ?_, va_AO.of (hts _ (by decide +kernel))⟩
  simp only [lw_nests, List.mem_cons, List.not_mem_nil, or_false] at hq
  rcases hq with rfl | rfl | rfl | rfl | rfl | rfl | rfl
  · exact va_Nw.of rfl (hts _ (by decide +kernel))
  · exact va_Nw.of rfl (hts _ (by decide +kernel))
  · exact va_Nw.of rfl (hts _ (by decide +kernel))
  · exact va_Nw.of rfl (hts _ (by decide +kernel))
  · exact va_Nw.of rfl (hts _ (by decide +kernel))
  · exact va_Nw.of rfl (hts _ (by decide +kernel))
  · exact va_Nw.of rfl (hts _ (by decide +kernel))
theorem st_kt {s : State} {cA : ClassId} {kA : Class} {comp : ClassId} {ty : FieldType} (h2 : s.vm.classes[cA]? = some kA) (h3 : kA.kind = .array comp ty) : ArrOfT s cA ty := fun N z => ⟨(fun k h => by cases h), kA, h2, comp, h3⟩
theorem st_kk {args : Array Value} {s : State} (hts : ∀ w ∈ lw_tbl, w.before args s = true) : ∃ G : uG, kK G s := by
  obtain ⟨c0, i0, k0⟩ := u_known (C := RX0) (T := TX0) (N := 3) (n := 3) hts inX0 (hts (.instantiable RX0 3) (by decide +kernel))
  obtain ⟨c1, i1, k1⟩ := u_known (C := RX1) (T := TX1) (N := 3) (n := 3) hts inX1 (hts (.instantiable RX1 3) (by decide +kernel))
  obtain ⟨c2, i2, k2⟩ := u_known (C := RX2) (T := TX2) (N := 2) (n := 2) hts inX2 (hts (.instantiable RX2 2) (by decide +kernel))
  obtain ⟨c3, i3, k3⟩ := u_known (C := RX3) (T := TX3) (N := 17) (n := 17) hts inX3 (hts (.instantiable RX3 17) (by decide +kernel))
  obtain ⟨c4, i4, k4⟩ := u_known (C := RX4) (T := TX4) (N := 3) (n := 3) hts inX4 (hts (.instantiable RX4 3) (by decide +kernel))
  obtain ⟨c5, i5, k5⟩ := u_known (C := RX5) (T := TX5) (N := 8) (n := 8) hts inX5 (hts (.instantiable RX5 8) (by decide +kernel))
  obtain ⟨c6, i6, k6⟩ := u_known (C := RX6) (T := TX6) (N := 15) (n := 15) hts inX6 (hts (.instantiable RX6 15) (by decide +kernel))
  obtain ⟨aI, kI, pI, fI, gI, hI⟩ := Cond.arrayClass_spec (hts (.arrayClass .int) (by decide +kernel))
  obtain ⟨aZ, kZ, pZ, fZ, gZ, hZ⟩ := Cond.arrayClass_spec (hts (.arrayClass .boolean) (by decide +kernel))
  obtain ⟨aJ, kJ, pJ, fJ, gJ, hJ⟩ := Cond.arrayClass_spec (hts (.arrayClass .long) (by decide +kernel))
  obtain ⟨pS, aS, kS, f1, -, gS, hS, fS⟩ := Cond.arrayOver_spec (hts (.arrayOver (.object "SavingsCircle$State")) (by decide +kernel))
  refine ⟨((fun k => match k with | 0 => c0 | 1 => c1 | 2 => c2 | 3 => c3 | 4 => c4 | 5 => c5 | _ => c6, fun k => match k with | 0 => i0 | 1 => i1 | 2 => i2 | 3 => i3 | 4 => i4 | 5 => i5 | _ => i6), aI, aZ, aS, aJ), fun k q hq => ?_, fun k q hq => ?_⟩
  · match k, hq with
    | 0, hq => cases hq; exact k0
    | 1, hq => cases hq; exact k1
    | 2, hq => cases hq; exact k2
    | 3, hq => cases hq; exact k3
    | 4, hq => cases hq; exact k4
    | 5, hq => cases hq; exact k5
    | 6, hq => cases hq; exact k6
    | k + 7, hq => simp [vwCl] at hq
  · match k, hq with
    | 0, hq => cases hq; exact ⟨st_kt gI hI, fI⟩
    | 1, hq => cases hq; exact ⟨st_kt gZ hZ, fZ⟩
    | 2, hq => cases hq; exact ⟨st_kt gS hS, kS, pS, gS, hS, f1, fS⟩
    | 3, hq => cases hq; exact ⟨st_kt gJ hJ, fJ⟩
    | k + 4, hq => simp [kT] at hq
