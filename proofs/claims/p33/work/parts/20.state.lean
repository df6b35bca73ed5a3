theorem hd_X3_countInside : yX3_countInside.cls = RX3 ∧ yX3_countInside.cls ≠ "java/lang/invoke/MethodHandle" ∧ yX3_countInside.cls ≠ "java/lang/invoke/VarHandle" ∧ (parseMethodDescriptor yX3_countInside.desc).map (fun d => d.parameters.length) = some 0 := by decide +kernel
theorem hd_X3_countWaiting : yX3_countWaiting.cls = RX3 ∧ yX3_countWaiting.cls ≠ "java/lang/invoke/MethodHandle" ∧ yX3_countWaiting.cls ≠ "java/lang/invoke/VarHandle" ∧ (parseMethodDescriptor yX3_countWaiting.desc).map (fun d => d.parameters.length) = some 0 := by decide +kernel
theorem hd_X3_exists : yX3_exists.cls = RX3 ∧ yX3_exists.cls ≠ "java/lang/invoke/MethodHandle" ∧ yX3_exists.cls ≠ "java/lang/invoke/VarHandle" ∧ (parseMethodDescriptor yX3_exists.desc).map (fun d => d.parameters.length) = some 1 := by decide +kernel
theorem hd_X3_gainOfGoing : yX3_gainOfGoing.cls = RX3 ∧ yX3_gainOfGoing.cls ≠ "java/lang/invoke/MethodHandle" ∧ yX3_gainOfGoing.cls ≠ "java/lang/invoke/VarHandle" ∧ (parseMethodDescriptor yX3_gainOfGoing.desc).map (fun d => d.parameters.length) = some 1 := by decide +kernel
theorem hd_X3_pair : yX3_pair.cls = RX3 ∧ yX3_pair.cls ≠ "java/lang/invoke/MethodHandle" ∧ yX3_pair.cls ≠ "java/lang/invoke/VarHandle" ∧ (parseMethodDescriptor yX3_pair.desc).map (fun d => d.parameters.length) = some 2 := by decide +kernel
set_option maxHeartbeats 4000000 in
set_option maxRecDepth 100000 in
theorem c_X3_pair (l : Launch) (G : uG) (i0 : Int32) (i1 : Int32) {q : Int32 × (Unit)} (hf : f_X3_pair i0 i1 = some q) : mQ l yX3_pair wsX3_pair ({ frames := 0, cells := 0, slots := 0, locals := 0 } : Room) G [.int i0, .int i1] [] [] (qI G [] q.1) := by
  unfold f_X3_pair at hf
  refine m_of (cc := cX3_pair) (maxL := 2) (ret := (some .int)) (by decide) rfl rfl (Nat.le_of_ble_eq_true rfl) ?_
  intro p e s m args below meth c A ls S hK hA hP hD hS hl
  obtain ⟨hx, hb, hml, hown, hts, hr, hlocks⟩ := id S
  have hl : lv_has ls 2 [(0, .int i0), (1, .int i1)] := hl
  refine lv_iload_n hx hb dX3_pair_0 rfl (lv_at hl 0 rfl) ?_
  refine lv_bipush (v := (8:Int32)) hx hb dX3_pair_1 (by decide) ?_
  refine lv_imul hx hb dX3_pair_3 ?_
  refine lv_iload_n hx hb dX3_pair_4 rfl (lv_at hl 1 rfl) ?_
  refine lv_iadd hx hb dX3_pair_5 ?_
  cases hf
  exact g_iret hx hb hr hlocks hP hS dX3_pair_6
theorem kX3_copyFrom_0 : Cond.fieldLink RX3 53 "SavingsCircle$State" "count" "I" ∈ wsX3_copyFrom := (List.mem_cons_of_mem _ (List.mem_append_left _ (List.mem_of_getElem? (i := 0) rfl)))
theorem kX3_copyFrom_1 : Cond.fieldLink RX3 56 "SavingsCircle$State" "month" "I" ∈ wsX3_copyFrom := (List.mem_cons_of_mem _ (List.mem_append_left _ (List.mem_of_getElem? (i := 1) rfl)))
theorem kX3_copyFrom_2 : Cond.fieldLink RX3 9 "SavingsCircle$State" "contribution" "I" ∈ wsX3_copyFrom := (List.mem_cons_of_mem _ (List.mem_append_left _ (List.mem_of_getElem? (i := 2) rfl)))
theorem kX3_copyFrom_3 : Cond.fieldLink RX3 59 "SavingsCircle$State" "box" "I" ∈ wsX3_copyFrom := (List.mem_cons_of_mem _ (List.mem_append_left _ (List.mem_of_getElem? (i := 3) rfl)))
theorem kX3_copyFrom_4 : Cond.fieldLink RX3 62 "SavingsCircle$State" "given" "I" ∈ wsX3_copyFrom := (List.mem_cons_of_mem _ (List.mem_append_left _ (List.mem_of_getElem? (i := 4) rfl)))
theorem kX3_copyFrom_5 : Cond.fieldLink RX3 15 "SavingsCircle$State" "purse" "[I" ∈ wsX3_copyFrom := (List.mem_cons_of_mem _ (List.mem_append_left _ (List.mem_of_getElem? (i := 5) rfl)))
theorem kX3_copyFrom_6 : Cond.fieldLink RX3 19 "SavingsCircle$State" "guarantor" "[I" ∈ wsX3_copyFrom := (List.mem_cons_of_mem _ (List.mem_append_left _ (List.mem_of_getElem? (i := 6) rfl)))
theorem kX3_copyFrom_7 : Cond.fieldLink RX3 22 "SavingsCircle$State" "bid" "[I" ∈ wsX3_copyFrom := (List.mem_cons_of_mem _ (List.mem_append_left _ (List.mem_of_getElem? (i := 7) rfl)))
theorem kX3_copyFrom_8 : Cond.fieldLink RX3 25 "SavingsCircle$State" "away" "[Z" ∈ wsX3_copyFrom := (List.mem_cons_of_mem _ (List.mem_append_left _ (List.mem_of_getElem? (i := 8) rfl)))
theorem kX3_copyFrom_9 : Cond.fieldLink RX3 29 "SavingsCircle$State" "taken" "[Z" ∈ wsX3_copyFrom := (List.mem_cons_of_mem _ (List.mem_append_left _ (List.mem_of_getElem? (i := 9) rfl)))
theorem kX3_copyFrom_10 : Cond.fieldLink RX3 32 "SavingsCircle$State" "inside" "[Z" ∈ wsX3_copyFrom := (List.mem_cons_of_mem _ (List.mem_append_left _ (List.mem_of_getElem? (i := 10) rfl)))
theorem kX3_copyFrom_11 : Cond.fieldLink RX3 35 "SavingsCircle$State" "paidForItself" "[I" ∈ wsX3_copyFrom := (List.mem_cons_of_mem _ (List.mem_append_left _ (List.mem_of_getElem? (i := 11) rfl)))
theorem kX3_copyFrom_12 : Cond.fieldLink RX3 38 "SavingsCircle$State" "paidForOthers" "[I" ∈ wsX3_copyFrom := (List.mem_cons_of_mem _ (List.mem_append_left _ (List.mem_of_getElem? (i := 12) rfl)))
theorem kX3_copyFrom_13 : Cond.fieldLink RX3 41 "SavingsCircle$State" "gotOfPot" "[I" ∈ wsX3_copyFrom := (List.mem_cons_of_mem _ (List.mem_append_left _ (List.mem_of_getElem? (i := 13) rfl)))
theorem kX3_copyFrom_14 : Cond.fieldLink RX3 44 "SavingsCircle$State" "shares" "[I" ∈ wsX3_copyFrom := (List.mem_cons_of_mem _ (List.mem_append_left _ (List.mem_of_getElem? (i := 14) rfl)))
theorem kX3_copyFrom_15 : Cond.fieldLink RX3 47 "SavingsCircle$State" "misses" "[I" ∈ wsX3_copyFrom := (List.mem_cons_of_mem _ (List.mem_append_left _ (List.mem_of_getElem? (i := 15) rfl)))
theorem kX3_copyFrom_16 : Cond.fieldLink RX3 50 "SavingsCircle$State" "debt" "[I" ∈ wsX3_copyFrom := (List.mem_cons_of_mem _ (List.mem_append_left _ (List.mem_of_getElem? (i := 16) rfl)))
theorem iwX3_copyFrom_X3 : ∀ w ∈ wsX30, w ∈ wsX3_copyFrom := fun w h => (List.mem_cons_of_mem _ (List.mem_append_right _ h))
set_option maxHeartbeats 4000000 in
set_option maxRecDepth 100000 in
theorem w_X3_copyFrom_42 {p : Program} {l : Launch} {e : Env} {s : State} {m : MethodId} {args : Array Value} {below : List Frame} {meth : Method} {c : Code} {A : Nat → Prop} {Q : State → Prop} (S : Ev p s m args meth c cX3_copyFrom 3 none yX3_copyFrom.cls wsX3_copyFrom) {G : uG} (hK : kK G s) (hA : ∀ q, s.heap.size ≤ q → A q) (_ : uG) (a0 : Nat → Nat) (a1 : Nat → Nat) (v1 : StV) : ∀ (n : Nat) (z : (Int32 × StV)) (e1 : (Int32 × StV)), lp (b_X3_copyFrom_42 v1) n z = some e1 → ∀ (H : Heap) (locs : List Loc) (ls : Array Slot), gP G [stW G a0 z.2, stW G a1 v1] H → gD A [stW G a0 z.2, stW G a1 v1] → va_S A s.heap H locs → lv_has ls 3 [(0, .ref (a0 0)), (1, .ref (a1 0)), (2, .int z.1)] → (∀ (H : Heap) (locs : List Loc) (ls : Array Slot), gP G [stW G a0 e1.2, stW G a1 v1] H → gD A [stW G a0 e1.2, stW G a1 v1] → va_S A s.heap H locs → lv_has ls 3 [(0, .ref (a0 0)), (1, .ref (a1 0)), (2, .int e1.1)] → W p l e ({ frames := 0, cells := 0, slots := 0, locals := 0 } : Room) s m args below meth c H locs 0 0 Q (F0 m 186 ls [])) → W p l e ({ frames := 0, cells := 0, slots := 0, locals := 0 } : Room) s m args below meth c H locs 0 0 Q (F0 m 42 ls []) := by
  obtain ⟨hx, hb, hml, hown, hts, hr, hlocks⟩ := id S
  intro n
  induction n with
  | zero => intro z e1 h; cases h
  | succ n ih =>
    intro z e1 hlp H locs ls hP hD hS hl K
    obtain ⟨z9, hf, hz⟩ := lp_s hlp
    unfold b_X3_copyFrom_42 at hf
    refine lv_iload_n hx hb dX3_copyFrom_42 rfl (lv_at hl 2 rfl) ?_
    refine lv_bipush (v := (8:Int32)) hx hb dX3_copyFrom_43 (by decide) ?_
    refine lv_icmp_ge (tgt := 186) hx hb dX3_copyFrom_45 (by decide) (fun c6 => ?_) (fun c6 => ?_)
    · rw [if_pos c6] at hf
      have he := lz_r hf hz
      subst he
      exact K H locs ls hP hD hS (lv_sub hl [0, 1, 2] rfl)
    · rw [if_neg c6] at hf
      refine lv_aload_n hx hb dX3_copyFrom_48 rfl (lv_at hl 0 rfl) ?_
      refine g_get (C := RX3) (T := TX3) (N := 17) hx hb hts iwX3_copyFrom_X3 hown hK hP 0 0 rfl rfl rfl 5 (Nat.le_of_ble_eq_true rfl) (hts _ kX3_copyFrom_5) (fun _ h9 => h9) rfl dX3_copyFrom_49 ?_
      refine lv_iload_n hx hb dX3_copyFrom_52 rfl (lv_at hl 2 rfl) ?_
      refine lv_aload_n hx hb dX3_copyFrom_53 rfl (lv_at hl 1 rfl) ?_
      refine g_get (C := RX3) (T := TX3) (N := 17) hx hb hts iwX3_copyFrom_X3 hown hK hP 1 0 rfl rfl rfl 5 (Nat.le_of_ble_eq_true rfl) (hts _ kX3_copyFrom_5) (fun _ h9 => h9) rfl dX3_copyFrom_54 ?_
      refine lv_iload_n hx hb dX3_copyFrom_57 rfl (lv_at hl 2 rfl) ?_
      obtain ⟨h7, hf⟩ := gi_some hf
      refine g_iald hx hb hK hP 1 1 0 rfl rfl rfl h7 dX3_copyFrom_58 ?_
      obtain ⟨h8, hf⟩ := gi_some hf
      obtain ⟨u9, eu9, hf⟩ := lt_some hf
      refine g_iast (gs' := [stW G a0 u9, stW G a1 v1]) hx hb hK hP hD hS 0 1 0 rfl rfl rfl h8 dX3_copyFrom_59 (by rw [eu9]; rfl) (fun H locs hP hD hS => ?_)
      refine lv_aload_n hx hb dX3_copyFrom_60 rfl (lv_at hl 0 rfl) ?_
      refine g_get (C := RX3) (T := TX3) (N := 17) hx hb hts iwX3_copyFrom_X3 hown hK hP 0 0 rfl rfl rfl 6 (Nat.le_of_ble_eq_true rfl) (hts _ kX3_copyFrom_6) (fun _ h9 => h9) rfl dX3_copyFrom_61 ?_
      refine lv_iload_n hx hb dX3_copyFrom_64 rfl (lv_at hl 2 rfl) ?_
      refine lv_aload_n hx hb dX3_copyFrom_65 rfl (lv_at hl 1 rfl) ?_
      refine g_get (C := RX3) (T := TX3) (N := 17) hx hb hts iwX3_copyFrom_X3 hown hK hP 1 0 rfl rfl rfl 6 (Nat.le_of_ble_eq_true rfl) (hts _ kX3_copyFrom_6) (fun _ h9 => h9) rfl dX3_copyFrom_66 ?_
      refine lv_iload_n hx hb dX3_copyFrom_69 rfl (lv_at hl 2 rfl) ?_
      obtain ⟨h10, hf⟩ := gi_some hf
      refine g_iald hx hb hK hP 1 2 0 rfl rfl rfl h10 dX3_copyFrom_70 ?_
      obtain ⟨h11, hf⟩ := gi_some hf
      obtain ⟨u12, eu12, hf⟩ := lt_some hf
      refine g_iast (gs' := [stW G a0 u12, stW G a1 v1]) hx hb hK hP hD hS 0 2 0 rfl rfl rfl h11 dX3_copyFrom_71 (by rw [eu12]; rfl) (fun H locs hP hD hS => ?_)
      refine lv_aload_n hx hb dX3_copyFrom_72 rfl (lv_at hl 0 rfl) ?_
      refine g_get (C := RX3) (T := TX3) (N := 17) hx hb hts iwX3_copyFrom_X3 hown hK hP 0 0 rfl rfl rfl 7 (Nat.le_of_ble_eq_true rfl) (hts _ kX3_copyFrom_7) (fun _ h9 => h9) rfl dX3_copyFrom_73 ?_
      refine lv_iload_n hx hb dX3_copyFrom_76 rfl (lv_at hl 2 rfl) ?_
      refine lv_aload_n hx hb dX3_copyFrom_77 rfl (lv_at hl 1 rfl) ?_
      refine g_get (C := RX3) (T := TX3) (N := 17) hx hb hts iwX3_copyFrom_X3 hown hK hP 1 0 rfl rfl rfl 7 (Nat.le_of_ble_eq_true rfl) (hts _ kX3_copyFrom_7) (fun _ h9 => h9) rfl dX3_copyFrom_78 ?_
      refine lv_iload_n hx hb dX3_copyFrom_81 rfl (lv_at hl 2 rfl) ?_
      obtain ⟨h13, hf⟩ := gi_some hf
      refine g_iald hx hb hK hP 1 3 0 rfl rfl rfl h13 dX3_copyFrom_82 ?_
      obtain ⟨h14, hf⟩ := gi_some hf
      obtain ⟨u15, eu15, hf⟩ := lt_some hf
      refine g_iast (gs' := [stW G a0 u15, stW G a1 v1]) hx hb hK hP hD hS 0 3 0 rfl rfl rfl h14 dX3_copyFrom_83 (by rw [eu15]; rfl) (fun H locs hP hD hS => ?_)
      refine lv_aload_n hx hb dX3_copyFrom_84 rfl (lv_at hl 0 rfl) ?_
      refine g_get (C := RX3) (T := TX3) (N := 17) hx hb hts iwX3_copyFrom_X3 hown hK hP 0 0 rfl rfl rfl 8 (Nat.le_of_ble_eq_true rfl) (hts _ kX3_copyFrom_8) (fun _ h9 => h9) rfl dX3_copyFrom_85 ?_
      refine lv_iload_n hx hb dX3_copyFrom_88 rfl (lv_at hl 2 rfl) ?_
      refine lv_aload_n hx hb dX3_copyFrom_89 rfl (lv_at hl 1 rfl) ?_
      refine g_get (C := RX3) (T := TX3) (N := 17) hx hb hts iwX3_copyFrom_X3 hown hK hP 1 0 rfl rfl rfl 8 (Nat.le_of_ble_eq_true rfl) (hts _ kX3_copyFrom_8) (fun _ h9 => h9) rfl dX3_copyFrom_90 ?_
      refine lv_iload_n hx hb dX3_copyFrom_93 rfl (lv_at hl 2 rfl) ?_
      obtain ⟨h16, hf⟩ := gi_some hf
      refine g_zald hx hb hK hP 1 4 1 rfl rfl rfl h16 dX3_copyFrom_94 ?_
      obtain ⟨h17, hf⟩ := gi_some hf
      obtain ⟨u18, eu18, hf⟩ := lt_some hf
      refine g_zast (gs' := [stW G a0 u18, stW G a1 v1]) hx hb hK hP hD hS 0 4 1 rfl rfl rfl h17 dX3_copyFrom_95 (by rw [eu18]; rfl) (fun H locs hP hD hS => ?_)
      refine lv_aload_n hx hb dX3_copyFrom_96 rfl (lv_at hl 0 rfl) ?_
      refine g_get (C := RX3) (T := TX3) (N := 17) hx hb hts iwX3_copyFrom_X3 hown hK hP 0 0 rfl rfl rfl 9 (Nat.le_of_ble_eq_true rfl) (hts _ kX3_copyFrom_9) (fun _ h9 => h9) rfl dX3_copyFrom_97 ?_
      refine lv_iload_n hx hb dX3_copyFrom_100 rfl (lv_at hl 2 rfl) ?_
      refine lv_aload_n hx hb dX3_copyFrom_101 rfl (lv_at hl 1 rfl) ?_
      refine g_get (C := RX3) (T := TX3) (N := 17) hx hb hts iwX3_copyFrom_X3 hown hK hP 1 0 rfl rfl rfl 9 (Nat.le_of_ble_eq_true rfl) (hts _ kX3_copyFrom_9) (fun _ h9 => h9) rfl dX3_copyFrom_102 ?_
      refine lv_iload_n hx hb dX3_copyFrom_105 rfl (lv_at hl 2 rfl) ?_
      obtain ⟨h19, hf⟩ := gi_some hf
      refine g_zald hx hb hK hP 1 5 1 rfl rfl rfl h19 dX3_copyFrom_106 ?_
      obtain ⟨h20, hf⟩ := gi_some hf
      obtain ⟨u21, eu21, hf⟩ := lt_some hf
      refine g_zast (gs' := [stW G a0 u21, stW G a1 v1]) hx hb hK hP hD hS 0 5 1 rfl rfl rfl h20 dX3_copyFrom_107 (by rw [eu21]; rfl) (fun H locs hP hD hS => ?_)
      refine lv_aload_n hx hb dX3_copyFrom_108 rfl (lv_at hl 0 rfl) ?_
      refine g_get (C := RX3) (T := TX3) (N := 17) hx hb hts iwX3_copyFrom_X3 hown hK hP 0 0 rfl rfl rfl 10 (Nat.le_of_ble_eq_true rfl) (hts _ kX3_copyFrom_10) (fun _ h9 => h9) rfl dX3_copyFrom_109 ?_
      refine lv_iload_n hx hb dX3_copyFrom_112 rfl (lv_at hl 2 rfl) ?_
      refine lv_aload_n hx hb dX3_copyFrom_113 rfl (lv_at hl 1 rfl) ?_
      refine g_get (C := RX3) (T := TX3) (N := 17) hx hb hts iwX3_copyFrom_X3 hown hK hP 1 0 rfl rfl rfl 10 (Nat.le_of_ble_eq_true rfl) (hts _ kX3_copyFrom_10) (fun _ h9 => h9) rfl dX3_copyFrom_114 ?_
      refine lv_iload_n hx hb dX3_copyFrom_117 rfl (lv_at hl 2 rfl) ?_
      obtain ⟨h22, hf⟩ := gi_some hf
      refine g_zald hx hb hK hP 1 6 1 rfl rfl rfl h22 dX3_copyFrom_118 ?_
      obtain ⟨h23, hf⟩ := gi_some hf
      obtain ⟨u24, eu24, hf⟩ := lt_some hf
      refine g_zast (gs' := [stW G a0 u24, stW G a1 v1]) hx hb hK hP hD hS 0 6 1 rfl rfl rfl h23 dX3_copyFrom_119 (by rw [eu24]; rfl) (fun H locs hP hD hS => ?_)
      refine lv_aload_n hx hb dX3_copyFrom_120 rfl (lv_at hl 0 rfl) ?_
      refine g_get (C := RX3) (T := TX3) (N := 17) hx hb hts iwX3_copyFrom_X3 hown hK hP 0 0 rfl rfl rfl 11 (Nat.le_of_ble_eq_true rfl) (hts _ kX3_copyFrom_11) (fun _ h9 => h9) rfl dX3_copyFrom_121 ?_
      refine lv_iload_n hx hb dX3_copyFrom_124 rfl (lv_at hl 2 rfl) ?_
      refine lv_aload_n hx hb dX3_copyFrom_125 rfl (lv_at hl 1 rfl) ?_
      refine g_get (C := RX3) (T := TX3) (N := 17) hx hb hts iwX3_copyFrom_X3 hown hK hP 1 0 rfl rfl rfl 11 (Nat.le_of_ble_eq_true rfl) (hts _ kX3_copyFrom_11) (fun _ h9 => h9) rfl dX3_copyFrom_126 ?_
      refine lv_iload_n hx hb dX3_copyFrom_129 rfl (lv_at hl 2 rfl) ?_
      obtain ⟨h25, hf⟩ := gi_some hf
      refine g_iald hx hb hK hP 1 7 0 rfl rfl rfl h25 dX3_copyFrom_130 ?_
      obtain ⟨h26, hf⟩ := gi_some hf
      obtain ⟨u27, eu27, hf⟩ := lt_some hf
      refine g_iast (gs' := [stW G a0 u27, stW G a1 v1]) hx hb hK hP hD hS 0 7 0 rfl rfl rfl h26 dX3_copyFrom_131 (by rw [eu27]; rfl) (fun H locs hP hD hS => ?_)
      refine lv_aload_n hx hb dX3_copyFrom_132 rfl (lv_at hl 0 rfl) ?_
      refine g_get (C := RX3) (T := TX3) (N := 17) hx hb hts iwX3_copyFrom_X3 hown hK hP 0 0 rfl rfl rfl 12 (Nat.le_of_ble_eq_true rfl) (hts _ kX3_copyFrom_12) (fun _ h9 => h9) rfl dX3_copyFrom_133 ?_
      refine lv_iload_n hx hb dX3_copyFrom_136 rfl (lv_at hl 2 rfl) ?_
      refine lv_aload_n hx hb dX3_copyFrom_137 rfl (lv_at hl 1 rfl) ?_
      refine g_get (C := RX3) (T := TX3) (N := 17) hx hb hts iwX3_copyFrom_X3 hown hK hP 1 0 rfl rfl rfl 12 (Nat.le_of_ble_eq_true rfl) (hts _ kX3_copyFrom_12) (fun _ h9 => h9) rfl dX3_copyFrom_138 ?_
      refine lv_iload_n hx hb dX3_copyFrom_141 rfl (lv_at hl 2 rfl) ?_
      obtain ⟨h28, hf⟩ := gi_some hf
      refine g_iald hx hb hK hP 1 8 0 rfl rfl rfl h28 dX3_copyFrom_142 ?_
      obtain ⟨h29, hf⟩ := gi_some hf
      obtain ⟨u30, eu30, hf⟩ := lt_some hf
      refine g_iast (gs' := [stW G a0 u30, stW G a1 v1]) hx hb hK hP hD hS 0 8 0 rfl rfl rfl h29 dX3_copyFrom_143 (by rw [eu30]; rfl) (fun H locs hP hD hS => ?_)
      refine lv_aload_n hx hb dX3_copyFrom_144 rfl (lv_at hl 0 rfl) ?_
      refine g_get (C := RX3) (T := TX3) (N := 17) hx hb hts iwX3_copyFrom_X3 hown hK hP 0 0 rfl rfl rfl 13 (Nat.le_of_ble_eq_true rfl) (hts _ kX3_copyFrom_13) (fun _ h9 => h9) rfl dX3_copyFrom_145 ?_
      refine lv_iload_n hx hb dX3_copyFrom_148 rfl (lv_at hl 2 rfl) ?_
      refine lv_aload_n hx hb dX3_copyFrom_149 rfl (lv_at hl 1 rfl) ?_
      refine g_get (C := RX3) (T := TX3) (N := 17) hx hb hts iwX3_copyFrom_X3 hown hK hP 1 0 rfl rfl rfl 13 (Nat.le_of_ble_eq_true rfl) (hts _ kX3_copyFrom_13) (fun _ h9 => h9) rfl dX3_copyFrom_150 ?_
      refine lv_iload_n hx hb dX3_copyFrom_153 rfl (lv_at hl 2 rfl) ?_
      obtain ⟨h31, hf⟩ := gi_some hf
      refine g_iald hx hb hK hP 1 9 0 rfl rfl rfl h31 dX3_copyFrom_154 ?_
      obtain ⟨h32, hf⟩ := gi_some hf
      obtain ⟨u33, eu33, hf⟩ := lt_some hf
      refine g_iast (gs' := [stW G a0 u33, stW G a1 v1]) hx hb hK hP hD hS 0 9 0 rfl rfl rfl h32 dX3_copyFrom_155 (by rw [eu33]; rfl) (fun H locs hP hD hS => ?_)
      refine lv_aload_n hx hb dX3_copyFrom_156 rfl (lv_at hl 0 rfl) ?_
      refine g_get (C := RX3) (T := TX3) (N := 17) hx hb hts iwX3_copyFrom_X3 hown hK hP 0 0 rfl rfl rfl 14 (Nat.le_of_ble_eq_true rfl) (hts _ kX3_copyFrom_14) (fun _ h9 => h9) rfl dX3_copyFrom_157 ?_
      refine lv_iload_n hx hb dX3_copyFrom_160 rfl (lv_at hl 2 rfl) ?_
      refine lv_aload_n hx hb dX3_copyFrom_161 rfl (lv_at hl 1 rfl) ?_
      refine g_get (C := RX3) (T := TX3) (N := 17) hx hb hts iwX3_copyFrom_X3 hown hK hP 1 0 rfl rfl rfl 14 (Nat.le_of_ble_eq_true rfl) (hts _ kX3_copyFrom_14) (fun _ h9 => h9) rfl dX3_copyFrom_162 ?_
      refine lv_iload_n hx hb dX3_copyFrom_165 rfl (lv_at hl 2 rfl) ?_
      obtain ⟨h34, hf⟩ := gi_some hf
      refine g_iald hx hb hK hP 1 10 0 rfl rfl rfl h34 dX3_copyFrom_166 ?_
      obtain ⟨h35, hf⟩ := gi_some hf
      obtain ⟨u36, eu36, hf⟩ := lt_some hf
      refine g_iast (gs' := [stW G a0 u36, stW G a1 v1]) hx hb hK hP hD hS 0 10 0 rfl rfl rfl h35 dX3_copyFrom_167 (by rw [eu36]; rfl) (fun H locs hP hD hS => ?_)
      refine lv_aload_n hx hb dX3_copyFrom_168 rfl (lv_at hl 0 rfl) ?_
      refine g_get (C := RX3) (T := TX3) (N := 17) hx hb hts iwX3_copyFrom_X3 hown hK hP 0 0 rfl rfl rfl 15 (Nat.le_of_ble_eq_true rfl) (hts _ kX3_copyFrom_15) (fun _ h9 => h9) rfl dX3_copyFrom_169 ?_
      refine lv_iload_n hx hb dX3_copyFrom_172 rfl (lv_at hl 2 rfl) ?_
      refine lv_aload_n hx hb dX3_copyFrom_173 rfl (lv_at hl 1 rfl) ?_
      refine g_get (C := RX3) (T := TX3) (N := 17) hx hb hts iwX3_copyFrom_X3 hown hK hP 1 0 rfl rfl rfl 15 (Nat.le_of_ble_eq_true rfl) (hts _ kX3_copyFrom_15) (fun _ h9 => h9) rfl dX3_copyFrom_174 ?_
      refine lv_iload_n hx hb dX3_copyFrom_177 rfl (lv_at hl 2 rfl) ?_
      obtain ⟨h37, hf⟩ := gi_some hf
      refine g_iald hx hb hK hP 1 11 0 rfl rfl rfl h37 dX3_copyFrom_178 ?_
      obtain ⟨h38, hf⟩ := gi_some hf
      obtain ⟨u39, eu39, hf⟩ := lt_some hf
      refine g_iast (gs' := [stW G a0 u39, stW G a1 v1]) hx hb hK hP hD hS 0 11 0 rfl rfl rfl h38 dX3_copyFrom_179 (by rw [eu39]; rfl) (fun H locs hP hD hS => ?_)
      obtain ⟨x40, ex40, hf⟩ := lt_some hf
      refine lv_iinc (v := x40) (lv' := [(2, .int x40), (0, .ref (a0 0)), (1, .ref (a1 0))]) hx hb dX3_copyFrom_180 hl (k := 2) rfl (by rw [ex40]; rfl) (by decide) rfl (fun ls hl => ?_)
      refine lv_goto (tgt := 42) hx hb dX3_copyFrom_183 (by decide) ?_
      exact ih _ e1 (lz_l hf hz) H locs ls hP hD hS (lv_sub hl [1, 2, 0] rfl) K
set_option maxHeartbeats 4000000 in
set_option maxRecDepth 100000 in
theorem w_X3_copyFrom_188 {p : Program} {l : Launch} {e : Env} {s : State} {m : MethodId} {args : Array Value} {below : List Frame} {meth : Method} {c : Code} {A : Nat → Prop} {Q : State → Prop} (S : Ev p s m args meth c cX3_copyFrom 3 none yX3_copyFrom.cls wsX3_copyFrom) {G : uG} (hK : kK G s) (hA : ∀ q, s.heap.size ≤ q → A q) (_ : uG) (a0 : Nat → Nat) (a1 : Nat → Nat) (v1 : StV) : ∀ (n : Nat) (z : (Int32 × StV)) (e1 : (Int32 × StV)), lp (b_X3_copyFrom_188 v1) n z = some e1 → ∀ (H : Heap) (locs : List Loc) (ls : Array Slot), gP G [stW G a0 z.2, stW G a1 v1] H → gD A [stW G a0 z.2, stW G a1 v1] → va_S A s.heap H locs → lv_has ls 3 [(0, .ref (a0 0)), (1, .ref (a1 0)), (2, .int z.1)] → (∀ (H : Heap) (locs : List Loc) (ls : Array Slot), gP G [stW G a0 e1.2, stW G a1 v1] H → gD A [stW G a0 e1.2, stW G a1 v1] → va_S A s.heap H locs → lv_has ls 3 [(0, .ref (a0 0)), (1, .ref (a1 0)), (2, .int e1.1)] → W p l e ({ frames := 0, cells := 0, slots := 0, locals := 0 } : Room) s m args below meth c H locs 0 0 Q (F0 m 215 ls [])) → W p l e ({ frames := 0, cells := 0, slots := 0, locals := 0 } : Room) s m args below meth c H locs 0 0 Q (F0 m 188 ls []) := by
  obtain ⟨hx, hb, hml, hown, hts, hr, hlocks⟩ := id S
  intro n
  induction n with
  | zero => intro z e1 h; cases h
  | succ n ih =>
    intro z e1 hlp H locs ls hP hD hS hl K
    obtain ⟨z9, hf, hz⟩ := lp_s hlp
    unfold b_X3_copyFrom_188 at hf
    refine lv_iload_n hx hb dX3_copyFrom_188 rfl (lv_at hl 2 rfl) ?_
    refine lv_aload_n hx hb dX3_copyFrom_189 rfl (lv_at hl 0 rfl) ?_
    refine g_get (C := RX3) (T := TX3) (N := 17) hx hb hts iwX3_copyFrom_X3 hown hK hP 0 0 rfl rfl rfl 16 (Nat.le_of_ble_eq_true rfl) (hts _ kX3_copyFrom_16) (fun _ h9 => h9) rfl dX3_copyFrom_190 ?_
    refine g_alen (v := (64:Int32)) hx hb hK hP 0 12 0 rfl rfl rfl rfl dX3_copyFrom_193 ?_
    refine lv_icmp_ge (tgt := 215) hx hb dX3_copyFrom_194 (by decide) (fun c42 => ?_) (fun c42 => ?_)
    · rw [if_pos c42] at hf
      have he := lz_r hf hz
      subst he
      exact K H locs ls hP hD hS (lv_sub hl [0, 1, 2] rfl)
    · rw [if_neg c42] at hf
      refine lv_aload_n hx hb dX3_copyFrom_197 rfl (lv_at hl 0 rfl) ?_
      refine g_get (C := RX3) (T := TX3) (N := 17) hx hb hts iwX3_copyFrom_X3 hown hK hP 0 0 rfl rfl rfl 16 (Nat.le_of_ble_eq_true rfl) (hts _ kX3_copyFrom_16) (fun _ h9 => h9) rfl dX3_copyFrom_198 ?_
      refine lv_iload_n hx hb dX3_copyFrom_201 rfl (lv_at hl 2 rfl) ?_
      refine lv_aload_n hx hb dX3_copyFrom_202 rfl (lv_at hl 1 rfl) ?_
      refine g_get (C := RX3) (T := TX3) (N := 17) hx hb hts iwX3_copyFrom_X3 hown hK hP 1 0 rfl rfl rfl 16 (Nat.le_of_ble_eq_true rfl) (hts _ kX3_copyFrom_16) (fun _ h9 => h9) rfl dX3_copyFrom_203 ?_
      refine lv_iload_n hx hb dX3_copyFrom_206 rfl (lv_at hl 2 rfl) ?_
      obtain ⟨h43, hf⟩ := gi_some hf
      refine g_iald hx hb hK hP 1 12 0 rfl rfl rfl h43 dX3_copyFrom_207 ?_
      obtain ⟨h44, hf⟩ := gi_some hf
      obtain ⟨u45, eu45, hf⟩ := lt_some hf
      refine g_iast (gs' := [stW G a0 u45, stW G a1 v1]) hx hb hK hP hD hS 0 12 0 rfl rfl rfl h44 dX3_copyFrom_208 (by rw [eu45]; rfl) (fun H locs hP hD hS => ?_)
      obtain ⟨x46, ex46, hf⟩ := lt_some hf
      refine lv_iinc (v := x46) (lv' := [(2, .int x46), (0, .ref (a0 0)), (1, .ref (a1 0))]) hx hb dX3_copyFrom_209 hl (k := 2) rfl (by rw [ex46]; rfl) (by decide) rfl (fun ls hl => ?_)
      refine lv_goto (tgt := 188) hx hb dX3_copyFrom_212 (by decide) ?_
      exact ih _ e1 (lz_l hf hz) H locs ls hP hD hS (lv_sub hl [1, 2, 0] rfl) K
set_option maxHeartbeats 4000000 in
set_option maxRecDepth 100000 in
theorem c_X3_copyFrom (l : Launch) (G : uG) (a0 : Nat → Nat) (a1 : Nat → Nat) (v0 : StV) (v1 : StV) {q : Unit × (StV)} (hf : f_X3_copyFrom v0 v1 = some q) : mQ l yX3_copyFrom wsX3_copyFrom ({ frames := 0, cells := 0, slots := 0, locals := 0 } : Room) G [.ref (a0 0), .ref (a1 0)] [stW G a0 v0, stW G a1 v1] [stW G a0 q.2, stW G a1 v1] (qV G [stW G a0 q.2, stW G a1 v1] q.1) := by
  unfold f_X3_copyFrom at hf
  refine m_of (cc := cX3_copyFrom) (maxL := 3) (ret := none) (by decide) rfl rfl (Nat.le_of_ble_eq_true rfl) ?_
  intro p e s m args below meth c A ls S hK hA hP hD hS hl
  obtain ⟨hx, hb, hml, hown, hts, hr, hlocks⟩ := id S
  have hl : lv_has ls 3 [(0, .ref (a0 0)), (1, .ref (a1 0))] := hl
  refine lv_aload_n hx hb dX3_copyFrom_0 rfl (lv_at hl 0 rfl) ?_
  refine lv_aload_n hx hb dX3_copyFrom_1 rfl (lv_at hl 1 rfl) ?_
  refine g_get (C := RX3) (T := TX3) (N := 17) hx hb hts iwX3_copyFrom_X3 hown hK hP 1 0 rfl rfl rfl 0 (Nat.le_of_ble_eq_true rfl) (hts _ kX3_copyFrom_0) (fun _ h9 => h9) rfl dX3_copyFrom_2 ?_
  obtain ⟨u1, eu1, hf⟩ := lt_some hf
  refine g_put (ty := .int) (C := RX3) (T := TX3) (N := 17) (gs' := [stW G a0 u1, stW G a1 v1]) hx hb hts iwX3_copyFrom_X3 tyX3 tyX3_ok nmX3 hown hK hP hD hS 0 0 rfl rfl rfl 0 (Nat.le_of_ble_eq_true rfl) (hts _ kX3_copyFrom_0) (fun _ h9 => h9) rfl (by decide +kernel) rfl rfl (Nat.le_of_ble_eq_true rfl) dX3_copyFrom_5 (by rw [eu1]; rfl) (fun H locs hP hD hS => ?_)
  refine lv_aload_n hx hb dX3_copyFrom_8 rfl (lv_at hl 0 rfl) ?_
  refine lv_aload_n hx hb dX3_copyFrom_9 rfl (lv_at hl 1 rfl) ?_
  refine g_get (C := RX3) (T := TX3) (N := 17) hx hb hts iwX3_copyFrom_X3 hown hK hP 1 0 rfl rfl rfl 1 (Nat.le_of_ble_eq_true rfl) (hts _ kX3_copyFrom_1) (fun _ h9 => h9) rfl dX3_copyFrom_10 ?_
  obtain ⟨u2, eu2, hf⟩ := lt_some hf
  refine g_put (ty := .int) (C := RX3) (T := TX3) (N := 17) (gs' := [stW G a0 u2, stW G a1 v1]) hx hb hts iwX3_copyFrom_X3 tyX3 tyX3_ok nmX3 hown hK hP hD hS 0 0 rfl rfl rfl 1 (Nat.le_of_ble_eq_true rfl) (hts _ kX3_copyFrom_1) (fun _ h9 => h9) rfl (by decide +kernel) rfl rfl (Nat.le_of_ble_eq_true rfl) dX3_copyFrom_13 (by rw [eu2]; rfl) (fun H locs hP hD hS => ?_)
  refine lv_aload_n hx hb dX3_copyFrom_16 rfl (lv_at hl 0 rfl) ?_
  refine lv_aload_n hx hb dX3_copyFrom_17 rfl (lv_at hl 1 rfl) ?_
  refine g_get (C := RX3) (T := TX3) (N := 17) hx hb hts iwX3_copyFrom_X3 hown hK hP 1 0 rfl rfl rfl 2 (Nat.le_of_ble_eq_true rfl) (hts _ kX3_copyFrom_2) (fun _ h9 => h9) rfl dX3_copyFrom_18 ?_
  obtain ⟨u3, eu3, hf⟩ := lt_some hf
  refine g_put (ty := .int) (C := RX3) (T := TX3) (N := 17) (gs' := [stW G a0 u3, stW G a1 v1]) hx hb hts iwX3_copyFrom_X3 tyX3 tyX3_ok nmX3 hown hK hP hD hS 0 0 rfl rfl rfl 2 (Nat.le_of_ble_eq_true rfl) (hts _ kX3_copyFrom_2) (fun _ h9 => h9) rfl (by decide +kernel) rfl rfl (Nat.le_of_ble_eq_true rfl) dX3_copyFrom_21 (by rw [eu3]; rfl) (fun H locs hP hD hS => ?_)
  refine lv_aload_n hx hb dX3_copyFrom_24 rfl (lv_at hl 0 rfl) ?_
  refine lv_aload_n hx hb dX3_copyFrom_25 rfl (lv_at hl 1 rfl) ?_
  refine g_get (C := RX3) (T := TX3) (N := 17) hx hb hts iwX3_copyFrom_X3 hown hK hP 1 0 rfl rfl rfl 3 (Nat.le_of_ble_eq_true rfl) (hts _ kX3_copyFrom_3) (fun _ h9 => h9) rfl dX3_copyFrom_26 ?_
  obtain ⟨u4, eu4, hf⟩ := lt_some hf
  refine g_put (ty := .int) (C := RX3) (T := TX3) (N := 17) (gs' := [stW G a0 u4, stW G a1 v1]) hx hb hts iwX3_copyFrom_X3 tyX3 tyX3_ok nmX3 hown hK hP hD hS 0 0 rfl rfl rfl 3 (Nat.le_of_ble_eq_true rfl) (hts _ kX3_copyFrom_3) (fun _ h9 => h9) rfl (by decide +kernel) rfl rfl (Nat.le_of_ble_eq_true rfl) dX3_copyFrom_29 (by rw [eu4]; rfl) (fun H locs hP hD hS => ?_)
  refine lv_aload_n hx hb dX3_copyFrom_32 rfl (lv_at hl 0 rfl) ?_
  refine lv_aload_n hx hb dX3_copyFrom_33 rfl (lv_at hl 1 rfl) ?_
  refine g_get (C := RX3) (T := TX3) (N := 17) hx hb hts iwX3_copyFrom_X3 hown hK hP 1 0 rfl rfl rfl 4 (Nat.le_of_ble_eq_true rfl) (hts _ kX3_copyFrom_4) (fun _ h9 => h9) rfl dX3_copyFrom_34 ?_
  obtain ⟨u5, eu5, hf⟩ := lt_some hf
  refine g_put (ty := .int) (C := RX3) (T := TX3) (N := 17) (gs' := [stW G a0 u5, stW G a1 v1]) hx hb hts iwX3_copyFrom_X3 tyX3 tyX3_ok nmX3 hown hK hP hD hS 0 0 rfl rfl rfl 4 (Nat.le_of_ble_eq_true rfl) (hts _ kX3_copyFrom_4) (fun _ h9 => h9) rfl (by decide +kernel) rfl rfl (Nat.le_of_ble_eq_true rfl) dX3_copyFrom_37 (by rw [eu5]; rfl) (fun H locs hP hD hS => ?_)
  refine lv_iconst (v := (0:Int32)) hx hb dX3_copyFrom_40 (by decide) ?_
  refine lv_istore_n (lv' := [(2, .int (0:Int32)), (0, .ref (a0 0)), (1, .ref (a1 0))]) hx hb dX3_copyFrom_41 rfl hl (by decide) rfl (fun ls hl => ?_)
  obtain ⟨e41, he41, hf⟩ := bd_some hf
  refine w_X3_copyFrom_42 (Q := _) S hK hA G a0 a1 v1 FU _ e41 he41 _ _ _ hP hD hS (lv_sub hl [1, 2, 0] rfl) (fun H locs ls hP hD hS hl => ?_)
  refine lv_iconst (v := (0:Int32)) hx hb dX3_copyFrom_186 (by decide) ?_
  refine lv_istore_n (lv' := [(2, .int (0:Int32)), (0, .ref (a0 0)), (1, .ref (a1 0))]) hx hb dX3_copyFrom_187 rfl hl (by decide) rfl (fun ls hl => ?_)
  obtain ⟨e47, he47, hf⟩ := bd_some hf
  refine w_X3_copyFrom_188 (Q := _) S hK hA G a0 a1 v1 FU _ e47 he47 _ _ _ hP hD hS (lv_sub hl [1, 2, 0] rfl) (fun H locs ls hP hD hS hl => ?_)
  cases hf
  exact g_vret hx hb hr hlocks hP hS dX3_copyFrom_215
theorem kX3_exists_0 : Cond.fieldLink RX3 53 "SavingsCircle$State" "count" "I" ∈ wsX3_exists := (List.mem_cons_of_mem _ (List.mem_append_left _ (List.mem_of_getElem? (i := 0) rfl)))
theorem iwX3_exists_X3 : ∀ w ∈ wsX30, w ∈ wsX3_exists := fun w h => (List.mem_cons_of_mem _ (List.mem_append_right _ h))
set_option maxHeartbeats 4000000 in
set_option maxRecDepth 100000 in
theorem c_X3_exists (l : Launch) (G : uG) (a0 : Nat → Nat) (v0 : StV) (i1 : Int32) {q : Int32 × (Unit)} (hf : f_X3_exists v0 i1 = some q) : mQ l yX3_exists wsX3_exists ({ frames := 0, cells := 0, slots := 0, locals := 0 } : Room) G [.ref (a0 0), .int i1] [stW G a0 v0] [stW G a0 v0] (qI G [stW G a0 v0] q.1) := by
  unfold f_X3_exists at hf
  refine m_of (cc := cX3_exists) (maxL := 2) (ret := (some .boolean)) (by decide) rfl rfl (Nat.le_of_ble_eq_true rfl) ?_
  intro p e s m args below meth c A ls S hK hA hP hD hS hl
  obtain ⟨hx, hb, hml, hown, hts, hr, hlocks⟩ := id S
  have hl : lv_has ls 2 [(0, .ref (a0 0)), (1, .int i1)] := hl
  refine lv_iload_n hx hb dX3_exists_0 rfl (lv_at hl 1 rfl) ?_
  refine lv_if_lt (tgt := 16) hx hb dX3_exists_1 (by decide) (fun c1 => ?_) (fun c1 => ?_)
  · rw [if_pos c1] at hf
    refine lv_iconst (v := (0:Int32)) hx hb dX3_exists_16 (by decide) ?_
    cases hf
    exact g_zret hx hb hr gz0 hlocks hP hS dX3_exists_17
  · rw [if_neg c1] at hf
    refine lv_iload_n hx hb dX3_exists_4 rfl (lv_at hl 1 rfl) ?_
    refine lv_aload_n hx hb dX3_exists_5 rfl (lv_at hl 0 rfl) ?_
    refine g_get (C := RX3) (T := TX3) (N := 17) hx hb hts iwX3_exists_X3 hown hK hP 0 0 rfl rfl rfl 0 (Nat.le_of_ble_eq_true rfl) (hts _ kX3_exists_0) (fun _ h9 => h9) rfl dX3_exists_6 ?_
    refine lv_icmp_ge (tgt := 16) hx hb dX3_exists_9 (by decide) (fun c2 => ?_) (fun c2 => ?_)
    · rw [if_pos c2] at hf
      refine lv_iconst (v := (0:Int32)) hx hb dX3_exists_16 (by decide) ?_
      cases hf
      exact g_zret hx hb hr gz0 hlocks hP hS dX3_exists_17
    · rw [if_neg c2] at hf
      refine lv_iconst (v := (1:Int32)) hx hb dX3_exists_12 (by decide) ?_
      refine lv_goto (tgt := 17) hx hb dX3_exists_13 (by decide) ?_
      cases hf
      exact g_zret hx hb hr gz1 hlocks hP hS dX3_exists_17
theorem kX3_join_0 : Cond.fieldLink RX3 53 "SavingsCircle$State" "count" "I" ∈ wsX3_join := (List.mem_cons_of_mem _ (List.mem_append_left _ (List.mem_of_getElem? (i := 0) rfl)))
theorem kX3_join_1 : Cond.fieldLink RX3 15 "SavingsCircle$State" "purse" "[I" ∈ wsX3_join := (List.mem_cons_of_mem _ (List.mem_append_left _ (List.mem_of_getElem? (i := 1) rfl)))
theorem kX3_join_2 : Cond.fieldLink RX3 19 "SavingsCircle$State" "guarantor" "[I" ∈ wsX3_join := (List.mem_cons_of_mem _ (List.mem_append_left _ (List.mem_of_getElem? (i := 2) rfl)))
theorem kX3_join_3 : Cond.constant RX3 65 (-99999) ∈ wsX3_join := (List.mem_cons_of_mem _ (List.mem_append_left _ (List.mem_of_getElem? (i := 3) rfl)))
theorem kX3_join_4 : Cond.fieldLink RX3 22 "SavingsCircle$State" "bid" "[I" ∈ wsX3_join := (List.mem_cons_of_mem _ (List.mem_append_left _ (List.mem_of_getElem? (i := 4) rfl)))
theorem kX3_join_5 : Cond.fieldLink RX3 25 "SavingsCircle$State" "away" "[Z" ∈ wsX3_join := (List.mem_cons_of_mem _ (List.mem_append_left _ (List.mem_of_getElem? (i := 5) rfl)))
theorem kX3_join_6 : Cond.fieldLink RX3 29 "SavingsCircle$State" "taken" "[Z" ∈ wsX3_join := (List.mem_cons_of_mem _ (List.mem_append_left _ (List.mem_of_getElem? (i := 6) rfl)))
theorem kX3_join_7 : Cond.fieldLink RX3 32 "SavingsCircle$State" "inside" "[Z" ∈ wsX3_join := (List.mem_cons_of_mem _ (List.mem_append_left _ (List.mem_of_getElem? (i := 7) rfl)))
theorem kX3_join_8 : Cond.fieldLink RX3 35 "SavingsCircle$State" "paidForItself" "[I" ∈ wsX3_join := (List.mem_cons_of_mem _ (List.mem_append_left _ (List.mem_of_getElem? (i := 8) rfl)))
theorem kX3_join_9 : Cond.fieldLink RX3 38 "SavingsCircle$State" "paidForOthers" "[I" ∈ wsX3_join := (List.mem_cons_of_mem _ (List.mem_append_left _ (List.mem_of_getElem? (i := 9) rfl)))
theorem kX3_join_10 : Cond.fieldLink RX3 41 "SavingsCircle$State" "gotOfPot" "[I" ∈ wsX3_join := (List.mem_cons_of_mem _ (List.mem_append_left _ (List.mem_of_getElem? (i := 10) rfl)))
theorem kX3_join_11 : Cond.fieldLink RX3 44 "SavingsCircle$State" "shares" "[I" ∈ wsX3_join := (List.mem_cons_of_mem _ (List.mem_append_left _ (List.mem_of_getElem? (i := 11) rfl)))
theorem kX3_join_12 : Cond.fieldLink RX3 47 "SavingsCircle$State" "misses" "[I" ∈ wsX3_join := (List.mem_cons_of_mem _ (List.mem_append_left _ (List.mem_of_getElem? (i := 12) rfl)))
theorem kX3_join_13 : Cond.fieldLink RX3 62 "SavingsCircle$State" "given" "I" ∈ wsX3_join := (List.mem_cons_of_mem _ (List.mem_append_left _ (List.mem_of_getElem? (i := 13) rfl)))
theorem iwX3_join_X3 : ∀ w ∈ wsX30, w ∈ wsX3_join := fun w h => (List.mem_cons_of_mem _ (List.mem_append_right _ h))
set_option maxHeartbeats 4000000 in
set_option maxRecDepth 100000 in
theorem c_X3_join (l : Launch) (G : uG) (a0 : Nat → Nat) (v0 : StV) (i1 : Int32) {q : Int32 × (StV)} (hf : f_X3_join v0 i1 = some q) : mQ l yX3_join wsX3_join ({ frames := 0, cells := 0, slots := 0, locals := 0 } : Room) G [.ref (a0 0), .int i1] [stW G a0 v0] [stW G a0 q.2] (qI G [stW G a0 q.2] q.1) := by
  unfold f_X3_join at hf
  refine m_of (cc := cX3_join) (maxL := 3) (ret := (some .int)) (by decide) rfl rfl (Nat.le_of_ble_eq_true rfl) ?_
  intro p e s m args below meth c A ls S hK hA hP hD hS hl
  obtain ⟨hx, hb, hml, hown, hts, hr, hlocks⟩ := id S
  have hl : lv_has ls 3 [(0, .ref (a0 0)), (1, .int i1)] := hl
  refine lv_aload_n hx hb dX3_join_0 rfl (lv_at hl 0 rfl) ?_
  refine g_get (C := RX3) (T := TX3) (N := 17) hx hb hts iwX3_join_X3 hown hK hP 0 0 rfl rfl rfl 0 (Nat.le_of_ble_eq_true rfl) (hts _ kX3_join_0) (fun _ h9 => h9) rfl dX3_join_1 ?_
  obtain ⟨x1, ex1, hf⟩ := lt_some hf
  refine lv_nmi ex1 ?_
  refine lv_istore_n (lv' := [(2, .int x1), (0, .ref (a0 0)), (1, .int i1)]) hx hb dX3_join_4 rfl hl (by decide) rfl (fun ls hl => ?_)
  refine lv_aload_n hx hb dX3_join_5 rfl (lv_at hl 1 rfl) ?_
  refine g_get (C := RX3) (T := TX3) (N := 17) hx hb hts iwX3_join_X3 hown hK hP 0 0 rfl rfl rfl 5 (Nat.le_of_ble_eq_true rfl) (hts _ kX3_join_1) (fun _ h9 => h9) rfl dX3_join_6 ?_
  refine lv_iload_n hx hb dX3_join_9 rfl (lv_at hl 0 rfl) ?_
  refine lv_iload_n hx hb dX3_join_10 rfl (lv_at hl 2 rfl) ?_
  obtain ⟨h2, hf⟩ := gi_some hf
  obtain ⟨u3, eu3, hf⟩ := lt_some hf
  refine g_iast (gs' := [stW G a0 u3]) hx hb hK hP hD hS 0 1 0 rfl rfl rfl h2 dX3_join_11 (by rw [eu3]; rfl) (fun H locs hP hD hS => ?_)
  refine lv_aload_n hx hb dX3_join_12 rfl (lv_at hl 1 rfl) ?_
  refine g_get (C := RX3) (T := TX3) (N := 17) hx hb hts iwX3_join_X3 hown hK hP 0 0 rfl rfl rfl 6 (Nat.le_of_ble_eq_true rfl) (hts _ kX3_join_2) (fun _ h9 => h9) rfl dX3_join_13 ?_
  refine lv_iload_n hx hb dX3_join_16 rfl (lv_at hl 0 rfl) ?_
  refine lv_ldc (v := (-99999:Int32)) hx hb hown (hts _ kX3_join_3) dX3_join_17 ?_
  obtain ⟨h4, hf⟩ := gi_some hf
  obtain ⟨u5, eu5, hf⟩ := lt_some hf
  refine g_iast (gs' := [stW G a0 u5]) hx hb hK hP hD hS 0 2 0 rfl rfl rfl h4 dX3_join_19 (by rw [eu5]; rfl) (fun H locs hP hD hS => ?_)
  refine lv_aload_n hx hb dX3_join_20 rfl (lv_at hl 1 rfl) ?_
  refine g_get (C := RX3) (T := TX3) (N := 17) hx hb hts iwX3_join_X3 hown hK hP 0 0 rfl rfl rfl 7 (Nat.le_of_ble_eq_true rfl) (hts _ kX3_join_4) (fun _ h9 => h9) rfl dX3_join_21 ?_
  refine lv_iload_n hx hb dX3_join_24 rfl (lv_at hl 0 rfl) ?_
  refine lv_iconst (v := (0:Int32)) hx hb dX3_join_25 (by decide) ?_
  obtain ⟨h6, hf⟩ := gi_some hf
  obtain ⟨u7, eu7, hf⟩ := lt_some hf
  refine g_iast (gs' := [stW G a0 u7]) hx hb hK hP hD hS 0 3 0 rfl rfl rfl h6 dX3_join_26 (by rw [eu7]; rfl) (fun H locs hP hD hS => ?_)
  refine lv_aload_n hx hb dX3_join_27 rfl (lv_at hl 1 rfl) ?_
  refine g_get (C := RX3) (T := TX3) (N := 17) hx hb hts iwX3_join_X3 hown hK hP 0 0 rfl rfl rfl 8 (Nat.le_of_ble_eq_true rfl) (hts _ kX3_join_5) (fun _ h9 => h9) rfl dX3_join_28 ?_
  refine lv_iload_n hx hb dX3_join_31 rfl (lv_at hl 0 rfl) ?_
  refine lv_iconst (v := (0:Int32)) hx hb dX3_join_32 (by decide) ?_
  obtain ⟨h8, hf⟩ := gi_some hf
  obtain ⟨u9, eu9, hf⟩ := lt_some hf
  refine g_zast (gs' := [stW G a0 u9]) hx hb hK hP hD hS 0 4 1 rfl rfl rfl h8 dX3_join_33 (by rw [eu9]; rfl) (fun H locs hP hD hS => ?_)
  refine lv_aload_n hx hb dX3_join_34 rfl (lv_at hl 1 rfl) ?_
  refine g_get (C := RX3) (T := TX3) (N := 17) hx hb hts iwX3_join_X3 hown hK hP 0 0 rfl rfl rfl 9 (Nat.le_of_ble_eq_true rfl) (hts _ kX3_join_6) (fun _ h9 => h9) rfl dX3_join_35 ?_
  refine lv_iload_n hx hb dX3_join_38 rfl (lv_at hl 0 rfl) ?_
  refine lv_iconst (v := (0:Int32)) hx hb dX3_join_39 (by decide) ?_
  obtain ⟨h10, hf⟩ := gi_some hf
  obtain ⟨u11, eu11, hf⟩ := lt_some hf
  refine g_zast (gs' := [stW G a0 u11]) hx hb hK hP hD hS 0 5 1 rfl rfl rfl h10 dX3_join_40 (by rw [eu11]; rfl) (fun H locs hP hD hS => ?_)
  refine lv_aload_n hx hb dX3_join_41 rfl (lv_at hl 1 rfl) ?_
  refine g_get (C := RX3) (T := TX3) (N := 17) hx hb hts iwX3_join_X3 hown hK hP 0 0 rfl rfl rfl 10 (Nat.le_of_ble_eq_true rfl) (hts _ kX3_join_7) (fun _ h9 => h9) rfl dX3_join_42 ?_
  refine lv_iload_n hx hb dX3_join_45 rfl (lv_at hl 0 rfl) ?_
  refine lv_iconst (v := (1:Int32)) hx hb dX3_join_46 (by decide) ?_
  obtain ⟨h12, hf⟩ := gi_some hf
  obtain ⟨u13, eu13, hf⟩ := lt_some hf
  refine g_zast (gs' := [stW G a0 u13]) hx hb hK hP hD hS 0 6 1 rfl rfl rfl h12 dX3_join_47 (by rw [eu13]; rfl) (fun H locs hP hD hS => ?_)
  refine lv_aload_n hx hb dX3_join_48 rfl (lv_at hl 1 rfl) ?_
  refine g_get (C := RX3) (T := TX3) (N := 17) hx hb hts iwX3_join_X3 hown hK hP 0 0 rfl rfl rfl 11 (Nat.le_of_ble_eq_true rfl) (hts _ kX3_join_8) (fun _ h9 => h9) rfl dX3_join_49 ?_
  refine lv_iload_n hx hb dX3_join_52 rfl (lv_at hl 0 rfl) ?_
  refine lv_iconst (v := (0:Int32)) hx hb dX3_join_53 (by decide) ?_
  obtain ⟨h14, hf⟩ := gi_some hf
  obtain ⟨u15, eu15, hf⟩ := lt_some hf
  refine g_iast (gs' := [stW G a0 u15]) hx hb hK hP hD hS 0 7 0 rfl rfl rfl h14 dX3_join_54 (by rw [eu15]; rfl) (fun H locs hP hD hS => ?_)
  refine lv_aload_n hx hb dX3_join_55 rfl (lv_at hl 1 rfl) ?_
  refine g_get (C := RX3) (T := TX3) (N := 17) hx hb hts iwX3_join_X3 hown hK hP 0 0 rfl rfl rfl 12 (Nat.le_of_ble_eq_true rfl) (hts _ kX3_join_9) (fun _ h9 => h9) rfl dX3_join_56 ?_
  refine lv_iload_n hx hb dX3_join_59 rfl (lv_at hl 0 rfl) ?_
  refine lv_iconst (v := (0:Int32)) hx hb dX3_join_60 (by decide) ?_
  obtain ⟨h16, hf⟩ := gi_some hf
  obtain ⟨u17, eu17, hf⟩ := lt_some hf
  refine g_iast (gs' := [stW G a0 u17]) hx hb hK hP hD hS 0 8 0 rfl rfl rfl h16 dX3_join_61 (by rw [eu17]; rfl) (fun H locs hP hD hS => ?_)
  refine lv_aload_n hx hb dX3_join_62 rfl (lv_at hl 1 rfl) ?_
  refine g_get (C := RX3) (T := TX3) (N := 17) hx hb hts iwX3_join_X3 hown hK hP 0 0 rfl rfl rfl 13 (Nat.le_of_ble_eq_true rfl) (hts _ kX3_join_10) (fun _ h9 => h9) rfl dX3_join_63 ?_
  refine lv_iload_n hx hb dX3_join_66 rfl (lv_at hl 0 rfl) ?_
  refine lv_iconst (v := (0:Int32)) hx hb dX3_join_67 (by decide) ?_
  obtain ⟨h18, hf⟩ := gi_some hf
  obtain ⟨u19, eu19, hf⟩ := lt_some hf
  refine g_iast (gs' := [stW G a0 u19]) hx hb hK hP hD hS 0 9 0 rfl rfl rfl h18 dX3_join_68 (by rw [eu19]; rfl) (fun H locs hP hD hS => ?_)
  refine lv_aload_n hx hb dX3_join_69 rfl (lv_at hl 1 rfl) ?_
  refine g_get (C := RX3) (T := TX3) (N := 17) hx hb hts iwX3_join_X3 hown hK hP 0 0 rfl rfl rfl 14 (Nat.le_of_ble_eq_true rfl) (hts _ kX3_join_11) (fun _ h9 => h9) rfl dX3_join_70 ?_
  refine lv_iload_n hx hb dX3_join_73 rfl (lv_at hl 0 rfl) ?_
  refine lv_iconst (v := (0:Int32)) hx hb dX3_join_74 (by decide) ?_
  obtain ⟨h20, hf⟩ := gi_some hf
  obtain ⟨u21, eu21, hf⟩ := lt_some hf
  refine g_iast (gs' := [stW G a0 u21]) hx hb hK hP hD hS 0 10 0 rfl rfl rfl h20 dX3_join_75 (by rw [eu21]; rfl) (fun H locs hP hD hS => ?_)
  refine lv_aload_n hx hb dX3_join_76 rfl (lv_at hl 1 rfl) ?_
  refine g_get (C := RX3) (T := TX3) (N := 17) hx hb hts iwX3_join_X3 hown hK hP 0 0 rfl rfl rfl 15 (Nat.le_of_ble_eq_true rfl) (hts _ kX3_join_12) (fun _ h9 => h9) rfl dX3_join_77 ?_
  refine lv_iload_n hx hb dX3_join_80 rfl (lv_at hl 0 rfl) ?_
  refine lv_iconst (v := (0:Int32)) hx hb dX3_join_81 (by decide) ?_
  obtain ⟨h22, hf⟩ := gi_some hf
  obtain ⟨u23, eu23, hf⟩ := lt_some hf
  refine g_iast (gs' := [stW G a0 u23]) hx hb hK hP hD hS 0 11 0 rfl rfl rfl h22 dX3_join_82 (by rw [eu23]; rfl) (fun H locs hP hD hS => ?_)
  refine lv_aload_n hx hb dX3_join_83 rfl (lv_at hl 1 rfl) ?_
  refine lv_dup hx hb dX3_join_84 rfl ?_
  refine g_get (C := RX3) (T := TX3) (N := 17) hx hb hts iwX3_join_X3 hown hK hP 0 0 rfl rfl rfl 4 (Nat.le_of_ble_eq_true rfl) (hts _ kX3_join_13) (fun _ h9 => h9) rfl dX3_join_85 ?_
  refine lv_iload_n hx hb dX3_join_88 rfl (lv_at hl 2 rfl) ?_
  refine lv_iadd hx hb dX3_join_89 ?_
  obtain ⟨u24, eu24, hf⟩ := lt_some hf
  refine g_put (ty := .int) (C := RX3) (T := TX3) (N := 17) (gs' := [stW G a0 u24]) hx hb hts iwX3_join_X3 tyX3 tyX3_ok nmX3 hown hK hP hD hS 0 0 rfl rfl rfl 4 (Nat.le_of_ble_eq_true rfl) (hts _ kX3_join_13) (fun _ h9 => h9) rfl (by decide +kernel) rfl rfl (Nat.le_of_ble_eq_true rfl) dX3_join_90 (by rw [eu24]; rfl) (fun H locs hP hD hS => ?_)
  refine lv_aload_n hx hb dX3_join_93 rfl (lv_at hl 1 rfl) ?_
  refine lv_dup hx hb dX3_join_94 rfl ?_
  refine g_get (C := RX3) (T := TX3) (N := 17) hx hb hts iwX3_join_X3 hown hK hP 0 0 rfl rfl rfl 0 (Nat.le_of_ble_eq_true rfl) (hts _ kX3_join_0) (fun _ h9 => h9) rfl dX3_join_95 ?_
  refine lv_iconst (v := (1:Int32)) hx hb dX3_join_98 (by decide) ?_
  refine lv_iadd hx hb dX3_join_99 ?_
  obtain ⟨u25, eu25, hf⟩ := lt_some hf
  refine g_put (ty := .int) (C := RX3) (T := TX3) (N := 17) (gs' := [stW G a0 u25]) hx hb hts iwX3_join_X3 tyX3 tyX3_ok nmX3 hown hK hP hD hS 0 0 rfl rfl rfl 0 (Nat.le_of_ble_eq_true rfl) (hts _ kX3_join_0) (fun _ h9 => h9) rfl (by decide +kernel) rfl rfl (Nat.le_of_ble_eq_true rfl) dX3_join_100 (by rw [eu25]; rfl) (fun H locs hP hD hS => ?_)
  refine lv_iload_n hx hb dX3_join_103 rfl (lv_at hl 0 rfl) ?_
  cases hf
  exact g_iret hx hb hr hlocks hP hS dX3_join_104
theorem kX3_countInside_0 : Cond.fieldLink RX3 53 "SavingsCircle$State" "count" "I" ∈ wsX3_countInside := (List.mem_cons_of_mem _ (List.mem_append_left _ (List.mem_of_getElem? (i := 0) rfl)))
theorem kX3_countInside_1 : Cond.fieldLink RX3 32 "SavingsCircle$State" "inside" "[Z" ∈ wsX3_countInside := (List.mem_cons_of_mem _ (List.mem_append_left _ (List.mem_of_getElem? (i := 1) rfl)))
theorem iwX3_countInside_X3 : ∀ w ∈ wsX30, w ∈ wsX3_countInside := fun w h => (List.mem_cons_of_mem _ (List.mem_append_right _ h))
set_option maxHeartbeats 4000000 in
set_option maxRecDepth 100000 in
theorem w_X3_countInside_4 {p : Program} {l : Launch} {e : Env} {s : State} {m : MethodId} {args : Array Value} {below : List Frame} {meth : Method} {c : Code} {A : Nat → Prop} {Q : State → Prop} (S : Ev p s m args meth c cX3_countInside 3 (some .int) yX3_countInside.cls wsX3_countInside) {G : uG} (hK : kK G s) (hA : ∀ q, s.heap.size ≤ q → A q) (_ : uG) (a0 : Nat → Nat) (v0 : StV) : ∀ (n : Nat) (z : (Int32 × Int32)) (e1 : (Int32 × Int32)), lp (b_X3_countInside_4 v0) n z = some e1 → ∀ (H : Heap) (locs : List Loc) (ls : Array Slot), gP G [stW G a0 v0] H → gD A [stW G a0 v0] → va_S A s.heap H locs → lv_has ls 3 [(0, .ref (a0 0)), (1, .int z.1), (2, .int z.2)] → (∀ (H : Heap) (locs : List Loc) (ls : Array Slot), gP G [stW G a0 v0] H → gD A [stW G a0 v0] → va_S A s.heap H locs → lv_has ls 3 [(0, .ref (a0 0)), (1, .int e1.1), (2, .int e1.2)] → W p l e ({ frames := 0, cells := 0, slots := 0, locals := 0 } : Room) s m args below meth c H locs 0 0 Q (F0 m 30 ls [])) → W p l e ({ frames := 0, cells := 0, slots := 0, locals := 0 } : Room) s m args below meth c H locs 0 0 Q (F0 m 4 ls []) := by
  obtain ⟨hx, hb, hml, hown, hts, hr, hlocks⟩ := id S
  intro n
  induction n with
  | zero => intro z e1 h; cases h
  | succ n ih =>
    intro z e1 hlp H locs ls hP hD hS hl K
    obtain ⟨z9, hf, hz⟩ := lp_s hlp
    unfold b_X3_countInside_4 at hf
    refine lv_iload_n hx hb dX3_countInside_4 rfl (lv_at hl 2 rfl) ?_
    refine lv_aload_n hx hb dX3_countInside_5 rfl (lv_at hl 0 rfl) ?_
    refine g_get (C := RX3) (T := TX3) (N := 17) hx hb hts iwX3_countInside_X3 hown hK hP 0 0 rfl rfl rfl 0 (Nat.le_of_ble_eq_true rfl) (hts _ kX3_countInside_0) (fun _ h9 => h9) rfl dX3_countInside_6 ?_
    refine lv_icmp_ge (tgt := 30) hx hb dX3_countInside_9 (by decide) (fun c1 => ?_) (fun c1 => ?_)
    · rw [if_pos c1] at hf
      have he := lz_r hf hz
      subst he
      exact K H locs ls hP hD hS (lv_sub hl [0, 1, 2] rfl)
    · rw [if_neg c1] at hf
      refine lv_aload_n hx hb dX3_countInside_12 rfl (lv_at hl 0 rfl) ?_
      refine g_get (C := RX3) (T := TX3) (N := 17) hx hb hts iwX3_countInside_X3 hown hK hP 0 0 rfl rfl rfl 10 (Nat.le_of_ble_eq_true rfl) (hts _ kX3_countInside_1) (fun _ h9 => h9) rfl dX3_countInside_13 ?_
      refine lv_iload_n hx hb dX3_countInside_16 rfl (lv_at hl 2 rfl) ?_
      obtain ⟨h2, hf⟩ := gi_some hf
      refine g_zald hx hb hK hP 0 6 1 rfl rfl rfl h2 dX3_countInside_17 ?_
      refine lv_if_eq (tgt := 24) hx hb dX3_countInside_18 (by decide) (fun c3 => ?_) (fun c3 => ?_)
      · rw [if_pos c3] at hf
        obtain ⟨x4, ex4, hf⟩ := lt_some hf
        refine lv_iinc (v := x4) (lv' := [(2, .int x4), (0, .ref (a0 0)), (1, .int z.1)]) hx hb dX3_countInside_24 hl (k := 2) rfl (by rw [ex4]; rfl) (by decide) rfl (fun ls hl => ?_)
        refine lv_goto (tgt := 4) hx hb dX3_countInside_27 (by decide) ?_
        exact ih _ e1 (lz_l hf hz) H locs ls hP hD hS (lv_sub hl [1, 2, 0] rfl) K
      · rw [if_neg c3] at hf
        obtain ⟨x5, ex5, hf⟩ := lt_some hf
        refine lv_iinc (v := x5) (lv' := [(1, .int x5), (0, .ref (a0 0)), (2, .int z.2)]) hx hb dX3_countInside_21 hl (k := 1) rfl (by rw [ex5]; rfl) (by decide) rfl (fun ls hl => ?_)
        obtain ⟨x6, ex6, hf⟩ := lt_some hf
        refine lv_iinc (v := x6) (lv' := [(2, .int x6), (1, .int x5), (0, .ref (a0 0))]) hx hb dX3_countInside_24 hl (k := 2) rfl (by rw [ex6]; rfl) (by decide) rfl (fun ls hl => ?_)
        refine lv_goto (tgt := 4) hx hb dX3_countInside_27 (by decide) ?_
        exact ih _ e1 (lz_l hf hz) H locs ls hP hD hS (lv_sub hl [2, 1, 0] rfl) K
set_option maxHeartbeats 4000000 in
set_option maxRecDepth 100000 in
theorem c_X3_countInside (l : Launch) (G : uG) (a0 : Nat → Nat) (v0 : StV) {q : Int32 × (Unit)} (hf : f_X3_countInside v0 = some q) : mQ l yX3_countInside wsX3_countInside ({ frames := 0, cells := 0, slots := 0, locals := 0 } : Room) G [.ref (a0 0)] [stW G a0 v0] [stW G a0 v0] (qI G [stW G a0 v0] q.1) := by
  unfold f_X3_countInside at hf
  refine m_of (cc := cX3_countInside) (maxL := 3) (ret := (some .int)) (by decide) rfl rfl (Nat.le_of_ble_eq_true rfl) ?_
  intro p e s m args below meth c A ls S hK hA hP hD hS hl
  obtain ⟨hx, hb, hml, hown, hts, hr, hlocks⟩ := id S
  have hl : lv_has ls 3 [(0, .ref (a0 0))] := hl
  refine lv_iconst (v := (0:Int32)) hx hb dX3_countInside_0 (by decide) ?_
  refine lv_istore_n (lv' := [(1, .int (0:Int32)), (0, .ref (a0 0))]) hx hb dX3_countInside_1 rfl hl (by decide) rfl (fun ls hl => ?_)
  refine lv_iconst (v := (0:Int32)) hx hb dX3_countInside_2 (by decide) ?_
  refine lv_istore_n (lv' := [(2, .int (0:Int32)), (1, .int (0:Int32)), (0, .ref (a0 0))]) hx hb dX3_countInside_3 rfl hl (by decide) rfl (fun ls hl => ?_)
  obtain ⟨e7, he7, hf⟩ := bd_some hf
  refine w_X3_countInside_4 (Q := _) S hK hA G a0 v0 FU _ e7 he7 _ _ _ hP hD hS (lv_sub hl [2, 1, 0] rfl) (fun H locs ls hP hD hS hl => ?_)
  refine lv_iload_n hx hb dX3_countInside_30 rfl (lv_at hl 1 rfl) ?_
  cases hf
  exact g_iret hx hb hr hlocks hP hS dX3_countInside_31
theorem kX3_countWaiting_0 : Cond.fieldLink RX3 53 "SavingsCircle$State" "count" "I" ∈ wsX3_countWaiting := (List.mem_cons_of_mem _ (List.mem_append_left _ (List.mem_of_getElem? (i := 0) rfl)))
theorem kX3_countWaiting_1 : Cond.fieldLink RX3 32 "SavingsCircle$State" "inside" "[Z" ∈ wsX3_countWaiting := (List.mem_cons_of_mem _ (List.mem_append_left _ (List.mem_of_getElem? (i := 1) rfl)))
theorem kX3_countWaiting_2 : Cond.fieldLink RX3 29 "SavingsCircle$State" "taken" "[Z" ∈ wsX3_countWaiting := (List.mem_cons_of_mem _ (List.mem_append_left _ (List.mem_of_getElem? (i := 2) rfl)))
theorem iwX3_countWaiting_X3 : ∀ w ∈ wsX30, w ∈ wsX3_countWaiting := fun w h => (List.mem_cons_of_mem _ (List.mem_append_right _ h))
set_option maxHeartbeats 4000000 in
set_option maxRecDepth 100000 in
theorem w_X3_countWaiting_4 {p : Program} {l : Launch} {e : Env} {s : State} {m : MethodId} {args : Array Value} {below : List Frame} {meth : Method} {c : Code} {A : Nat → Prop} {Q : State → Prop} (S : Ev p s m args meth c cX3_countWaiting 3 (some .int) yX3_countWaiting.cls wsX3_countWaiting) {G : uG} (hK : kK G s) (hA : ∀ q, s.heap.size ≤ q → A q) (_ : uG) (a0 : Nat → Nat) (v0 : StV) : ∀ (n : Nat) (z : (Int32 × Int32)) (e1 : (Int32 × Int32)), lp (b_X3_countWaiting_4 v0) n z = some e1 → ∀ (H : Heap) (locs : List Loc) (ls : Array Slot), gP G [stW G a0 v0] H → gD A [stW G a0 v0] → va_S A s.heap H locs → lv_has ls 3 [(0, .ref (a0 0)), (1, .int z.1), (2, .int z.2)] → (∀ (H : Heap) (locs : List Loc) (ls : Array Slot), gP G [stW G a0 v0] H → gD A [stW G a0 v0] → va_S A s.heap H locs → lv_has ls 3 [(0, .ref (a0 0)), (1, .int e1.1), (2, .int e1.2)] → W p l e ({ frames := 0, cells := 0, slots := 0, locals := 0 } : Room) s m args below meth c H locs 0 0 Q (F0 m 39 ls [])) → W p l e ({ frames := 0, cells := 0, slots := 0, locals := 0 } : Room) s m args below meth c H locs 0 0 Q (F0 m 4 ls []) := by
  obtain ⟨hx, hb, hml, hown, hts, hr, hlocks⟩ := id S
  intro n
  induction n with
  | zero => intro z e1 h; cases h
  | succ n ih =>
    intro z e1 hlp H locs ls hP hD hS hl K
    obtain ⟨z9, hf, hz⟩ := lp_s hlp
    unfold b_X3_countWaiting_4 at hf
    refine lv_iload_n hx hb dX3_countWaiting_4 rfl (lv_at hl 2 rfl) ?_
    refine lv_aload_n hx hb dX3_countWaiting_5 rfl (lv_at hl 0 rfl) ?_
    refine g_get (C := RX3) (T := TX3) (N := 17) hx hb hts iwX3_countWaiting_X3 hown hK hP 0 0 rfl rfl rfl 0 (Nat.le_of_ble_eq_true rfl) (hts _ kX3_countWaiting_0) (fun _ h9 => h9) rfl dX3_countWaiting_6 ?_
    refine lv_icmp_ge (tgt := 39) hx hb dX3_countWaiting_9 (by decide) (fun c1 => ?_) (fun c1 => ?_)
    · rw [if_pos c1] at hf
      have he := lz_r hf hz
      subst he
      exact K H locs ls hP hD hS (lv_sub hl [0, 1, 2] rfl)
    · rw [if_neg c1] at hf
      refine lv_aload_n hx hb dX3_countWaiting_12 rfl (lv_at hl 0 rfl) ?_
      refine g_get (C := RX3) (T := TX3) (N := 17) hx hb hts iwX3_countWaiting_X3 hown hK hP 0 0 rfl rfl rfl 10 (Nat.le_of_ble_eq_true rfl) (hts _ kX3_countWaiting_1) (fun _ h9 => h9) rfl dX3_countWaiting_13 ?_
      refine lv_iload_n hx hb dX3_countWaiting_16 rfl (lv_at hl 2 rfl) ?_
      obtain ⟨h2, hf⟩ := gi_some hf
      refine g_zald hx hb hK hP 0 6 1 rfl rfl rfl h2 dX3_countWaiting_17 ?_
      refine lv_if_eq (tgt := 33) hx hb dX3_countWaiting_18 (by decide) (fun c3 => ?_) (fun c3 => ?_)
      · rw [if_pos c3] at hf
        obtain ⟨x4, ex4, hf⟩ := lt_some hf
        refine lv_iinc (v := x4) (lv' := [(2, .int x4), (0, .ref (a0 0)), (1, .int z.1)]) hx hb dX3_countWaiting_33 hl (k := 2) rfl (by rw [ex4]; rfl) (by decide) rfl (fun ls hl => ?_)
        refine lv_goto (tgt := 4) hx hb dX3_countWaiting_36 (by decide) ?_
        exact ih _ e1 (lz_l hf hz) H locs ls hP hD hS (lv_sub hl [1, 2, 0] rfl) K
      · rw [if_neg c3] at hf
        refine lv_aload_n hx hb dX3_countWaiting_21 rfl (lv_at hl 0 rfl) ?_
        refine g_get (C := RX3) (T := TX3) (N := 17) hx hb hts iwX3_countWaiting_X3 hown hK hP 0 0 rfl rfl rfl 9 (Nat.le_of_ble_eq_true rfl) (hts _ kX3_countWaiting_2) (fun _ h9 => h9) rfl dX3_countWaiting_22 ?_
        refine lv_iload_n hx hb dX3_countWaiting_25 rfl (lv_at hl 2 rfl) ?_
        obtain ⟨h5, hf⟩ := gi_some hf
        refine g_zald hx hb hK hP 0 5 1 rfl rfl rfl h5 dX3_countWaiting_26 ?_
        refine lv_if_ne (tgt := 33) hx hb dX3_countWaiting_27 (by decide) (fun c6 => ?_) (fun c6 => ?_)
        · rw [if_neg c6] at hf
          obtain ⟨x7, ex7, hf⟩ := lt_some hf
          refine lv_iinc (v := x7) (lv' := [(2, .int x7), (0, .ref (a0 0)), (1, .int z.1)]) hx hb dX3_countWaiting_33 hl (k := 2) rfl (by rw [ex7]; rfl) (by decide) rfl (fun ls hl => ?_)
          refine lv_goto (tgt := 4) hx hb dX3_countWaiting_36 (by decide) ?_
          exact ih _ e1 (lz_l hf hz) H locs ls hP hD hS (lv_sub hl [1, 2, 0] rfl) K
        · rw [if_pos c6] at hf
          obtain ⟨x8, ex8, hf⟩ := lt_some hf
          refine lv_iinc (v := x8) (lv' := [(1, .int x8), (0, .ref (a0 0)), (2, .int z.2)]) hx hb dX3_countWaiting_30 hl (k := 1) rfl (by rw [ex8]; rfl) (by decide) rfl (fun ls hl => ?_)
          obtain ⟨x9, ex9, hf⟩ := lt_some hf
          refine lv_iinc (v := x9) (lv' := [(2, .int x9), (1, .int x8), (0, .ref (a0 0))]) hx hb dX3_countWaiting_33 hl (k := 2) rfl (by rw [ex9]; rfl) (by decide) rfl (fun ls hl => ?_)
          refine lv_goto (tgt := 4) hx hb dX3_countWaiting_36 (by decide) ?_
          exact ih _ e1 (lz_l hf hz) H locs ls hP hD hS (lv_sub hl [2, 1, 0] rfl) K
set_option maxHeartbeats 4000000 in
set_option maxRecDepth 100000 in
theorem c_X3_countWaiting (l : Launch) (G : uG) (a0 : Nat → Nat) (v0 : StV) {q : Int32 × (Unit)} (hf : f_X3_countWaiting v0 = some q) : mQ l yX3_countWaiting wsX3_countWaiting ({ frames := 0, cells := 0, slots := 0, locals := 0 } : Room) G [.ref (a0 0)] [stW G a0 v0] [stW G a0 v0] (qI G [stW G a0 v0] q.1) := by
  unfold f_X3_countWaiting at hf
  refine m_of (cc := cX3_countWaiting) (maxL := 3) (ret := (some .int)) (by decide) rfl rfl (Nat.le_of_ble_eq_true rfl) ?_
  intro p e s m args below meth c A ls S hK hA hP hD hS hl
  obtain ⟨hx, hb, hml, hown, hts, hr, hlocks⟩ := id S
  have hl : lv_has ls 3 [(0, .ref (a0 0))] := hl
  refine lv_iconst (v := (0:Int32)) hx hb dX3_countWaiting_0 (by decide) ?_
  refine lv_istore_n (lv' := [(1, .int (0:Int32)), (0, .ref (a0 0))]) hx hb dX3_countWaiting_1 rfl hl (by decide) rfl (fun ls hl => ?_)
  refine lv_iconst (v := (0:Int32)) hx hb dX3_countWaiting_2 (by decide) ?_
  refine lv_istore_n (lv' := [(2, .int (0:Int32)), (1, .int (0:Int32)), (0, .ref (a0 0))]) hx hb dX3_countWaiting_3 rfl hl (by decide) rfl (fun ls hl => ?_)
  obtain ⟨e10, he10, hf⟩ := bd_some hf
  refine w_X3_countWaiting_4 (Q := _) S hK hA G a0 v0 FU _ e10 he10 _ _ _ hP hD hS (lv_sub hl [2, 1, 0] rfl) (fun H locs ls hP hD hS hl => ?_)
  refine lv_iload_n hx hb dX3_countWaiting_39 rfl (lv_at hl 1 rfl) ?_
  cases hf
  exact g_iret hx hb hr hlocks hP hS dX3_countWaiting_40
theorem kX3_sumOfPurses_0 : Cond.fieldLink RX3 53 "SavingsCircle$State" "count" "I" ∈ wsX3_sumOfPurses := (List.mem_cons_of_mem _ (List.mem_append_left _ (List.mem_of_getElem? (i := 0) rfl)))
theorem kX3_sumOfPurses_1 : Cond.fieldLink RX3 15 "SavingsCircle$State" "purse" "[I" ∈ wsX3_sumOfPurses := (List.mem_cons_of_mem _ (List.mem_append_left _ (List.mem_of_getElem? (i := 1) rfl)))
theorem iwX3_sumOfPurses_X3 : ∀ w ∈ wsX30, w ∈ wsX3_sumOfPurses := fun w h => (List.mem_cons_of_mem _ (List.mem_append_right _ h))
set_option maxHeartbeats 4000000 in
set_option maxRecDepth 100000 in
theorem w_X3_sumOfPurses_4 {p : Program} {l : Launch} {e : Env} {s : State} {m : MethodId} {args : Array Value} {below : List Frame} {meth : Method} {c : Code} {A : Nat → Prop} {Q : State → Prop} (S : Ev p s m args meth c cX3_sumOfPurses 3 (some .int) yX3_sumOfPurses.cls wsX3_sumOfPurses) {G : uG} (hK : kK G s) (hA : ∀ q, s.heap.size ≤ q → A q) (_ : uG) (a0 : Nat → Nat) (v0 : StV) : ∀ (n : Nat) (z : (Int32 × Int32)) (e1 : (Int32 × Int32)), lp (b_X3_sumOfPurses_4 v0) n z = some e1 → ∀ (H : Heap) (locs : List Loc) (ls : Array Slot), gP G [stW G a0 v0] H → gD A [stW G a0 v0] → va_S A s.heap H locs → lv_has ls 3 [(0, .ref (a0 0)), (1, .int z.1), (2, .int z.2)] → (∀ (H : Heap) (locs : List Loc) (ls : Array Slot), gP G [stW G a0 v0] H → gD A [stW G a0 v0] → va_S A s.heap H locs → lv_has ls 3 [(0, .ref (a0 0)), (1, .int e1.1), (2, .int e1.2)] → W p l e ({ frames := 0, cells := 0, slots := 0, locals := 0 } : Room) s m args below meth c H locs 0 0 Q (F0 m 27 ls [])) → W p l e ({ frames := 0, cells := 0, slots := 0, locals := 0 } : Room) s m args below meth c H locs 0 0 Q (F0 m 4 ls []) := by
  obtain ⟨hx, hb, hml, hown, hts, hr, hlocks⟩ := id S
  intro n
  induction n with
  | zero => intro z e1 h; cases h
  | succ n ih =>
    intro z e1 hlp H locs ls hP hD hS hl K
    obtain ⟨z9, hf, hz⟩ := lp_s hlp
    unfold b_X3_sumOfPurses_4 at hf
    refine lv_iload_n hx hb dX3_sumOfPurses_4 rfl (lv_at hl 2 rfl) ?_
    refine lv_aload_n hx hb dX3_sumOfPurses_5 rfl (lv_at hl 0 rfl) ?_
    refine g_get (C := RX3) (T := TX3) (N := 17) hx hb hts iwX3_sumOfPurses_X3 hown hK hP 0 0 rfl rfl rfl 0 (Nat.le_of_ble_eq_true rfl) (hts _ kX3_sumOfPurses_0) (fun _ h9 => h9) rfl dX3_sumOfPurses_6 ?_
    refine lv_icmp_ge (tgt := 27) hx hb dX3_sumOfPurses_9 (by decide) (fun c1 => ?_) (fun c1 => ?_)
    · rw [if_pos c1] at hf
      have he := lz_r hf hz
      subst he
      exact K H locs ls hP hD hS (lv_sub hl [0, 1, 2] rfl)
    · rw [if_neg c1] at hf
      refine lv_iload_n hx hb dX3_sumOfPurses_12 rfl (lv_at hl 1 rfl) ?_
      refine lv_aload_n hx hb dX3_sumOfPurses_13 rfl (lv_at hl 0 rfl) ?_
      refine g_get (C := RX3) (T := TX3) (N := 17) hx hb hts iwX3_sumOfPurses_X3 hown hK hP 0 0 rfl rfl rfl 5 (Nat.le_of_ble_eq_true rfl) (hts _ kX3_sumOfPurses_1) (fun _ h9 => h9) rfl dX3_sumOfPurses_14 ?_
      refine lv_iload_n hx hb dX3_sumOfPurses_17 rfl (lv_at hl 2 rfl) ?_
      obtain ⟨h2, hf⟩ := gi_some hf
      refine g_iald hx hb hK hP 0 1 0 rfl rfl rfl h2 dX3_sumOfPurses_18 ?_
      refine lv_iadd hx hb dX3_sumOfPurses_19 ?_
      obtain ⟨x3, ex3, hf⟩ := lt_some hf
      refine lv_nmi ex3 ?_
      refine lv_istore_n (lv' := [(1, .int x3), (0, .ref (a0 0)), (2, .int z.2)]) hx hb dX3_sumOfPurses_20 rfl hl (by decide) rfl (fun ls hl => ?_)
      obtain ⟨x4, ex4, hf⟩ := lt_some hf
      refine lv_iinc (v := x4) (lv' := [(2, .int x4), (1, .int x3), (0, .ref (a0 0))]) hx hb dX3_sumOfPurses_21 hl (k := 2) rfl (by rw [ex4]; rfl) (by decide) rfl (fun ls hl => ?_)
      refine lv_goto (tgt := 4) hx hb dX3_sumOfPurses_24 (by decide) ?_
      exact ih _ e1 (lz_l hf hz) H locs ls hP hD hS (lv_sub hl [2, 1, 0] rfl) K
set_option maxHeartbeats 4000000 in
set_option maxRecDepth 100000 in
theorem c_X3_sumOfPurses (l : Launch) (G : uG) (a0 : Nat → Nat) (v0 : StV) {q : Int32 × (Unit)} (hf : f_X3_sumOfPurses v0 = some q) : mQ l yX3_sumOfPurses wsX3_sumOfPurses ({ frames := 0, cells := 0, slots := 0, locals := 0 } : Room) G [.ref (a0 0)] [stW G a0 v0] [stW G a0 v0] (qI G [stW G a0 v0] q.1) := by
  unfold f_X3_sumOfPurses at hf
  refine m_of (cc := cX3_sumOfPurses) (maxL := 3) (ret := (some .int)) (by decide) rfl rfl (Nat.le_of_ble_eq_true rfl) ?_
  intro p e s m args below meth c A ls S hK hA hP hD hS hl
  obtain ⟨hx, hb, hml, hown, hts, hr, hlocks⟩ := id S
  have hl : lv_has ls 3 [(0, .ref (a0 0))] := hl
  refine lv_iconst (v := (0:Int32)) hx hb dX3_sumOfPurses_0 (by decide) ?_
  refine lv_istore_n (lv' := [(1, .int (0:Int32)), (0, .ref (a0 0))]) hx hb dX3_sumOfPurses_1 rfl hl (by decide) rfl (fun ls hl => ?_)
  refine lv_iconst (v := (0:Int32)) hx hb dX3_sumOfPurses_2 (by decide) ?_
  refine lv_istore_n (lv' := [(2, .int (0:Int32)), (1, .int (0:Int32)), (0, .ref (a0 0))]) hx hb dX3_sumOfPurses_3 rfl hl (by decide) rfl (fun ls hl => ?_)
  obtain ⟨e5, he5, hf⟩ := bd_some hf
  refine w_X3_sumOfPurses_4 (Q := _) S hK hA G a0 v0 FU _ e5 he5 _ _ _ hP hD hS (lv_sub hl [2, 1, 0] rfl) (fun H locs ls hP hD hS hl => ?_)
  refine lv_iload_n hx hb dX3_sumOfPurses_27 rfl (lv_at hl 1 rfl) ?_
  cases hf
  exact g_iret hx hb hr hlocks hP hS dX3_sumOfPurses_28
theorem kX3_sumOfDebts_0 : Cond.fieldLink RX3 50 "SavingsCircle$State" "debt" "[I" ∈ wsX3_sumOfDebts := (List.mem_cons_of_mem _ (List.mem_append_left _ (List.mem_of_getElem? (i := 0) rfl)))
theorem iwX3_sumOfDebts_X3 : ∀ w ∈ wsX30, w ∈ wsX3_sumOfDebts := fun w h => (List.mem_cons_of_mem _ (List.mem_append_right _ h))
set_option maxHeartbeats 4000000 in
set_option maxRecDepth 100000 in
theorem w_X3_sumOfDebts_4 {p : Program} {l : Launch} {e : Env} {s : State} {m : MethodId} {args : Array Value} {below : List Frame} {meth : Method} {c : Code} {A : Nat → Prop} {Q : State → Prop} (S : Ev p s m args meth c cX3_sumOfDebts 3 (some .int) yX3_sumOfDebts.cls wsX3_sumOfDebts) {G : uG} (hK : kK G s) (hA : ∀ q, s.heap.size ≤ q → A q) (_ : uG) (a0 : Nat → Nat) (v0 : StV) : ∀ (n : Nat) (z : (Int32 × Int32)) (e1 : (Int32 × Int32)), lp (b_X3_sumOfDebts_4 v0) n z = some e1 → ∀ (H : Heap) (locs : List Loc) (ls : Array Slot), gP G [stW G a0 v0] H → gD A [stW G a0 v0] → va_S A s.heap H locs → lv_has ls 3 [(0, .ref (a0 0)), (1, .int z.1), (2, .int z.2)] → (∀ (H : Heap) (locs : List Loc) (ls : Array Slot), gP G [stW G a0 v0] H → gD A [stW G a0 v0] → va_S A s.heap H locs → lv_has ls 3 [(0, .ref (a0 0)), (1, .int e1.1), (2, .int e1.2)] → W p l e ({ frames := 0, cells := 0, slots := 0, locals := 0 } : Room) s m args below meth c H locs 0 0 Q (F0 m 28 ls [])) → W p l e ({ frames := 0, cells := 0, slots := 0, locals := 0 } : Room) s m args below meth c H locs 0 0 Q (F0 m 4 ls []) := by
  obtain ⟨hx, hb, hml, hown, hts, hr, hlocks⟩ := id S
  intro n
  induction n with
  | zero => intro z e1 h; cases h
  | succ n ih =>
    intro z e1 hlp H locs ls hP hD hS hl K
    obtain ⟨z9, hf, hz⟩ := lp_s hlp
    unfold b_X3_sumOfDebts_4 at hf
    refine lv_iload_n hx hb dX3_sumOfDebts_4 rfl (lv_at hl 2 rfl) ?_
    refine lv_aload_n hx hb dX3_sumOfDebts_5 rfl (lv_at hl 0 rfl) ?_
    refine g_get (C := RX3) (T := TX3) (N := 17) hx hb hts iwX3_sumOfDebts_X3 hown hK hP 0 0 rfl rfl rfl 16 (Nat.le_of_ble_eq_true rfl) (hts _ kX3_sumOfDebts_0) (fun _ h9 => h9) rfl dX3_sumOfDebts_6 ?_
    refine g_alen (v := (64:Int32)) hx hb hK hP 0 12 0 rfl rfl rfl rfl dX3_sumOfDebts_9 ?_
    refine lv_icmp_ge (tgt := 28) hx hb dX3_sumOfDebts_10 (by decide) (fun c1 => ?_) (fun c1 => ?_)
    · rw [if_pos c1] at hf
      have he := lz_r hf hz
      subst he
      exact K H locs ls hP hD hS (lv_sub hl [0, 1, 2] rfl)
    · rw [if_neg c1] at hf
      refine lv_iload_n hx hb dX3_sumOfDebts_13 rfl (lv_at hl 1 rfl) ?_
      refine lv_aload_n hx hb dX3_sumOfDebts_14 rfl (lv_at hl 0 rfl) ?_
      refine g_get (C := RX3) (T := TX3) (N := 17) hx hb hts iwX3_sumOfDebts_X3 hown hK hP 0 0 rfl rfl rfl 16 (Nat.le_of_ble_eq_true rfl) (hts _ kX3_sumOfDebts_0) (fun _ h9 => h9) rfl dX3_sumOfDebts_15 ?_
      refine lv_iload_n hx hb dX3_sumOfDebts_18 rfl (lv_at hl 2 rfl) ?_
      obtain ⟨h2, hf⟩ := gi_some hf
      refine g_iald hx hb hK hP 0 12 0 rfl rfl rfl h2 dX3_sumOfDebts_19 ?_
      refine lv_iadd hx hb dX3_sumOfDebts_20 ?_
      obtain ⟨x3, ex3, hf⟩ := lt_some hf
      refine lv_nmi ex3 ?_
      refine lv_istore_n (lv' := [(1, .int x3), (0, .ref (a0 0)), (2, .int z.2)]) hx hb dX3_sumOfDebts_21 rfl hl (by decide) rfl (fun ls hl => ?_)
      obtain ⟨x4, ex4, hf⟩ := lt_some hf
      refine lv_iinc (v := x4) (lv' := [(2, .int x4), (1, .int x3), (0, .ref (a0 0))]) hx hb dX3_sumOfDebts_22 hl (k := 2) rfl (by rw [ex4]; rfl) (by decide) rfl (fun ls hl => ?_)
      refine lv_goto (tgt := 4) hx hb dX3_sumOfDebts_25 (by decide) ?_
      exact ih _ e1 (lz_l hf hz) H locs ls hP hD hS (lv_sub hl [2, 1, 0] rfl) K
set_option maxHeartbeats 4000000 in
set_option maxRecDepth 100000 in
theorem c_X3_sumOfDebts (l : Launch) (G : uG) (a0 : Nat → Nat) (v0 : StV) {q : Int32 × (Unit)} (hf : f_X3_sumOfDebts v0 = some q) : mQ l yX3_sumOfDebts wsX3_sumOfDebts ({ frames := 0, cells := 0, slots := 0, locals := 0 } : Room) G [.ref (a0 0)] [stW G a0 v0] [stW G a0 v0] (qI G [stW G a0 v0] q.1) := by
  unfold f_X3_sumOfDebts at hf
  refine m_of (cc := cX3_sumOfDebts) (maxL := 3) (ret := (some .int)) (by decide) rfl rfl (Nat.le_of_ble_eq_true rfl) ?_
  intro p e s m args below meth c A ls S hK hA hP hD hS hl
  obtain ⟨hx, hb, hml, hown, hts, hr, hlocks⟩ := id S
  have hl : lv_has ls 3 [(0, .ref (a0 0))] := hl
  refine lv_iconst (v := (0:Int32)) hx hb dX3_sumOfDebts_0 (by decide) ?_
  refine lv_istore_n (lv' := [(1, .int (0:Int32)), (0, .ref (a0 0))]) hx hb dX3_sumOfDebts_1 rfl hl (by decide) rfl (fun ls hl => ?_)
  refine lv_iconst (v := (0:Int32)) hx hb dX3_sumOfDebts_2 (by decide) ?_
  refine lv_istore_n (lv' := [(2, .int (0:Int32)), (1, .int (0:Int32)), (0, .ref (a0 0))]) hx hb dX3_sumOfDebts_3 rfl hl (by decide) rfl (fun ls hl => ?_)
  obtain ⟨e5, he5, hf⟩ := bd_some hf
  refine w_X3_sumOfDebts_4 (Q := _) S hK hA G a0 v0 FU _ e5 he5 _ _ _ hP hD hS (lv_sub hl [2, 1, 0] rfl) (fun H locs ls hP hD hS hl => ?_)
  refine lv_iload_n hx hb dX3_sumOfDebts_28 rfl (lv_at hl 1 rfl) ?_
  cases hf
  exact g_iret hx hb hr hlocks hP hS dX3_sumOfDebts_29
theorem kX3_chainLength_0 : Cond.fieldLink RX3 19 "SavingsCircle$State" "guarantor" "[I" ∈ wsX3_chainLength := (List.mem_cons_of_mem _ (List.mem_append_left _ (List.mem_of_getElem? (i := 0) rfl)))
theorem iwX3_chainLength_X3 : ∀ w ∈ wsX30, w ∈ wsX3_chainLength := fun w h => (List.mem_cons_of_mem _ (List.mem_append_right _ h))
set_option maxHeartbeats 4000000 in
set_option maxRecDepth 100000 in
theorem w_X3_chainLength_7 {p : Program} {l : Launch} {e : Env} {s : State} {m : MethodId} {args : Array Value} {below : List Frame} {meth : Method} {c : Code} {A : Nat → Prop} {Q : State → Prop} (S : Ev p s m args meth c cX3_chainLength 5 (some .int) yX3_chainLength.cls wsX3_chainLength) {G : uG} (hK : kK G s) (hA : ∀ q, s.heap.size ≤ q → A q) (_ : uG) (a0 : Nat → Nat) (v0 : StV) : ∀ (n : Nat) (z : (Int32 × Int32 × Int32)) (e1 : (Int32 × Int32 × Int32)), lp (b_X3_chainLength_7 v0) n z = some e1 → ∀ (H : Heap) (locs : List Loc) (ls : Array Slot), gP G [stW G a0 v0] H → gD A [stW G a0 v0] → va_S A s.heap H locs → lv_has ls 5 [(0, .ref (a0 0)), (2, .int z.1), (3, .int z.2.1), (4, .int z.2.2)] → (∀ (H : Heap) (locs : List Loc) (ls : Array Slot), gP G [stW G a0 v0] H → gD A [stW G a0 v0] → va_S A s.heap H locs → lv_has ls 5 [(0, .ref (a0 0)), (2, .int e1.1), (3, .int e1.2.1), (4, .int e1.2.2)] → W p l e ({ frames := 1, cells := 0, slots := 0, locals := 21 } : Room) s m args below meth c H locs 0 0 Q (F0 m 53 ls [])) → W p l e ({ frames := 1, cells := 0, slots := 0, locals := 21 } : Room) s m args below meth c H locs 0 0 Q (F0 m 7 ls []) := by
  obtain ⟨hx, hb, hml, hown, hts, hr, hlocks⟩ := id S
  intro n
  induction n with
  | zero => intro z e1 h; cases h
  | succ n ih =>
    intro z e1 hlp H locs ls hP hD hS hl K
    obtain ⟨z9, hf, hz⟩ := lp_s hlp
    unfold b_X3_chainLength_7 at hf
    refine lv_iload_n hx hb dX3_chainLength_7 rfl (lv_at hl 2 rfl) ?_
    refine lv_bipush (v := (8:Int32)) hx hb dX3_chainLength_8 (by decide) ?_
    refine lv_icmp_ge (tgt := 53) hx hb dX3_chainLength_10 (by decide) (fun c1 => ?_) (fun c1 => ?_)
    · rw [if_pos c1] at hf
      have he := lz_r hf hz
      subst he
      exact K H locs ls hP hD hS (lv_sub hl [0, 1, 2, 3] rfl)
    · rw [if_neg c1] at hf
      refine lv_aload_n hx hb dX3_chainLength_13 rfl (lv_at hl 0 rfl) ?_
      refine lv_iload hx hb dX3_chainLength_14 (lv_at hl 3 rfl) ?_
      obtain ⟨q2, hq2, hf⟩ := bd_some hf
      refine g_callVi S (As := [.int z.2.2]) (gs' := [stW G a0 v0]) (c_X3_exists l G a0 v0 z.2.2 hq2) (cwV 1 hts gX3_chainLength_X3_exists rfl rfl rfl hd_X3_exists ⟨Nat.le_of_ble_eq_true rfl, Nat.le_of_ble_eq_true rfl⟩) hK hP hD hS hA (is := [0]) rfl rfl 0 rfl rfl rfl rfl hl.1 rfl (Nat.le_of_ble_eq_true rfl) dX3_chainLength_16 ⟨Nat.le_of_ble_eq_true rfl, Nat.le_of_ble_eq_true rfl⟩ rfl (fun H locs hP hD hS => ?_)
      refine lv_if_eq (tgt := 53) hx hb dX3_chainLength_19 (by decide) (fun c3 => ?_) (fun c3 => ?_)
      · rw [if_pos c3] at hf
        have he := lz_r hf hz
        subst he
        exact K H locs ls hP hD hS (lv_sub hl [0, 1, 2, 3] rfl)
      · rw [if_neg c3] at hf
        refine lv_iload_n hx hb dX3_chainLength_22 rfl (lv_at hl 1 rfl) ?_
        refine lv_iload hx hb dX3_chainLength_23 (lv_at hl 3 rfl) ?_
        refine lv_ishr hx hb dX3_chainLength_25 ?_
        refine lv_iconst (v := (1:Int32)) hx hb dX3_chainLength_26 (by decide) ?_
        refine lv_iand hx hb dX3_chainLength_27 ?_
        refine lv_if_ne (tgt := 53) hx hb dX3_chainLength_28 (by decide) (fun c4 => ?_) (fun c4 => ?_)
        · rw [if_neg c4] at hf
          have he := lz_r hf hz
          subst he
          exact K H locs ls hP hD hS (lv_sub hl [0, 1, 2, 3] rfl)
        · rw [if_pos c4] at hf
          refine lv_iload_n hx hb dX3_chainLength_31 rfl (lv_at hl 1 rfl) ?_
          refine lv_iconst (v := (1:Int32)) hx hb dX3_chainLength_32 (by decide) ?_
          refine lv_iload hx hb dX3_chainLength_33 (lv_at hl 3 rfl) ?_
          refine lv_ishl hx hb dX3_chainLength_35 ?_
          refine lv_ior hx hb dX3_chainLength_36 ?_
          obtain ⟨x5, ex5, hf⟩ := lt_some hf
          refine lv_nmi ex5 ?_
          refine lv_istore_n (lv' := [(2, .int x5), (0, .ref (a0 0)), (3, .int z.2.1), (4, .int z.2.2)]) hx hb dX3_chainLength_37 rfl hl (by decide) rfl (fun ls hl => ?_)
          obtain ⟨x6, ex6, hf⟩ := lt_some hf
          refine lv_iinc (v := x6) (lv' := [(3, .int x6), (2, .int x5), (0, .ref (a0 0)), (4, .int z.2.2)]) hx hb dX3_chainLength_38 hl (k := 2) rfl (by rw [ex6]; rfl) (by decide) rfl (fun ls hl => ?_)
          refine lv_aload_n hx hb dX3_chainLength_41 rfl (lv_at hl 2 rfl) ?_
          refine g_get (C := RX3) (T := TX3) (N := 17) hx hb hts iwX3_chainLength_X3 hown hK hP 0 0 rfl rfl rfl 6 (Nat.le_of_ble_eq_true rfl) (hts _ kX3_chainLength_0) (fun _ h9 => h9) rfl dX3_chainLength_42 ?_
          refine lv_iload hx hb dX3_chainLength_45 (lv_at hl 3 rfl) ?_
          obtain ⟨h7, hf⟩ := gi_some hf
          refine g_iald hx hb hK hP 0 2 0 rfl rfl rfl h7 dX3_chainLength_47 ?_
          obtain ⟨x8, ex8, hf⟩ := lt_some hf
          refine lv_nmi ex8 ?_
          refine lv_istore (lv' := [(4, .int x8), (3, .int x6), (2, .int x5), (0, .ref (a0 0))]) hx hb dX3_chainLength_48 hl (by decide) rfl (fun ls hl => ?_)
          refine lv_goto (tgt := 7) hx hb dX3_chainLength_50 (by decide) ?_
          exact ih _ e1 (lz_l hf hz) H locs ls hP hD hS (lv_sub hl [3, 2, 1, 0] rfl) K
set_option maxHeartbeats 4000000 in
set_option maxRecDepth 100000 in
theorem c_X3_chainLength (l : Launch) (G : uG) (a0 : Nat → Nat) (v0 : StV) (i1 : Int32) {q : Int32 × (Unit)} (hf : f_X3_chainLength v0 i1 = some q) : mQ l yX3_chainLength wsX3_chainLength ({ frames := 1, cells := 0, slots := 0, locals := 21 } : Room) G [.ref (a0 0), .int i1] [stW G a0 v0] [stW G a0 v0] (qI G [stW G a0 v0] q.1) := by
  unfold f_X3_chainLength at hf
  refine m_of (cc := cX3_chainLength) (maxL := 5) (ret := (some .int)) (by decide) rfl rfl (Nat.le_of_ble_eq_true rfl) ?_
  intro p e s m args below meth c A ls S hK hA hP hD hS hl
  obtain ⟨hx, hb, hml, hown, hts, hr, hlocks⟩ := id S
  have hl : lv_has ls 5 [(0, .ref (a0 0)), (1, .int i1)] := hl
  refine lv_iconst (v := (0:Int32)) hx hb dX3_chainLength_0 (by decide) ?_
  refine lv_istore_n (lv' := [(2, .int (0:Int32)), (0, .ref (a0 0)), (1, .int i1)]) hx hb dX3_chainLength_1 rfl hl (by decide) rfl (fun ls hl => ?_)
  refine lv_iconst (v := (0:Int32)) hx hb dX3_chainLength_2 (by decide) ?_
  refine lv_istore_n (lv' := [(3, .int (0:Int32)), (2, .int (0:Int32)), (0, .ref (a0 0)), (1, .int i1)]) hx hb dX3_chainLength_3 rfl hl (by decide) rfl (fun ls hl => ?_)
  refine lv_iload_n hx hb dX3_chainLength_4 rfl (lv_at hl 3 rfl) ?_
  refine lv_istore (lv' := [(4, .int i1), (3, .int (0:Int32)), (2, .int (0:Int32)), (0, .ref (a0 0)), (1, .int i1)]) hx hb dX3_chainLength_5 hl (by decide) rfl (fun ls hl => ?_)
  obtain ⟨e9, he9, hf⟩ := bd_some hf
  refine w_X3_chainLength_7 (Q := _) S hK hA G a0 v0 FU _ e9 he9 _ _ _ hP hD hS (lv_sub hl [3, 2, 1, 0] rfl) (fun H locs ls hP hD hS hl => ?_)
  refine lv_iload_n hx hb dX3_chainLength_53 rfl (lv_at hl 2 rfl) ?_
  cases hf
  exact g_iret hx hb hr hlocks hP hS dX3_chainLength_54
theorem kX3_mayBid_0 : Cond.fieldLink RX3 32 "SavingsCircle$State" "inside" "[Z" ∈ wsX3_mayBid := (List.mem_cons_of_mem _ (List.mem_append_left _ (List.mem_of_getElem? (i := 0) rfl)))
theorem kX3_mayBid_1 : Cond.fieldLink RX3 29 "SavingsCircle$State" "taken" "[Z" ∈ wsX3_mayBid := (List.mem_cons_of_mem _ (List.mem_append_left _ (List.mem_of_getElem? (i := 1) rfl)))
theorem iwX3_mayBid_X3 : ∀ w ∈ wsX30, w ∈ wsX3_mayBid := fun w h => (List.mem_cons_of_mem _ (List.mem_append_right _ h))
set_option maxHeartbeats 4000000 in
set_option maxRecDepth 100000 in
theorem c_X3_mayBid (l : Launch) (G : uG) (a0 : Nat → Nat) (v0 : StV) (i1 : Int32) {q : Int32 × (Unit)} (hf : f_X3_mayBid v0 i1 = some q) : mQ l yX3_mayBid wsX3_mayBid ({ frames := 0, cells := 0, slots := 0, locals := 0 } : Room) G [.ref (a0 0), .int i1] [stW G a0 v0] [stW G a0 v0] (qI G [stW G a0 v0] q.1) := by
  unfold f_X3_mayBid at hf
  refine m_of (cc := cX3_mayBid) (maxL := 2) (ret := (some .boolean)) (by decide) rfl rfl (Nat.le_of_ble_eq_true rfl) ?_
  intro p e s m args below meth c A ls S hK hA hP hD hS hl
  obtain ⟨hx, hb, hml, hown, hts, hr, hlocks⟩ := id S
  have hl : lv_has ls 2 [(0, .ref (a0 0)), (1, .int i1)] := hl
  refine lv_aload_n hx hb dX3_mayBid_0 rfl (lv_at hl 0 rfl) ?_
  refine g_get (C := RX3) (T := TX3) (N := 17) hx hb hts iwX3_mayBid_X3 hown hK hP 0 0 rfl rfl rfl 10 (Nat.le_of_ble_eq_true rfl) (hts _ kX3_mayBid_0) (fun _ h9 => h9) rfl dX3_mayBid_1 ?_
  refine lv_iload_n hx hb dX3_mayBid_4 rfl (lv_at hl 1 rfl) ?_
  obtain ⟨h1, hf⟩ := gi_some hf
  refine g_zald hx hb hK hP 0 6 1 rfl rfl rfl h1 dX3_mayBid_5 ?_
  refine lv_if_eq (tgt := 22) hx hb dX3_mayBid_6 (by decide) (fun c2 => ?_) (fun c2 => ?_)
  · rw [if_pos c2] at hf
    refine lv_iconst (v := (0:Int32)) hx hb dX3_mayBid_22 (by decide) ?_
    cases hf
    exact g_zret hx hb hr gz0 hlocks hP hS dX3_mayBid_23
  · rw [if_neg c2] at hf
    refine lv_aload_n hx hb dX3_mayBid_9 rfl (lv_at hl 0 rfl) ?_
    refine g_get (C := RX3) (T := TX3) (N := 17) hx hb hts iwX3_mayBid_X3 hown hK hP 0 0 rfl rfl rfl 9 (Nat.le_of_ble_eq_true rfl) (hts _ kX3_mayBid_1) (fun _ h9 => h9) rfl dX3_mayBid_10 ?_
    refine lv_iload_n hx hb dX3_mayBid_13 rfl (lv_at hl 1 rfl) ?_
    obtain ⟨h3, hf⟩ := gi_some hf
    refine g_zald hx hb hK hP 0 5 1 rfl rfl rfl h3 dX3_mayBid_14 ?_
    refine lv_if_ne (tgt := 22) hx hb dX3_mayBid_15 (by decide) (fun c4 => ?_) (fun c4 => ?_)
    · rw [if_neg c4] at hf
      refine lv_iconst (v := (0:Int32)) hx hb dX3_mayBid_22 (by decide) ?_
      cases hf
      exact g_zret hx hb hr gz0 hlocks hP hS dX3_mayBid_23
    · rw [if_pos c4] at hf
      refine lv_iconst (v := (1:Int32)) hx hb dX3_mayBid_18 (by decide) ?_
      refine lv_goto (tgt := 23) hx hb dX3_mayBid_19 (by decide) ?_
      cases hf
      exact g_zret hx hb hr gz1 hlocks hP hS dX3_mayBid_23
theorem kX3_mayReceive_0 : Cond.fieldLink RX3 62 "SavingsCircle$State" "given" "I" ∈ wsX3_mayReceive := (List.mem_cons_of_mem _ (List.mem_append_left _ (List.mem_of_getElem? (i := 0) rfl)))
theorem iwX3_mayReceive_X3 : ∀ w ∈ wsX30, w ∈ wsX3_mayReceive := fun w h => (List.mem_cons_of_mem _ (List.mem_append_right _ h))
set_option maxHeartbeats 4000000 in
set_option maxRecDepth 100000 in
theorem c_X3_mayReceive (l : Launch) (G : uG) (a0 : Nat → Nat) (v0 : StV) (i1 : Int32) {q : Int32 × (Unit)} (hf : f_X3_mayReceive v0 i1 = some q) : mQ l yX3_mayReceive wsX3_mayReceive ({ frames := 0, cells := 0, slots := 0, locals := 0 } : Room) G [.ref (a0 0), .int i1] [stW G a0 v0] [stW G a0 v0] (qI G [stW G a0 v0] q.1) := by
  unfold f_X3_mayReceive at hf
  refine m_of (cc := cX3_mayReceive) (maxL := 2) (ret := (some .boolean)) (by decide) rfl rfl (Nat.le_of_ble_eq_true rfl) ?_
  intro p e s m args below meth c A ls S hK hA hP hD hS hl
  obtain ⟨hx, hb, hml, hown, hts, hr, hlocks⟩ := id S
  have hl : lv_has ls 2 [(0, .ref (a0 0)), (1, .int i1)] := hl
  refine lv_aload_n hx hb dX3_mayReceive_0 rfl (lv_at hl 0 rfl) ?_
  refine g_get (C := RX3) (T := TX3) (N := 17) hx hb hts iwX3_mayReceive_X3 hown hK hP 0 0 rfl rfl rfl 4 (Nat.le_of_ble_eq_true rfl) (hts _ kX3_mayReceive_0) (fun _ h9 => h9) rfl dX3_mayReceive_1 ?_
  refine lv_iload_n hx hb dX3_mayReceive_4 rfl (lv_at hl 1 rfl) ?_
  refine lv_iadd hx hb dX3_mayReceive_5 ?_
  refine lv_sipush (v := (9000:Int32)) hx hb dX3_mayReceive_6 (by decide) ?_
  refine lv_icmp_gt (tgt := 16) hx hb dX3_mayReceive_9 (by decide) (fun c1 => ?_) (fun c1 => ?_)
  · rw [if_pos c1] at hf
    refine lv_iconst (v := (0:Int32)) hx hb dX3_mayReceive_16 (by decide) ?_
    cases hf
    exact g_zret hx hb hr gz0 hlocks hP hS dX3_mayReceive_17
  · rw [if_neg c1] at hf
    refine lv_iconst (v := (1:Int32)) hx hb dX3_mayReceive_12 (by decide) ?_
    refine lv_goto (tgt := 17) hx hb dX3_mayReceive_13 (by decide) ?_
    cases hf
    exact g_zret hx hb hr gz1 hlocks hP hS dX3_mayReceive_17
theorem kX3_receive_0 : Cond.fieldLink RX3 15 "SavingsCircle$State" "purse" "[I" ∈ wsX3_receive := (List.mem_cons_of_mem _ (List.mem_append_left _ (List.mem_of_getElem? (i := 0) rfl)))
theorem kX3_receive_1 : Cond.fieldLink RX3 62 "SavingsCircle$State" "given" "I" ∈ wsX3_receive := (List.mem_cons_of_mem _ (List.mem_append_left _ (List.mem_of_getElem? (i := 1) rfl)))
theorem iwX3_receive_X3 : ∀ w ∈ wsX30, w ∈ wsX3_receive := fun w h => (List.mem_cons_of_mem _ (List.mem_append_right _ h))
set_option maxHeartbeats 4000000 in
set_option maxRecDepth 100000 in
theorem c_X3_receive (l : Launch) (G : uG) (a0 : Nat → Nat) (v0 : StV) (i1 : Int32) (i2 : Int32) {q : Unit × (StV)} (hf : f_X3_receive v0 i1 i2 = some q) : mQ l yX3_receive wsX3_receive ({ frames := 0, cells := 0, slots := 0, locals := 0 } : Room) G [.ref (a0 0), .int i1, .int i2] [stW G a0 v0] [stW G a0 q.2] (qV G [stW G a0 q.2] q.1) := by
  unfold f_X3_receive at hf
  refine m_of (cc := cX3_receive) (maxL := 3) (ret := none) (by decide) rfl rfl (Nat.le_of_ble_eq_true rfl) ?_
  intro p e s m args below meth c A ls S hK hA hP hD hS hl
  obtain ⟨hx, hb, hml, hown, hts, hr, hlocks⟩ := id S
  have hl : lv_has ls 3 [(0, .ref (a0 0)), (1, .int i1), (2, .int i2)] := hl
  refine lv_aload_n hx hb dX3_receive_0 rfl (lv_at hl 0 rfl) ?_
  refine g_get (C := RX3) (T := TX3) (N := 17) hx hb hts iwX3_receive_X3 hown hK hP 0 0 rfl rfl rfl 5 (Nat.le_of_ble_eq_true rfl) (hts _ kX3_receive_0) (fun _ h9 => h9) rfl dX3_receive_1 ?_
  refine lv_iload_n hx hb dX3_receive_4 rfl (lv_at hl 1 rfl) ?_
  refine lv_dup2_11 hx hb dX3_receive_5 rfl rfl ?_
  obtain ⟨h1, hf⟩ := gi_some hf
  refine g_iald hx hb hK hP 0 1 0 rfl rfl rfl h1 dX3_receive_6 ?_
  refine lv_iload_n hx hb dX3_receive_7 rfl (lv_at hl 2 rfl) ?_
  refine lv_iadd hx hb dX3_receive_8 ?_
  obtain ⟨h2, hf⟩ := gi_some hf
  obtain ⟨u3, eu3, hf⟩ := lt_some hf
  refine g_iast (gs' := [stW G a0 u3]) hx hb hK hP hD hS 0 1 0 rfl rfl rfl h2 dX3_receive_9 (by rw [eu3]; rfl) (fun H locs hP hD hS => ?_)
  refine lv_aload_n hx hb dX3_receive_10 rfl (lv_at hl 0 rfl) ?_
  refine lv_dup hx hb dX3_receive_11 rfl ?_
  refine g_get (C := RX3) (T := TX3) (N := 17) hx hb hts iwX3_receive_X3 hown hK hP 0 0 rfl rfl rfl 4 (Nat.le_of_ble_eq_true rfl) (hts _ kX3_receive_1) (fun _ h9 => h9) rfl dX3_receive_12 ?_
  refine lv_iload_n hx hb dX3_receive_15 rfl (lv_at hl 2 rfl) ?_
  refine lv_iadd hx hb dX3_receive_16 ?_
  obtain ⟨u4, eu4, hf⟩ := lt_some hf
  refine g_put (ty := .int) (C := RX3) (T := TX3) (N := 17) (gs' := [stW G a0 u4]) hx hb hts iwX3_receive_X3 tyX3 tyX3_ok nmX3 hown hK hP hD hS 0 0 rfl rfl rfl 4 (Nat.le_of_ble_eq_true rfl) (hts _ kX3_receive_1) (fun _ h9 => h9) rfl (by decide +kernel) rfl rfl (Nat.le_of_ble_eq_true rfl) dX3_receive_17 (by rw [eu4]; rfl) (fun H locs hP hD hS => ?_)
  cases hf
  exact g_vret hx hb hr hlocks hP hS dX3_receive_20
theorem kX3_mayPass_0 : Cond.fieldLink RX3 56 "SavingsCircle$State" "month" "I" ∈ wsX3_mayPass := (List.mem_cons_of_mem _ (List.mem_append_left _ (List.mem_of_getElem? (i := 0) rfl)))
theorem iwX3_mayPass_X3 : ∀ w ∈ wsX30, w ∈ wsX3_mayPass := fun w h => (List.mem_cons_of_mem _ (List.mem_append_right _ h))
set_option maxHeartbeats 4000000 in
set_option maxRecDepth 100000 in
theorem c_X3_mayPass (l : Launch) (G : uG) (a0 : Nat → Nat) (v0 : StV) {q : Int32 × (Unit)} (hf : f_X3_mayPass v0 = some q) : mQ l yX3_mayPass wsX3_mayPass ({ frames := 1, cells := 0, slots := 0, locals := 22 } : Room) G [.ref (a0 0)] [stW G a0 v0] [stW G a0 v0] (qI G [stW G a0 v0] q.1) := by
  unfold f_X3_mayPass at hf
  refine m_of (cc := cX3_mayPass) (maxL := 1) (ret := (some .boolean)) (by decide) rfl rfl (Nat.le_of_ble_eq_true rfl) ?_
  intro p e s m args below meth c A ls S hK hA hP hD hS hl
  obtain ⟨hx, hb, hml, hown, hts, hr, hlocks⟩ := id S
  have hl : lv_has ls 1 [(0, .ref (a0 0))] := hl
  refine lv_aload_n hx hb dX3_mayPass_0 rfl (lv_at hl 0 rfl) ?_
  refine g_get (C := RX3) (T := TX3) (N := 17) hx hb hts iwX3_mayPass_X3 hown hK hP 0 0 rfl rfl rfl 1 (Nat.le_of_ble_eq_true rfl) (hts _ kX3_mayPass_0) (fun _ h9 => h9) rfl dX3_mayPass_1 ?_
  refine lv_bipush (v := (99:Int32)) hx hb dX3_mayPass_4 (by decide) ?_
  refine lv_icmp_ge (tgt := 20) hx hb dX3_mayPass_6 (by decide) (fun c1 => ?_) (fun c1 => ?_)
  · rw [if_pos c1] at hf
    refine lv_iconst (v := (0:Int32)) hx hb dX3_mayPass_20 (by decide) ?_
    cases hf
    exact g_zret hx hb hr gz0 hlocks hP hS dX3_mayPass_21
  · rw [if_neg c1] at hf
    refine lv_aload_n hx hb dX3_mayPass_9 rfl (lv_at hl 0 rfl) ?_
    obtain ⟨q2, hq2, hf⟩ := bd_some hf
    refine g_callVi S (As := []) (gs' := [stW G a0 v0]) (c_X3_countInside l G a0 v0 hq2) (cwV 0 hts gX3_mayPass_X3_countInside rfl rfl rfl hd_X3_countInside ⟨Nat.le_of_ble_eq_true rfl, Nat.le_of_ble_eq_true rfl⟩) hK hP hD hS hA (is := [0]) rfl rfl 0 rfl rfl rfl rfl hl.1 rfl (Nat.le_of_ble_eq_true rfl) dX3_mayPass_10 ⟨Nat.le_of_ble_eq_true rfl, Nat.le_of_ble_eq_true rfl⟩ rfl (fun H locs hP hD hS => ?_)
    refine lv_if_le (tgt := 20) hx hb dX3_mayPass_13 (by decide) (fun c3 => ?_) (fun c3 => ?_)
    · rw [if_pos c3] at hf
      refine lv_iconst (v := (0:Int32)) hx hb dX3_mayPass_20 (by decide) ?_
      cases hf
      exact g_zret hx hb hr gz0 hlocks hP hS dX3_mayPass_21
    · rw [if_neg c3] at hf
      refine lv_iconst (v := (1:Int32)) hx hb dX3_mayPass_16 (by decide) ?_
      refine lv_goto (tgt := 21) hx hb dX3_mayPass_17 (by decide) ?_
      cases hf
      exact g_zret hx hb hr gz1 hlocks hP hS dX3_mayPass_21
theorem kX3_gainOfGoing_0 : Cond.fieldLink RX3 29 "SavingsCircle$State" "taken" "[Z" ∈ wsX3_gainOfGoing := (List.mem_cons_of_mem _ (List.mem_append_left _ (List.mem_of_getElem? (i := 0) rfl)))
theorem kX3_gainOfGoing_1 : Cond.fieldLink RX3 35 "SavingsCircle$State" "paidForItself" "[I" ∈ wsX3_gainOfGoing := (List.mem_cons_of_mem _ (List.mem_append_left _ (List.mem_of_getElem? (i := 2) rfl)))
theorem kX3_gainOfGoing_2 : Cond.fieldLink RX3 59 "SavingsCircle$State" "box" "I" ∈ wsX3_gainOfGoing := (List.mem_cons_of_mem _ (List.mem_append_left _ (List.mem_of_getElem? (i := 3) rfl)))
theorem kX3_gainOfGoing_3 : Cond.methodLink RX3 81 Lib.Math.min.name ∈ wsX3_gainOfGoing := (List.mem_cons_of_mem _ (List.mem_append_left _ (List.mem_of_getElem? (i := 4) rfl)))
theorem kX3_gainOfGoing_4 : Cond.static Lib.Math.min.name ∈ wsX3_gainOfGoing := (List.mem_cons_of_mem _ (List.mem_append_left _ (List.mem_of_getElem? (i := 5) rfl)))
theorem kX3_gainOfGoing_5 : Cond.initialized "java/lang/Math" ∈ wsX3_gainOfGoing := (List.mem_cons_of_mem _ (List.mem_append_left _ (List.mem_of_getElem? (i := 6) rfl)))
theorem kX3_gainOfGoing_6 : Cond.code Lib.Math.min.name Lib.Math.min.code 2 (some .int) ∈ wsX3_gainOfGoing := (List.mem_cons_of_mem _ (List.mem_append_left _ (List.mem_of_getElem? (i := 7) rfl)))
theorem kX3_gainOfGoing_7 : Cond.fieldLink RX3 9 "SavingsCircle$State" "contribution" "I" ∈ wsX3_gainOfGoing := (List.mem_cons_of_mem _ (List.mem_append_left _ (List.mem_of_getElem? (i := 1) rfl)))
theorem iwX3_gainOfGoing_X3 : ∀ w ∈ wsX30, w ∈ wsX3_gainOfGoing := fun w h => (List.mem_cons_of_mem _ (List.mem_append_right _ h))
set_option maxHeartbeats 4000000 in
set_option maxRecDepth 100000 in
theorem c_X3_gainOfGoing (l : Launch) (G : uG) (a0 : Nat → Nat) (v0 : StV) (i1 : Int32) {q : Int32 × (Unit)} (hf : f_X3_gainOfGoing v0 i1 = some q) : mQ l yX3_gainOfGoing wsX3_gainOfGoing ({ frames := 1, cells := 0, slots := 0, locals := 22 } : Room) G [.ref (a0 0), .int i1] [stW G a0 v0] [stW G a0 v0] (qI G [stW G a0 v0] q.1) := by
  unfold f_X3_gainOfGoing at hf
  refine m_of (cc := cX3_gainOfGoing) (maxL := 2) (ret := (some .int)) (by decide) rfl rfl (Nat.le_of_ble_eq_true rfl) ?_
  intro p e s m args below meth c A ls S hK hA hP hD hS hl
  obtain ⟨hx, hb, hml, hown, hts, hr, hlocks⟩ := id S
  have hl : lv_has ls 2 [(0, .ref (a0 0)), (1, .int i1)] := hl
  refine lv_aload_n hx hb dX3_gainOfGoing_0 rfl (lv_at hl 0 rfl) ?_
  refine g_get (C := RX3) (T := TX3) (N := 17) hx hb hts iwX3_gainOfGoing_X3 hown hK hP 0 0 rfl rfl rfl 9 (Nat.le_of_ble_eq_true rfl) (hts _ kX3_gainOfGoing_0) (fun _ h9 => h9) rfl dX3_gainOfGoing_1 ?_
  refine lv_iload_n hx hb dX3_gainOfGoing_4 rfl (lv_at hl 1 rfl) ?_
  obtain ⟨h1, hf⟩ := gi_some hf
  refine g_zald hx hb hK hP 0 5 1 rfl rfl rfl h1 dX3_gainOfGoing_5 ?_
  refine lv_if_eq (tgt := 20) hx hb dX3_gainOfGoing_6 (by decide) (fun c2 => ?_) (fun c2 => ?_)
  · rw [if_pos c2] at hf
    refine lv_aload_n hx hb dX3_gainOfGoing_20 rfl (lv_at hl 0 rfl) ?_
    refine g_get (C := RX3) (T := TX3) (N := 17) hx hb hts iwX3_gainOfGoing_X3 hown hK hP 0 0 rfl rfl rfl 11 (Nat.le_of_ble_eq_true rfl) (hts _ kX3_gainOfGoing_1) (fun _ h9 => h9) rfl dX3_gainOfGoing_21 ?_
    refine lv_iload_n hx hb dX3_gainOfGoing_24 rfl (lv_at hl 1 rfl) ?_
    obtain ⟨h3, hf⟩ := gi_some hf
    refine g_iald hx hb hK hP 0 7 0 rfl rfl rfl h3 dX3_gainOfGoing_25 ?_
    refine lv_iconst (v := (2:Int32)) hx hb dX3_gainOfGoing_26 (by decide) ?_
    obtain ⟨h4, hf⟩ := gz_some hf
    refine lv_idiv hx hb dX3_gainOfGoing_27 h4 ?_
    obtain ⟨x5, ex5, hf⟩ := lt_some hf
    refine lv_nmi ex5 ?_
    refine lv_aload_n hx hb dX3_gainOfGoing_28 rfl (lv_at hl 0 rfl) ?_
    refine g_get (C := RX3) (T := TX3) (N := 17) hx hb hts iwX3_gainOfGoing_X3 hown hK hP 0 0 rfl rfl rfl 3 (Nat.le_of_ble_eq_true rfl) (hts _ kX3_gainOfGoing_2) (fun _ h9 => h9) rfl dX3_gainOfGoing_29 ?_
    refine va_mmin hx hb (hml.trans hl.1.symm) hown (hts _ kX3_gainOfGoing_3) (hts _ kX3_gainOfGoing_4) (hts _ kX3_gainOfGoing_5) (hts _ kX3_gainOfGoing_6) (Nat.le_of_ble_eq_true rfl) (Nat.le_of_ble_eq_true rfl) (Nat.le_of_ble_eq_true rfl) (Nat.le_of_ble_eq_true rfl) dX3_gainOfGoing_32 ?_
    obtain ⟨x6, ex6, hf⟩ := lt_some hf
    refine lv_nmi ex6 ?_
    cases hf
    exact g_iret hx hb hr hlocks hP hS dX3_gainOfGoing_35
  · rw [if_neg c2] at hf
    refine lv_aload_n hx hb dX3_gainOfGoing_9 rfl (lv_at hl 0 rfl) ?_
    refine g_get (C := RX3) (T := TX3) (N := 17) hx hb hts iwX3_gainOfGoing_X3 hown hK hP 0 0 rfl rfl rfl 2 (Nat.le_of_ble_eq_true rfl) (hts _ kX3_gainOfGoing_7) (fun _ h9 => h9) rfl dX3_gainOfGoing_10 ?_
    refine lv_ineg hx hb dX3_gainOfGoing_13 ?_
    refine lv_aload_n hx hb dX3_gainOfGoing_14 rfl (lv_at hl 0 rfl) ?_
    obtain ⟨q7, hq7, hf⟩ := bd_some hf
    refine g_callVi S (As := []) (gs' := [stW G a0 v0]) (c_X3_countWaiting l G a0 v0 hq7) (cwV 0 hts gX3_gainOfGoing_X3_countWaiting rfl rfl rfl hd_X3_countWaiting ⟨Nat.le_of_ble_eq_true rfl, Nat.le_of_ble_eq_true rfl⟩) hK hP hD hS hA (is := [0]) rfl rfl 0 rfl rfl rfl rfl hl.1 rfl (Nat.le_of_ble_eq_true rfl) dX3_gainOfGoing_15 ⟨Nat.le_of_ble_eq_true rfl, Nat.le_of_ble_eq_true rfl⟩ rfl (fun H locs hP hD hS => ?_)
    refine lv_imul hx hb dX3_gainOfGoing_18 ?_
    cases hf
    exact g_iret hx hb hr hlocks hP hS dX3_gainOfGoing_19
theorem kX3_mayGo_0 : Cond.fieldLink RX3 32 "SavingsCircle$State" "inside" "[Z" ∈ wsX3_mayGo := (List.mem_cons_of_mem _ (List.mem_append_left _ (List.mem_of_getElem? (i := 0) rfl)))
theorem kX3_mayGo_1 : Cond.fieldLink RX3 15 "SavingsCircle$State" "purse" "[I" ∈ wsX3_mayGo := (List.mem_cons_of_mem _ (List.mem_append_left _ (List.mem_of_getElem? (i := 1) rfl)))
theorem iwX3_mayGo_X3 : ∀ w ∈ wsX30, w ∈ wsX3_mayGo := fun w h => (List.mem_cons_of_mem _ (List.mem_append_right _ h))
set_option maxHeartbeats 4000000 in
set_option maxRecDepth 100000 in
theorem c_X3_mayGo (l : Launch) (G : uG) (a0 : Nat → Nat) (v0 : StV) (i1 : Int32) {q : Int32 × (Unit)} (hf : f_X3_mayGo v0 i1 = some q) : mQ l yX3_mayGo wsX3_mayGo ({ frames := 2, cells := 0, slots := 0, locals := 43 } : Room) G [.ref (a0 0), .int i1] [stW G a0 v0] [stW G a0 v0] (qI G [stW G a0 v0] q.1) := by
  unfold f_X3_mayGo at hf
  refine m_of (cc := cX3_mayGo) (maxL := 2) (ret := (some .boolean)) (by decide) rfl rfl (Nat.le_of_ble_eq_true rfl) ?_
  intro p e s m args below meth c A ls S hK hA hP hD hS hl
  obtain ⟨hx, hb, hml, hown, hts, hr, hlocks⟩ := id S
  have hl : lv_has ls 2 [(0, .ref (a0 0)), (1, .int i1)] := hl
  refine lv_aload_n hx hb dX3_mayGo_0 rfl (lv_at hl 0 rfl) ?_
  refine g_get (C := RX3) (T := TX3) (N := 17) hx hb hts iwX3_mayGo_X3 hown hK hP 0 0 rfl rfl rfl 10 (Nat.le_of_ble_eq_true rfl) (hts _ kX3_mayGo_0) (fun _ h9 => h9) rfl dX3_mayGo_1 ?_
  refine lv_iload_n hx hb dX3_mayGo_4 rfl (lv_at hl 1 rfl) ?_
  obtain ⟨h1, hf⟩ := gi_some hf
  refine g_zald hx hb hK hP 0 6 1 rfl rfl rfl h1 dX3_mayGo_5 ?_
  refine lv_if_eq (tgt := 28) hx hb dX3_mayGo_6 (by decide) (fun c2 => ?_) (fun c2 => ?_)
  · rw [if_pos c2] at hf
    refine lv_iconst (v := (0:Int32)) hx hb dX3_mayGo_28 (by decide) ?_
    cases hf
    exact g_zret hx hb hr gz0 hlocks hP hS dX3_mayGo_29
  · rw [if_neg c2] at hf
    refine lv_aload_n hx hb dX3_mayGo_9 rfl (lv_at hl 0 rfl) ?_
    refine g_get (C := RX3) (T := TX3) (N := 17) hx hb hts iwX3_mayGo_X3 hown hK hP 0 0 rfl rfl rfl 5 (Nat.le_of_ble_eq_true rfl) (hts _ kX3_mayGo_1) (fun _ h9 => h9) rfl dX3_mayGo_10 ?_
    refine lv_iload_n hx hb dX3_mayGo_13 rfl (lv_at hl 1 rfl) ?_
    obtain ⟨h3, hf⟩ := gi_some hf
    refine g_iald hx hb hK hP 0 1 0 rfl rfl rfl h3 dX3_mayGo_14 ?_
    refine lv_aload_n hx hb dX3_mayGo_15 rfl (lv_at hl 0 rfl) ?_
    refine lv_iload_n hx hb dX3_mayGo_16 rfl (lv_at hl 1 rfl) ?_
    obtain ⟨q4, hq4, hf⟩ := bd_some hf
    refine g_callVi S (As := [.int i1]) (gs' := [stW G a0 v0]) (c_X3_gainOfGoing l G a0 v0 i1 hq4) (cwV 1 hts gX3_mayGo_X3_gainOfGoing rfl rfl rfl hd_X3_gainOfGoing ⟨Nat.le_of_ble_eq_true rfl, Nat.le_of_ble_eq_true rfl⟩) hK hP hD hS hA (is := [0]) rfl rfl 0 rfl rfl rfl rfl hl.1 rfl (Nat.le_of_ble_eq_true rfl) dX3_mayGo_17 ⟨Nat.le_of_ble_eq_true rfl, Nat.le_of_ble_eq_true rfl⟩ rfl (fun H locs hP hD hS => ?_)
    refine lv_iadd hx hb dX3_mayGo_20 ?_
    refine lv_if_lt (tgt := 28) hx hb dX3_mayGo_21 (by decide) (fun c5 => ?_) (fun c5 => ?_)
    · rw [if_pos c5] at hf
      refine lv_iconst (v := (0:Int32)) hx hb dX3_mayGo_28 (by decide) ?_
      cases hf
      exact g_zret hx hb hr gz0 hlocks hP hS dX3_mayGo_29
    · rw [if_neg c5] at hf
      refine lv_iconst (v := (1:Int32)) hx hb dX3_mayGo_24 (by decide) ?_
      refine lv_goto (tgt := 29) hx hb dX3_mayGo_25 (by decide) ?_
      cases hf
      exact g_zret hx hb hr gz1 hlocks hP hS dX3_mayGo_29
theorem kX3_go_0 : Cond.fieldLink RX3 15 "SavingsCircle$State" "purse" "[I" ∈ wsX3_go := (List.mem_cons_of_mem _ (List.mem_append_left _ (List.mem_of_getElem? (i := 0) rfl)))
theorem kX3_go_1 : Cond.fieldLink RX3 59 "SavingsCircle$State" "box" "I" ∈ wsX3_go := (List.mem_cons_of_mem _ (List.mem_append_left _ (List.mem_of_getElem? (i := 1) rfl)))
theorem kX3_go_2 : Cond.fieldLink RX3 32 "SavingsCircle$State" "inside" "[Z" ∈ wsX3_go := (List.mem_cons_of_mem _ (List.mem_append_left _ (List.mem_of_getElem? (i := 2) rfl)))
theorem iwX3_go_X3 : ∀ w ∈ wsX30, w ∈ wsX3_go := fun w h => (List.mem_cons_of_mem _ (List.mem_append_right _ h))
set_option maxHeartbeats 4000000 in
set_option maxRecDepth 100000 in
theorem c_X3_go (l : Launch) (G : uG) (a0 : Nat → Nat) (v0 : StV) (i1 : Int32) {q : Int32 × (StV)} (hf : f_X3_go v0 i1 = some q) : mQ l yX3_go wsX3_go ({ frames := 2, cells := 0, slots := 0, locals := 43 } : Room) G [.ref (a0 0), .int i1] [stW G a0 v0] [stW G a0 q.2] (qI G [stW G a0 q.2] q.1) := by
  unfold f_X3_go at hf
  refine m_of (cc := cX3_go) (maxL := 3) (ret := (some .int)) (by decide) rfl rfl (Nat.le_of_ble_eq_true rfl) ?_
  intro p e s m args below meth c A ls S hK hA hP hD hS hl
  obtain ⟨hx, hb, hml, hown, hts, hr, hlocks⟩ := id S
  have hl : lv_has ls 3 [(0, .ref (a0 0)), (1, .int i1)] := hl
  refine lv_aload_n hx hb dX3_go_0 rfl (lv_at hl 0 rfl) ?_
  refine lv_iload_n hx hb dX3_go_1 rfl (lv_at hl 1 rfl) ?_
  obtain ⟨q1, hq1, hf⟩ := bd_some hf
  refine g_callVi S (As := [.int i1]) (gs' := [stW G a0 v0]) (c_X3_gainOfGoing l G a0 v0 i1 hq1) (cwV 1 hts gX3_go_X3_gainOfGoing rfl rfl rfl hd_X3_gainOfGoing ⟨Nat.le_of_ble_eq_true rfl, Nat.le_of_ble_eq_true rfl⟩) hK hP hD hS hA (is := [0]) rfl rfl 0 rfl rfl rfl rfl hl.1 rfl (Nat.le_of_ble_eq_true rfl) dX3_go_2 ⟨Nat.le_of_ble_eq_true rfl, Nat.le_of_ble_eq_true rfl⟩ rfl (fun H locs hP hD hS => ?_)
  refine lv_istore_n (lv' := [(2, .int q1.1), (0, .ref (a0 0)), (1, .int i1)]) hx hb dX3_go_5 rfl hl (by decide) rfl (fun ls hl => ?_)
  refine lv_aload_n hx hb dX3_go_6 rfl (lv_at hl 1 rfl) ?_
  refine g_get (C := RX3) (T := TX3) (N := 17) hx hb hts iwX3_go_X3 hown hK hP 0 0 rfl rfl rfl 5 (Nat.le_of_ble_eq_true rfl) (hts _ kX3_go_0) (fun _ h9 => h9) rfl dX3_go_7 ?_
  refine lv_iload_n hx hb dX3_go_10 rfl (lv_at hl 2 rfl) ?_
  refine lv_dup2_11 hx hb dX3_go_11 rfl rfl ?_
  obtain ⟨h2, hf⟩ := gi_some hf
  refine g_iald hx hb hK hP 0 1 0 rfl rfl rfl h2 dX3_go_12 ?_
  refine lv_iload_n hx hb dX3_go_13 rfl (lv_at hl 0 rfl) ?_
  refine lv_iadd hx hb dX3_go_14 ?_
  obtain ⟨h3, hf⟩ := gi_some hf
  obtain ⟨u4, eu4, hf⟩ := lt_some hf
  refine g_iast (gs' := [stW G a0 u4]) hx hb hK hP hD hS 0 1 0 rfl rfl rfl h3 dX3_go_15 (by rw [eu4]; rfl) (fun H locs hP hD hS => ?_)
  refine lv_aload_n hx hb dX3_go_16 rfl (lv_at hl 1 rfl) ?_
  refine lv_dup hx hb dX3_go_17 rfl ?_
  refine g_get (C := RX3) (T := TX3) (N := 17) hx hb hts iwX3_go_X3 hown hK hP 0 0 rfl rfl rfl 3 (Nat.le_of_ble_eq_true rfl) (hts _ kX3_go_1) (fun _ h9 => h9) rfl dX3_go_18 ?_
  refine lv_iload_n hx hb dX3_go_21 rfl (lv_at hl 0 rfl) ?_
  refine lv_isub hx hb dX3_go_22 ?_
  obtain ⟨u5, eu5, hf⟩ := lt_some hf
  refine g_put (ty := .int) (C := RX3) (T := TX3) (N := 17) (gs' := [stW G a0 u5]) hx hb hts iwX3_go_X3 tyX3 tyX3_ok nmX3 hown hK hP hD hS 0 0 rfl rfl rfl 3 (Nat.le_of_ble_eq_true rfl) (hts _ kX3_go_1) (fun _ h9 => h9) rfl (by decide +kernel) rfl rfl (Nat.le_of_ble_eq_true rfl) dX3_go_23 (by rw [eu5]; rfl) (fun H locs hP hD hS => ?_)
  refine lv_aload_n hx hb dX3_go_26 rfl (lv_at hl 1 rfl) ?_
  refine g_get (C := RX3) (T := TX3) (N := 17) hx hb hts iwX3_go_X3 hown hK hP 0 0 rfl rfl rfl 10 (Nat.le_of_ble_eq_true rfl) (hts _ kX3_go_2) (fun _ h9 => h9) rfl dX3_go_27 ?_
  refine lv_iload_n hx hb dX3_go_30 rfl (lv_at hl 2 rfl) ?_
  refine lv_iconst (v := (0:Int32)) hx hb dX3_go_31 (by decide) ?_
  obtain ⟨h6, hf⟩ := gi_some hf
  obtain ⟨u7, eu7, hf⟩ := lt_some hf
  refine g_zast (gs' := [stW G a0 u7]) hx hb hK hP hD hS 0 6 1 rfl rfl rfl h6 dX3_go_32 (by rw [eu7]; rfl) (fun H locs hP hD hS => ?_)
  refine lv_iload_n hx hb dX3_go_33 rfl (lv_at hl 0 rfl) ?_
  cases hf
  exact g_iret hx hb hr hlocks hP hS dX3_go_34
theorem kX3_settle_0 : Cond.fieldLink RX3 50 "SavingsCircle$State" "debt" "[I" ∈ wsX3_settle := (List.mem_cons_of_mem _ (List.mem_append_left _ (List.mem_of_getElem? (i := 0) rfl)))
theorem kX3_settle_1 : Cond.methodLink RX3 81 Lib.Math.min.name ∈ wsX3_settle := (List.mem_cons_of_mem _ (List.mem_append_left _ (List.mem_of_getElem? (i := 1) rfl)))
theorem kX3_settle_2 : Cond.static Lib.Math.min.name ∈ wsX3_settle := (List.mem_cons_of_mem _ (List.mem_append_left _ (List.mem_of_getElem? (i := 2) rfl)))
theorem kX3_settle_3 : Cond.initialized "java/lang/Math" ∈ wsX3_settle := (List.mem_cons_of_mem _ (List.mem_append_left _ (List.mem_of_getElem? (i := 3) rfl)))
theorem kX3_settle_4 : Cond.code Lib.Math.min.name Lib.Math.min.code 2 (some .int) ∈ wsX3_settle := (List.mem_cons_of_mem _ (List.mem_append_left _ (List.mem_of_getElem? (i := 4) rfl)))
theorem kX3_settle_5 : Cond.fieldLink RX3 15 "SavingsCircle$State" "purse" "[I" ∈ wsX3_settle := (List.mem_cons_of_mem _ (List.mem_append_left _ (List.mem_of_getElem? (i := 5) rfl)))
theorem iwX3_settle_X3 : ∀ w ∈ wsX30, w ∈ wsX3_settle := fun w h => (List.mem_cons_of_mem _ (List.mem_append_right _ h))
set_option maxHeartbeats 4000000 in
set_option maxRecDepth 100000 in
theorem c_X3_settle (l : Launch) (G : uG) (a0 : Nat → Nat) (v0 : StV) (i1 : Int32) (i2 : Int32) (i3 : Int32) {q : Int32 × (StV)} (hf : f_X3_settle v0 i1 i2 i3 = some q) : mQ l yX3_settle wsX3_settle ({ frames := 1, cells := 0, slots := 0, locals := 21 } : Room) G [.ref (a0 0), .int i1, .int i2, .int i3] [stW G a0 v0] [stW G a0 q.2] (qI G [stW G a0 q.2] q.1) := by
  unfold f_X3_settle at hf
  refine m_of (cc := cX3_settle) (maxL := 6) (ret := (some .int)) (by decide) rfl rfl (Nat.le_of_ble_eq_true rfl) ?_
  intro p e s m args below meth c A ls S hK hA hP hD hS hl
  obtain ⟨hx, hb, hml, hown, hts, hr, hlocks⟩ := id S
  have hl : lv_has ls 6 [(0, .ref (a0 0)), (1, .int i1), (2, .int i2), (3, .int i3)] := hl
  refine lv_iload_n hx hb dX3_settle_0 rfl (lv_at hl 1 rfl) ?_
  refine lv_iload_n hx hb dX3_settle_1 rfl (lv_at hl 2 rfl) ?_
  obtain ⟨q1, hq1, hf⟩ := bd_some hf
  refine g_callSi S (As := [.int i1, .int i2]) (gs' := [stW G a0 v0]) (c_X3_pair l G i1 i2 hq1) (va_cwS 2 hts gX3_settle_X3_pair rfl rfl rfl hd_X3_pair.2 ⟨Nat.le_of_ble_eq_true rfl, Nat.le_of_ble_eq_true rfl⟩) hK hP hD hS hA (is := []) rfl rfl rfl hl.1 rfl (Nat.le_of_ble_eq_true rfl) dX3_settle_2 ⟨Nat.le_of_ble_eq_true rfl, Nat.le_of_ble_eq_true rfl⟩ rfl (fun H locs hP hD hS => ?_)
  refine lv_istore (lv' := [(4, .int q1.1), (0, .ref (a0 0)), (1, .int i1), (2, .int i2), (3, .int i3)]) hx hb dX3_settle_5 hl (by decide) rfl (fun ls hl => ?_)
  refine lv_aload_n hx hb dX3_settle_7 rfl (lv_at hl 1 rfl) ?_
  refine g_get (C := RX3) (T := TX3) (N := 17) hx hb hts iwX3_settle_X3 hown hK hP 0 0 rfl rfl rfl 16 (Nat.le_of_ble_eq_true rfl) (hts _ kX3_settle_0) (fun _ h9 => h9) rfl dX3_settle_8 ?_
  refine lv_iload hx hb dX3_settle_11 (lv_at hl 0 rfl) ?_
  obtain ⟨h2, hf⟩ := gi_some hf
  refine g_iald hx hb hK hP 0 12 0 rfl rfl rfl h2 dX3_settle_13 ?_
  refine lv_iload_n hx hb dX3_settle_14 rfl (lv_at hl 4 rfl) ?_
  refine va_mmin hx hb (hml.trans hl.1.symm) hown (hts _ kX3_settle_1) (hts _ kX3_settle_2) (hts _ kX3_settle_3) (hts _ kX3_settle_4) (Nat.le_of_ble_eq_true rfl) (Nat.le_of_ble_eq_true rfl) (Nat.le_of_ble_eq_true rfl) (Nat.le_of_ble_eq_true rfl) dX3_settle_15 ?_
  obtain ⟨x3, ex3, hf⟩ := lt_some hf
  refine lv_nmi ex3 ?_
  refine lv_istore (lv' := [(5, .int x3), (4, .int q1.1), (0, .ref (a0 0)), (1, .int i1), (2, .int i2), (3, .int i3)]) hx hb dX3_settle_18 hl (by decide) rfl (fun ls hl => ?_)
  refine lv_aload_n hx hb dX3_settle_20 rfl (lv_at hl 2 rfl) ?_
  refine g_get (C := RX3) (T := TX3) (N := 17) hx hb hts iwX3_settle_X3 hown hK hP 0 0 rfl rfl rfl 16 (Nat.le_of_ble_eq_true rfl) (hts _ kX3_settle_0) (fun _ h9 => h9) rfl dX3_settle_21 ?_
  refine lv_iload hx hb dX3_settle_24 (lv_at hl 1 rfl) ?_
  refine lv_dup2_11 hx hb dX3_settle_26 rfl rfl ?_
  obtain ⟨h4, hf⟩ := gi_some hf
  refine g_iald hx hb hK hP 0 12 0 rfl rfl rfl h4 dX3_settle_27 ?_
  refine lv_iload hx hb dX3_settle_28 (lv_at hl 0 rfl) ?_
  refine lv_isub hx hb dX3_settle_30 ?_
  obtain ⟨h5, hf⟩ := gi_some hf
  obtain ⟨u6, eu6, hf⟩ := lt_some hf
  refine g_iast (gs' := [stW G a0 u6]) hx hb hK hP hD hS 0 12 0 rfl rfl rfl h5 dX3_settle_31 (by rw [eu6]; rfl) (fun H locs hP hD hS => ?_)
  refine lv_aload_n hx hb dX3_settle_32 rfl (lv_at hl 2 rfl) ?_
  refine g_get (C := RX3) (T := TX3) (N := 17) hx hb hts iwX3_settle_X3 hown hK hP 0 0 rfl rfl rfl 5 (Nat.le_of_ble_eq_true rfl) (hts _ kX3_settle_5) (fun _ h9 => h9) rfl dX3_settle_33 ?_
  refine lv_iload_n hx hb dX3_settle_36 rfl (lv_at hl 4 rfl) ?_
  refine lv_dup2_11 hx hb dX3_settle_37 rfl rfl ?_
  obtain ⟨h7, hf⟩ := gi_some hf
  refine g_iald hx hb hK hP 0 1 0 rfl rfl rfl h7 dX3_settle_38 ?_
  refine lv_iload hx hb dX3_settle_39 (lv_at hl 0 rfl) ?_
  refine lv_iadd hx hb dX3_settle_41 ?_
  obtain ⟨h8, hf⟩ := gi_some hf
  obtain ⟨u9, eu9, hf⟩ := lt_some hf
  refine g_iast (gs' := [stW G a0 u9]) hx hb hK hP hD hS 0 1 0 rfl rfl rfl h8 dX3_settle_42 (by rw [eu9]; rfl) (fun H locs hP hD hS => ?_)
  refine lv_iload hx hb dX3_settle_43 (lv_at hl 0 rfl) ?_
  cases hf
  exact g_iret hx hb hr hlocks hP hS dX3_settle_45
