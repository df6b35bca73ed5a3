theorem hd_X6_bidOf : yX6_bidOf.cls = RX6 ∧ yX6_bidOf.cls ≠ "java/lang/invoke/MethodHandle" ∧ yX6_bidOf.cls ≠ "java/lang/invoke/VarHandle" ∧ (parseMethodDescriptor yX6_bidOf.desc).map (fun d => d.parameters.length) = some 2 := by decide +kernel
theorem hd_X6_canGo : yX6_canGo.cls = RX6 ∧ yX6_canGo.cls ≠ "java/lang/invoke/MethodHandle" ∧ yX6_canGo.cls ≠ "java/lang/invoke/VarHandle" ∧ (parseMethodDescriptor yX6_canGo.desc).map (fun d => d.parameters.length) = some 0 := by decide +kernel
theorem hd_X6_goMonth : yX6_goMonth.cls = RX6 ∧ yX6_goMonth.cls ≠ "java/lang/invoke/MethodHandle" ∧ yX6_goMonth.cls ≠ "java/lang/invoke/VarHandle" ∧ (parseMethodDescriptor yX6_goMonth.desc).map (fun d => d.parameters.length) = some 0 := by decide +kernel
theorem hd_X6_in : yX6_in.cls = RX6 ∧ yX6_in.cls ≠ "java/lang/invoke/MethodHandle" ∧ yX6_in.cls ≠ "java/lang/invoke/VarHandle" ∧ (parseMethodDescriptor yX6_in.desc).map (fun d => d.parameters.length) = some 3 := by decide +kernel
theorem hd_X6_insideMany : yX6_insideMany.cls = RX6 ∧ yX6_insideMany.cls ≠ "java/lang/invoke/MethodHandle" ∧ yX6_insideMany.cls ≠ "java/lang/invoke/VarHandle" ∧ (parseMethodDescriptor yX6_insideMany.desc).map (fun d => d.parameters.length) = some 0 := by decide +kernel
theorem hd_X6_pay : yX6_pay.cls = RX6 ∧ yX6_pay.cls ≠ "java/lang/invoke/MethodHandle" ∧ yX6_pay.cls ≠ "java/lang/invoke/VarHandle" ∧ (parseMethodDescriptor yX6_pay.desc).map (fun d => d.parameters.length) = some 0 := by decide +kernel
theorem hd_X6_payForOthers : yX6_payForOthers.cls = RX6 ∧ yX6_payForOthers.cls ≠ "java/lang/invoke/MethodHandle" ∧ yX6_payForOthers.cls ≠ "java/lang/invoke/VarHandle" ∧ (parseMethodDescriptor yX6_payForOthers.desc).map (fun d => d.parameters.length) = some 0 := by decide +kernel
theorem hd_X6_remember : yX6_remember.cls = RX6 ∧ yX6_remember.cls ≠ "java/lang/invoke/MethodHandle" ∧ yX6_remember.cls ≠ "java/lang/invoke/VarHandle" ∧ (parseMethodDescriptor yX6_remember.desc).map (fun d => d.parameters.length) = some 0 := by decide +kernel
theorem hd_X6_share : yX6_share.cls = RX6 ∧ yX6_share.cls ≠ "java/lang/invoke/MethodHandle" ∧ yX6_share.cls ≠ "java/lang/invoke/VarHandle" ∧ (parseMethodDescriptor yX6_share.desc).map (fun d => d.parameters.length) = some 2 := by decide +kernel
theorem hd_X6_takeRest : yX6_takeRest.cls = RX6 ∧ yX6_takeRest.cls ≠ "java/lang/invoke/MethodHandle" ∧ yX6_takeRest.cls ≠ "java/lang/invoke/VarHandle" ∧ (parseMethodDescriptor yX6_takeRest.desc).map (fun d => d.parameters.length) = some 2 := by decide +kernel
theorem hd_X6_taker : yX6_taker.cls = RX6 ∧ yX6_taker.cls ≠ "java/lang/invoke/MethodHandle" ∧ yX6_taker.cls ≠ "java/lang/invoke/VarHandle" ∧ (parseMethodDescriptor yX6_taker.desc).map (fun d => d.parameters.length) = some 1 := by decide +kernel
theorem hd_X6_takesPart : yX6_takesPart.cls = RX6 ∧ yX6_takesPart.cls ≠ "java/lang/invoke/MethodHandle" ∧ yX6_takesPart.cls ≠ "java/lang/invoke/VarHandle" ∧ (parseMethodDescriptor yX6_takesPart.desc).map (fun d => d.parameters.length) = some 1 := by decide +kernel
theorem kX6_undo_0 : Cond.fieldLink RX6 42 "SavingsCircleModel" "pastMany" "I" ∈ wsX6_undo := (List.mem_cons_of_mem _ (List.mem_append_left _ (List.mem_of_getElem? (i := 0) rfl)))
theorem kX6_undo_1 : Cond.fieldLink RX6 38 "SavingsCircleModel" "thrown" "I" ∈ wsX6_undo := (List.mem_cons_of_mem _ (List.mem_append_left _ (List.mem_of_getElem? (i := 1) rfl)))
theorem kX6_undo_2 : Cond.fieldLink RX6 7 "SavingsCircleModel" "z" "[I" ∈ wsX6_undo := (List.mem_cons_of_mem _ (List.mem_append_left _ (List.mem_of_getElem? (i := 2) rfl)))
theorem kX6_undo_3 : Cond.fieldLink RX6 13 "SavingsCircleModel" "past" "[I" ∈ wsX6_undo := (List.mem_cons_of_mem _ (List.mem_append_left _ (List.mem_of_getElem? (i := 3) rfl)))
theorem iwX6_undo_X6 : ∀ w ∈ wsX60, w ∈ wsX6_undo := fun w h => (List.mem_cons_of_mem _ (List.mem_append_right _ h))
set_option maxHeartbeats 4000000 in
set_option maxRecDepth 100000 in
theorem w_X6_undo_37 {p : Program} {l : Launch} {e : Env} {s : State} {m : MethodId} {args : Array Value} {below : List Frame} {meth : Method} {c : Code} {A : Nat → Prop} {Q : State → Prop} (S : Ev p s m args meth c cX6_undo 2 (some .int) yX6_undo.cls wsX6_undo) {G : uG} (hK : kK G s) (hA : ∀ q, s.heap.size ≤ q → A q) (_ : uG) (a0 : Nat → Nat) : ∀ (n : Nat) (z : (Int32 × MdV)) (e1 : (Int32 × MdV)), lp (b_X6_undo_37) n z = some e1 → ∀ (H : Heap) (locs : List Loc) (ls : Array Slot), gP G [mdW G a0 z.2] H → gD A [mdW G a0 z.2] → va_S A s.heap H locs → lv_has ls 2 [(0, .ref (a0 0)), (1, .int z.1)] → (∀ (H : Heap) (locs : List Loc) (ls : Array Slot), gP G [mdW G a0 e1.2] H → gD A [mdW G a0 e1.2] → va_S A s.heap H locs → lv_has ls 2 [(0, .ref (a0 0)), (1, .int e1.1)] → W p l e ({ frames := 0, cells := 0, slots := 0, locals := 0 } : Room) s m args below meth c H locs 0 0 Q (F0 m 71 ls [])) → W p l e ({ frames := 0, cells := 0, slots := 0, locals := 0 } : Room) s m args below meth c H locs 0 0 Q (F0 m 37 ls []) := by
  obtain ⟨hx, hb, hml, hown, hts, hr, hlocks⟩ := id S
  intro n
  induction n with
  | zero => intro z e1 h; cases h
  | succ n ih =>
    intro z e1 hlp H locs ls hP hD hS hl K
    obtain ⟨z9, hf, hz⟩ := lp_s hlp
    unfold b_X6_undo_37 at hf
    refine lv_iload_n hx hb dX6_undo_37 rfl (lv_at hl 1 rfl) ?_
    refine lv_sipush (v := (157:Int32)) hx hb dX6_undo_38 (by decide) ?_
    refine lv_icmp_ge (tgt := 71) hx hb dX6_undo_41 (by decide) (fun c5 => ?_) (fun c5 => ?_)
    · rw [if_pos c5] at hf
      have he := lz_r hf hz
      subst he
      exact K H locs ls hP hD hS (lv_sub hl [0, 1] rfl)
    · rw [if_neg c5] at hf
      refine lv_aload_n hx hb dX6_undo_44 rfl (lv_at hl 0 rfl) ?_
      refine g_get (C := RX6) (T := TX6) (N := 15) hx hb hts iwX6_undo_X6 hown hK hP 0 0 rfl rfl rfl 1 (Nat.le_of_ble_eq_true rfl) (hts _ kX6_undo_2) (fun _ h9 => h9) rfl dX6_undo_45 ?_
      refine lv_iload_n hx hb dX6_undo_48 rfl (lv_at hl 1 rfl) ?_
      refine lv_aload_n hx hb dX6_undo_49 rfl (lv_at hl 0 rfl) ?_
      refine g_get (C := RX6) (T := TX6) (N := 15) hx hb hts iwX6_undo_X6 hown hK hP 0 0 rfl rfl rfl 2 (Nat.le_of_ble_eq_true rfl) (hts _ kX6_undo_3) (fun _ h9 => h9) rfl dX6_undo_50 ?_
      refine lv_aload_n hx hb dX6_undo_53 rfl (lv_at hl 0 rfl) ?_
      refine g_get (C := RX6) (T := TX6) (N := 15) hx hb hts iwX6_undo_X6 hown hK hP 0 0 rfl rfl rfl 3 (Nat.le_of_ble_eq_true rfl) (hts _ kX6_undo_0) (fun _ h9 => h9) rfl dX6_undo_54 ?_
      refine lv_sipush (v := (157:Int32)) hx hb dX6_undo_57 (by decide) ?_
      refine lv_imul hx hb dX6_undo_60 ?_
      refine lv_iload_n hx hb dX6_undo_61 rfl (lv_at hl 1 rfl) ?_
      refine lv_iadd hx hb dX6_undo_62 ?_
      obtain ⟨h6, hf⟩ := gi_some hf
      refine g_iald hx hb hK hP 0 2 0 rfl rfl rfl h6 dX6_undo_63 ?_
      obtain ⟨x7, ex7, hf⟩ := lt_some hf
      refine lv_nmi ex7 ?_
      obtain ⟨h8, hf⟩ := gi_some hf
      obtain ⟨u9, eu9, hf⟩ := lt_some hf
      refine g_iast (gs' := [mdW G a0 u9]) hx hb hK hP hD hS 0 1 0 rfl rfl rfl h8 dX6_undo_64 (by rw [eu9]; rfl) (fun H locs hP hD hS => ?_)
      obtain ⟨x10, ex10, hf⟩ := lt_some hf
      refine lv_iinc (v := x10) (lv' := [(1, .int x10), (0, .ref (a0 0))]) hx hb dX6_undo_65 hl (k := 1) rfl (by rw [ex10]; rfl) (by decide) rfl (fun ls hl => ?_)
      refine lv_goto (tgt := 37) hx hb dX6_undo_68 (by decide) ?_
      exact ih _ e1 (lz_l hf hz) H locs ls hP hD hS (lv_sub hl [1, 0] rfl) K
set_option maxHeartbeats 4000000 in
set_option maxRecDepth 100000 in
theorem c_X6_undo (l : Launch) (G : uG) (a0 : Nat → Nat) (v0 : MdV) {q : Int32 × (MdV)} (hf : f_X6_undo v0 = some q) : mQ l yX6_undo wsX6_undo ({ frames := 0, cells := 0, slots := 0, locals := 0 } : Room) G [.ref (a0 0)] [mdW G a0 v0] [mdW G a0 q.2] (qI G [mdW G a0 q.2] q.1) := by
  unfold f_X6_undo at hf
  refine m_of (cc := cX6_undo) (maxL := 2) (ret := (some .int)) (by decide) rfl rfl (Nat.le_of_ble_eq_true rfl) ?_
  intro p e s m args below meth c A ls S hK hA hP hD hS hl
  obtain ⟨hx, hb, hml, hown, hts, hr, hlocks⟩ := id S
  have hl : lv_has ls 2 [(0, .ref (a0 0))] := hl
  refine lv_aload_n hx hb dX6_undo_0 rfl (lv_at hl 0 rfl) ?_
  refine lv_aload_n hx hb dX6_undo_1 rfl (lv_at hl 0 rfl) ?_
  refine g_get (C := RX6) (T := TX6) (N := 15) hx hb hts iwX6_undo_X6 hown hK hP 0 0 rfl rfl rfl 3 (Nat.le_of_ble_eq_true rfl) (hts _ kX6_undo_0) (fun _ h9 => h9) rfl dX6_undo_2 ?_
  refine lv_if_ne (tgt := 12) hx hb dX6_undo_5 (by decide) (fun c1 => ?_) (fun c1 => ?_)
  · rw [if_neg c1] at hf
    refine lv_iconst (v := (0:Int32)) hx hb dX6_undo_12 (by decide) ?_
    obtain ⟨u2, eu2, hf⟩ := lt_some hf
    refine g_put (ty := .int) (C := RX6) (T := TX6) (N := 15) (gs' := [mdW G a0 u2]) hx hb hts iwX6_undo_X6 tyX6 tyX6_ok nmX6 hown hK hP hD hS 0 0 rfl rfl rfl 0 (Nat.le_of_ble_eq_true rfl) (hts _ kX6_undo_1) (fun _ h9 => h9) rfl (by decide +kernel) rfl rfl (Nat.le_of_ble_eq_true rfl) dX6_undo_13 (by rw [eu2]; rfl) (fun H locs hP hD hS => ?_)
    refine lv_aload_n hx hb dX6_undo_16 rfl (lv_at hl 0 rfl) ?_
    refine g_get (C := RX6) (T := TX6) (N := 15) hx hb hts iwX6_undo_X6 hown hK hP 0 0 rfl rfl rfl 0 (Nat.le_of_ble_eq_true rfl) (hts _ kX6_undo_1) (fun _ h9 => h9) rfl dX6_undo_17 ?_
    refine lv_if_le (tgt := 25) hx hb dX6_undo_20 (by decide) (fun c3 => ?_) (fun c3 => ?_)
    · rw [if_pos c3] at hf
      refine lv_aload_n hx hb dX6_undo_25 rfl (lv_at hl 0 rfl) ?_
      refine lv_dup hx hb dX6_undo_26 rfl ?_
      refine g_get (C := RX6) (T := TX6) (N := 15) hx hb hts iwX6_undo_X6 hown hK hP 0 0 rfl rfl rfl 3 (Nat.le_of_ble_eq_true rfl) (hts _ kX6_undo_0) (fun _ h9 => h9) rfl dX6_undo_27 ?_
      refine lv_iconst (v := (1:Int32)) hx hb dX6_undo_30 (by decide) ?_
      refine lv_isub hx hb dX6_undo_31 ?_
      obtain ⟨u4, eu4, hf⟩ := lt_some hf
      refine g_put (ty := .int) (C := RX6) (T := TX6) (N := 15) (gs' := [mdW G a0 u4]) hx hb hts iwX6_undo_X6 tyX6 tyX6_ok nmX6 hown hK hP hD hS 0 0 rfl rfl rfl 3 (Nat.le_of_ble_eq_true rfl) (hts _ kX6_undo_0) (fun _ h9 => h9) rfl (by decide +kernel) rfl rfl (Nat.le_of_ble_eq_true rfl) dX6_undo_32 (by rw [eu4]; rfl) (fun H locs hP hD hS => ?_)
      refine lv_iconst (v := (0:Int32)) hx hb dX6_undo_35 (by decide) ?_
      refine lv_istore_n (lv' := [(1, .int (0:Int32)), (0, .ref (a0 0))]) hx hb dX6_undo_36 rfl hl (by decide) rfl (fun ls hl => ?_)
      obtain ⟨e11, he11, hf⟩ := bd_some hf
      refine w_X6_undo_37 (Q := _) S hK hA G a0 FU _ e11 he11 _ _ _ hP hD hS (lv_sub hl [1, 0] rfl) (fun H locs ls hP hD hS hl => ?_)
      refine lv_aload_n hx hb dX6_undo_71 rfl (lv_at hl 0 rfl) ?_
      refine g_get (C := RX6) (T := TX6) (N := 15) hx hb hts iwX6_undo_X6 hown hK hP 0 0 rfl rfl rfl 3 (Nat.le_of_ble_eq_true rfl) (hts _ kX6_undo_0) (fun _ h9 => h9) rfl dX6_undo_72 ?_
      cases hf
      exact g_iret hx hb hr hlocks hP hS dX6_undo_75
    · rw [if_neg c3] at hf
      refine lv_iconst (v := (0:Int32)) hx hb dX6_undo_23 (by decide) ?_
      cases hf
      exact g_iret hx hb hr hlocks hP hS dX6_undo_24
  · rw [if_pos c1] at hf
    refine lv_iconst (v := (1:Int32)) hx hb dX6_undo_8 (by decide) ?_
    refine lv_goto (tgt := 13) hx hb dX6_undo_9 (by decide) ?_
    obtain ⟨u12, eu12, hf⟩ := lt_some hf
    refine g_put (ty := .int) (C := RX6) (T := TX6) (N := 15) (gs' := [mdW G a0 u12]) hx hb hts iwX6_undo_X6 tyX6 tyX6_ok nmX6 hown hK hP hD hS 0 0 rfl rfl rfl 0 (Nat.le_of_ble_eq_true rfl) (hts _ kX6_undo_1) (fun _ h9 => h9) rfl (by decide +kernel) rfl rfl (Nat.le_of_ble_eq_true rfl) dX6_undo_13 (by rw [eu12]; rfl) (fun H locs hP hD hS => ?_)
    refine lv_aload_n hx hb dX6_undo_16 rfl (lv_at hl 0 rfl) ?_
    refine g_get (C := RX6) (T := TX6) (N := 15) hx hb hts iwX6_undo_X6 hown hK hP 0 0 rfl rfl rfl 0 (Nat.le_of_ble_eq_true rfl) (hts _ kX6_undo_1) (fun _ h9 => h9) rfl dX6_undo_17 ?_
    refine lv_if_le (tgt := 25) hx hb dX6_undo_20 (by decide) (fun c13 => ?_) (fun c13 => ?_)
    · rw [if_pos c13] at hf
      refine lv_aload_n hx hb dX6_undo_25 rfl (lv_at hl 0 rfl) ?_
      refine lv_dup hx hb dX6_undo_26 rfl ?_
      refine g_get (C := RX6) (T := TX6) (N := 15) hx hb hts iwX6_undo_X6 hown hK hP 0 0 rfl rfl rfl 3 (Nat.le_of_ble_eq_true rfl) (hts _ kX6_undo_0) (fun _ h9 => h9) rfl dX6_undo_27 ?_
      refine lv_iconst (v := (1:Int32)) hx hb dX6_undo_30 (by decide) ?_
      refine lv_isub hx hb dX6_undo_31 ?_
      obtain ⟨u14, eu14, hf⟩ := lt_some hf
      refine g_put (ty := .int) (C := RX6) (T := TX6) (N := 15) (gs' := [mdW G a0 u14]) hx hb hts iwX6_undo_X6 tyX6 tyX6_ok nmX6 hown hK hP hD hS 0 0 rfl rfl rfl 3 (Nat.le_of_ble_eq_true rfl) (hts _ kX6_undo_0) (fun _ h9 => h9) rfl (by decide +kernel) rfl rfl (Nat.le_of_ble_eq_true rfl) dX6_undo_32 (by rw [eu14]; rfl) (fun H locs hP hD hS => ?_)
      refine lv_iconst (v := (0:Int32)) hx hb dX6_undo_35 (by decide) ?_
      refine lv_istore_n (lv' := [(1, .int (0:Int32)), (0, .ref (a0 0))]) hx hb dX6_undo_36 rfl hl (by decide) rfl (fun ls hl => ?_)
      obtain ⟨e15, he15, hf⟩ := bd_some hf
      refine w_X6_undo_37 (Q := _) S hK hA G a0 FU _ e15 he15 _ _ _ hP hD hS (lv_sub hl [1, 0] rfl) (fun H locs ls hP hD hS hl => ?_)
      refine lv_aload_n hx hb dX6_undo_71 rfl (lv_at hl 0 rfl) ?_
      refine g_get (C := RX6) (T := TX6) (N := 15) hx hb hts iwX6_undo_X6 hown hK hP 0 0 rfl rfl rfl 3 (Nat.le_of_ble_eq_true rfl) (hts _ kX6_undo_0) (fun _ h9 => h9) rfl dX6_undo_72 ?_
      cases hf
      exact g_iret hx hb hr hlocks hP hS dX6_undo_75
    · rw [if_neg c13] at hf
      refine lv_iconst (v := (0:Int32)) hx hb dX6_undo_23 (by decide) ?_
      cases hf
      exact g_iret hx hb hr hlocks hP hS dX6_undo_24
set_option maxHeartbeats 4000000 in
set_option maxRecDepth 100000 in
theorem c_X6_in (l : Launch) (G : uG) (i0 : Int32) (i1 : Int32) (i2 : Int32) {q : Int32 × (Unit)} (hf : f_X6_in i0 i1 i2 = some q) : mQ l yX6_in wsX6_in ({ frames := 0, cells := 0, slots := 0, locals := 0 } : Room) G [.int i0, .int i1, .int i2] [] [] (qI G [] q.1) := by
  unfold f_X6_in at hf
  refine m_of (cc := cX6_in) (maxL := 3) (ret := (some .boolean)) (by decide) rfl rfl (Nat.le_of_ble_eq_true rfl) ?_
  intro p e s m args below meth c A ls S hK hA hP hD hS hl
  obtain ⟨hx, hb, hml, hown, hts, hr, hlocks⟩ := id S
  have hl : lv_has ls 3 [(0, .int i0), (1, .int i1), (2, .int i2)] := hl
  refine lv_iload_n hx hb dX6_in_0 rfl (lv_at hl 0 rfl) ?_
  refine lv_iload_n hx hb dX6_in_1 rfl (lv_at hl 1 rfl) ?_
  refine lv_icmp_lt (tgt := 14) hx hb dX6_in_2 (by decide) (fun c1 => ?_) (fun c1 => ?_)
  · rw [if_pos c1] at hf
    refine lv_iconst (v := (0:Int32)) hx hb dX6_in_14 (by decide) ?_
    cases hf
    exact g_zret hx hb hr gz0 hlocks hP hS dX6_in_15
  · rw [if_neg c1] at hf
    refine lv_iload_n hx hb dX6_in_5 rfl (lv_at hl 0 rfl) ?_
    refine lv_iload_n hx hb dX6_in_6 rfl (lv_at hl 2 rfl) ?_
    refine lv_icmp_gt (tgt := 14) hx hb dX6_in_7 (by decide) (fun c2 => ?_) (fun c2 => ?_)
    · rw [if_pos c2] at hf
      refine lv_iconst (v := (0:Int32)) hx hb dX6_in_14 (by decide) ?_
      cases hf
      exact g_zret hx hb hr gz0 hlocks hP hS dX6_in_15
    · rw [if_neg c2] at hf
      refine lv_iconst (v := (1:Int32)) hx hb dX6_in_10 (by decide) ?_
      refine lv_goto (tgt := 15) hx hb dX6_in_11 (by decide) ?_
      cases hf
      exact g_zret hx hb hr gz1 hlocks hP hS dX6_in_15
theorem kX6_save_0 : Cond.fieldLink RX6 38 "SavingsCircleModel" "thrown" "I" ∈ wsX6_save := (List.mem_cons_of_mem _ (List.mem_append_left _ (List.mem_of_getElem? (i := 0) rfl)))
theorem kX6_save_1 : Cond.fieldLink RX6 19 "SavingsCircleModel" "isSaved" "[Z" ∈ wsX6_save := (List.mem_cons_of_mem _ (List.mem_append_left _ (List.mem_of_getElem? (i := 1) rfl)))
theorem kX6_save_2 : Cond.fieldLink RX6 16 "SavingsCircleModel" "slots" "[I" ∈ wsX6_save := (List.mem_cons_of_mem _ (List.mem_append_left _ (List.mem_of_getElem? (i := 2) rfl)))
theorem kX6_save_3 : Cond.fieldLink RX6 7 "SavingsCircleModel" "z" "[I" ∈ wsX6_save := (List.mem_cons_of_mem _ (List.mem_append_left _ (List.mem_of_getElem? (i := 3) rfl)))
theorem iwX6_save_X6 : ∀ w ∈ wsX60, w ∈ wsX6_save := fun w h => (List.mem_cons_of_mem _ (List.mem_append_right _ h))
set_option maxHeartbeats 4000000 in
set_option maxRecDepth 100000 in
theorem w_X6_save_36 {p : Program} {l : Launch} {e : Env} {s : State} {m : MethodId} {args : Array Value} {below : List Frame} {meth : Method} {c : Code} {A : Nat → Prop} {Q : State → Prop} (S : Ev p s m args meth c cX6_save 3 (some .int) yX6_save.cls wsX6_save) {G : uG} (hK : kK G s) (hA : ∀ q, s.heap.size ≤ q → A q) (_ : uG) (a0 : Nat → Nat) (p1 : Int32) : ∀ (n : Nat) (z : (Int32 × MdV)) (e1 : (Int32 × MdV)), lp (b_X6_save_36 p1) n z = some e1 → ∀ (H : Heap) (locs : List Loc) (ls : Array Slot), gP G [mdW G a0 z.2] H → gD A [mdW G a0 z.2] → va_S A s.heap H locs → lv_has ls 3 [(0, .ref (a0 0)), (1, .int p1), (2, .int z.1)] → (∀ (H : Heap) (locs : List Loc) (ls : Array Slot), gP G [mdW G a0 e1.2] H → gD A [mdW G a0 e1.2] → va_S A s.heap H locs → lv_has ls 3 [(0, .ref (a0 0)), (1, .int p1), (2, .int e1.1)] → W p l e ({ frames := 1, cells := 0, slots := 0, locals := 22 } : Room) s m args below meth c H locs 0 0 Q (F0 m 67 ls [])) → W p l e ({ frames := 1, cells := 0, slots := 0, locals := 22 } : Room) s m args below meth c H locs 0 0 Q (F0 m 36 ls []) := by
  obtain ⟨hx, hb, hml, hown, hts, hr, hlocks⟩ := id S
  intro n
  induction n with
  | zero => intro z e1 h; cases h
  | succ n ih =>
    intro z e1 hlp H locs ls hP hD hS hl K
    obtain ⟨z9, hf, hz⟩ := lp_s hlp
    unfold b_X6_save_36 at hf
    refine lv_iload_n hx hb dX6_save_36 rfl (lv_at hl 2 rfl) ?_
    refine lv_sipush (v := (157:Int32)) hx hb dX6_save_37 (by decide) ?_
    refine lv_icmp_ge (tgt := 67) hx hb dX6_save_40 (by decide) (fun c7 => ?_) (fun c7 => ?_)
    · rw [if_pos c7] at hf
      have he := lz_r hf hz
      subst he
      exact K H locs ls hP hD hS (lv_sub hl [0, 1, 2] rfl)
    · rw [if_neg c7] at hf
      refine lv_aload_n hx hb dX6_save_43 rfl (lv_at hl 0 rfl) ?_
      refine g_get (C := RX6) (T := TX6) (N := 15) hx hb hts iwX6_save_X6 hown hK hP 0 0 rfl rfl rfl 4 (Nat.le_of_ble_eq_true rfl) (hts _ kX6_save_2) (fun _ h9 => h9) rfl dX6_save_44 ?_
      refine lv_iload_n hx hb dX6_save_47 rfl (lv_at hl 1 rfl) ?_
      refine lv_sipush (v := (157:Int32)) hx hb dX6_save_48 (by decide) ?_
      refine lv_imul hx hb dX6_save_51 ?_
      refine lv_iload_n hx hb dX6_save_52 rfl (lv_at hl 2 rfl) ?_
      refine lv_iadd hx hb dX6_save_53 ?_
      refine lv_aload_n hx hb dX6_save_54 rfl (lv_at hl 0 rfl) ?_
      refine g_get (C := RX6) (T := TX6) (N := 15) hx hb hts iwX6_save_X6 hown hK hP 0 0 rfl rfl rfl 1 (Nat.le_of_ble_eq_true rfl) (hts _ kX6_save_3) (fun _ h9 => h9) rfl dX6_save_55 ?_
      refine lv_iload_n hx hb dX6_save_58 rfl (lv_at hl 2 rfl) ?_
      obtain ⟨h8, hf⟩ := gi_some hf
      refine g_iald hx hb hK hP 0 1 0 rfl rfl rfl h8 dX6_save_59 ?_
      obtain ⟨h9, hf⟩ := gi_some hf
      obtain ⟨u10, eu10, hf⟩ := lt_some hf
      refine g_iast (gs' := [mdW G a0 u10]) hx hb hK hP hD hS 0 3 0 rfl rfl rfl h9 dX6_save_60 (by rw [eu10]; rfl) (fun H locs hP hD hS => ?_)
      obtain ⟨x11, ex11, hf⟩ := lt_some hf
      refine lv_iinc (v := x11) (lv' := [(2, .int x11), (0, .ref (a0 0)), (1, .int p1)]) hx hb dX6_save_61 hl (k := 2) rfl (by rw [ex11]; rfl) (by decide) rfl (fun ls hl => ?_)
      refine lv_goto (tgt := 36) hx hb dX6_save_64 (by decide) ?_
      exact ih _ e1 (lz_l hf hz) H locs ls hP hD hS (lv_sub hl [1, 2, 0] rfl) K
set_option maxHeartbeats 4000000 in
set_option maxRecDepth 100000 in
theorem c_X6_save (l : Launch) (G : uG) (a0 : Nat → Nat) (v0 : MdV) (i1 : Int32) {q : Int32 × (MdV)} (hf : f_X6_save v0 i1 = some q) : mQ l yX6_save wsX6_save ({ frames := 1, cells := 0, slots := 0, locals := 22 } : Room) G [.ref (a0 0), .int i1] [mdW G a0 v0] [mdW G a0 q.2] (qI G [mdW G a0 q.2] q.1) := by
  unfold f_X6_save at hf
  refine m_of (cc := cX6_save) (maxL := 3) (ret := (some .int)) (by decide) rfl rfl (Nat.le_of_ble_eq_true rfl) ?_
  intro p e s m args below meth c A ls S hK hA hP hD hS hl
  obtain ⟨hx, hb, hml, hown, hts, hr, hlocks⟩ := id S
  have hl : lv_has ls 3 [(0, .ref (a0 0)), (1, .int i1)] := hl
  refine lv_aload_n hx hb dX6_save_0 rfl (lv_at hl 0 rfl) ?_
  refine lv_iload_n hx hb dX6_save_1 rfl (lv_at hl 1 rfl) ?_
  refine lv_iconst (v := (0:Int32)) hx hb dX6_save_2 (by decide) ?_
  refine lv_iconst (v := (1:Int32)) hx hb dX6_save_3 (by decide) ?_
  obtain ⟨q1, hq1, hf⟩ := bd_some hf
  refine g_callSi S (As := [.int i1, .int (0:Int32), .int (1:Int32)]) (gs' := [mdW G a0 v0]) (c_X6_in l G i1 (0:Int32) (1:Int32) hq1) (va_cwS 3 hts gX6_save_X6_in rfl rfl rfl hd_X6_in.2 ⟨Nat.le_of_ble_eq_true rfl, Nat.le_of_ble_eq_true rfl⟩) hK hP hD hS hA (is := []) rfl rfl rfl hl.1 rfl (Nat.le_of_ble_eq_true rfl) dX6_save_4 ⟨Nat.le_of_ble_eq_true rfl, Nat.le_of_ble_eq_true rfl⟩ rfl (fun H locs hP hD hS => ?_)
  refine lv_if_eq (tgt := 14) hx hb dX6_save_7 (by decide) (fun c2 => ?_) (fun c2 => ?_)
  · rw [if_pos c2] at hf
    refine lv_iconst (v := (1:Int32)) hx hb dX6_save_14 (by decide) ?_
    obtain ⟨u3, eu3, hf⟩ := lt_some hf
    refine g_put (ty := .int) (C := RX6) (T := TX6) (N := 15) (gs' := [mdW G a0 u3]) hx hb hts iwX6_save_X6 tyX6 tyX6_ok nmX6 hown hK hP hD hS 0 0 rfl rfl rfl 0 (Nat.le_of_ble_eq_true rfl) (hts _ kX6_save_0) (fun _ h9 => h9) rfl (by decide +kernel) rfl rfl (Nat.le_of_ble_eq_true rfl) dX6_save_15 (by rw [eu3]; rfl) (fun H locs hP hD hS => ?_)
    refine lv_aload_n hx hb dX6_save_18 rfl (lv_at hl 0 rfl) ?_
    refine g_get (C := RX6) (T := TX6) (N := 15) hx hb hts iwX6_save_X6 hown hK hP 0 0 rfl rfl rfl 0 (Nat.le_of_ble_eq_true rfl) (hts _ kX6_save_0) (fun _ h9 => h9) rfl dX6_save_19 ?_
    refine lv_if_le (tgt := 27) hx hb dX6_save_22 (by decide) (fun c4 => ?_) (fun c4 => ?_)
    · rw [if_pos c4] at hf
      refine lv_aload_n hx hb dX6_save_27 rfl (lv_at hl 0 rfl) ?_
      refine g_get (C := RX6) (T := TX6) (N := 15) hx hb hts iwX6_save_X6 hown hK hP 0 0 rfl rfl rfl 5 (Nat.le_of_ble_eq_true rfl) (hts _ kX6_save_1) (fun _ h9 => h9) rfl dX6_save_28 ?_
      refine lv_iload_n hx hb dX6_save_31 rfl (lv_at hl 1 rfl) ?_
      refine lv_iconst (v := (1:Int32)) hx hb dX6_save_32 (by decide) ?_
      obtain ⟨h5, hf⟩ := gi_some hf
      obtain ⟨u6, eu6, hf⟩ := lt_some hf
      refine g_zast (gs' := [mdW G a0 u6]) hx hb hK hP hD hS 0 4 1 rfl rfl rfl h5 dX6_save_33 (by rw [eu6]; rfl) (fun H locs hP hD hS => ?_)
      refine lv_iconst (v := (0:Int32)) hx hb dX6_save_34 (by decide) ?_
      refine lv_istore_n (lv' := [(2, .int (0:Int32)), (0, .ref (a0 0)), (1, .int i1)]) hx hb dX6_save_35 rfl hl (by decide) rfl (fun ls hl => ?_)
      obtain ⟨e12, he12, hf⟩ := bd_some hf
      refine w_X6_save_36 (Q := _) S hK hA G a0 i1 FU _ e12 he12 _ _ _ hP hD hS (lv_sub hl [1, 2, 0] rfl) (fun H locs ls hP hD hS hl => ?_)
      refine lv_aload_n hx hb dX6_save_67 rfl (lv_at hl 0 rfl) ?_
      refine g_get (C := RX6) (T := TX6) (N := 15) hx hb hts iwX6_save_X6 hown hK hP 0 0 rfl rfl rfl 1 (Nat.le_of_ble_eq_true rfl) (hts _ kX6_save_3) (fun _ h9 => h9) rfl dX6_save_68 ?_
      refine lv_iconst (v := (2:Int32)) hx hb dX6_save_71 (by decide) ?_
      obtain ⟨h13, hf⟩ := gi_some hf
      refine g_iald hx hb hK hP 0 1 0 rfl rfl rfl h13 dX6_save_72 ?_
      cases hf
      exact g_iret hx hb hr hlocks hP hS dX6_save_73
    · rw [if_neg c4] at hf
      refine lv_iconst (v := (0:Int32)) hx hb dX6_save_25 (by decide) ?_
      cases hf
      exact g_iret hx hb hr hlocks hP hS dX6_save_26
  · rw [if_neg c2] at hf
    refine lv_iconst (v := (0:Int32)) hx hb dX6_save_10 (by decide) ?_
    refine lv_goto (tgt := 15) hx hb dX6_save_11 (by decide) ?_
    obtain ⟨u14, eu14, hf⟩ := lt_some hf
    refine g_put (ty := .int) (C := RX6) (T := TX6) (N := 15) (gs' := [mdW G a0 u14]) hx hb hts iwX6_save_X6 tyX6 tyX6_ok nmX6 hown hK hP hD hS 0 0 rfl rfl rfl 0 (Nat.le_of_ble_eq_true rfl) (hts _ kX6_save_0) (fun _ h9 => h9) rfl (by decide +kernel) rfl rfl (Nat.le_of_ble_eq_true rfl) dX6_save_15 (by rw [eu14]; rfl) (fun H locs hP hD hS => ?_)
    refine lv_aload_n hx hb dX6_save_18 rfl (lv_at hl 0 rfl) ?_
    refine g_get (C := RX6) (T := TX6) (N := 15) hx hb hts iwX6_save_X6 hown hK hP 0 0 rfl rfl rfl 0 (Nat.le_of_ble_eq_true rfl) (hts _ kX6_save_0) (fun _ h9 => h9) rfl dX6_save_19 ?_
    refine lv_if_le (tgt := 27) hx hb dX6_save_22 (by decide) (fun c15 => ?_) (fun c15 => ?_)
    · rw [if_pos c15] at hf
      refine lv_aload_n hx hb dX6_save_27 rfl (lv_at hl 0 rfl) ?_
      refine g_get (C := RX6) (T := TX6) (N := 15) hx hb hts iwX6_save_X6 hown hK hP 0 0 rfl rfl rfl 5 (Nat.le_of_ble_eq_true rfl) (hts _ kX6_save_1) (fun _ h9 => h9) rfl dX6_save_28 ?_
      refine lv_iload_n hx hb dX6_save_31 rfl (lv_at hl 1 rfl) ?_
      refine lv_iconst (v := (1:Int32)) hx hb dX6_save_32 (by decide) ?_
      obtain ⟨h16, hf⟩ := gi_some hf
      obtain ⟨u17, eu17, hf⟩ := lt_some hf
      refine g_zast (gs' := [mdW G a0 u17]) hx hb hK hP hD hS 0 4 1 rfl rfl rfl h16 dX6_save_33 (by rw [eu17]; rfl) (fun H locs hP hD hS => ?_)
      refine lv_iconst (v := (0:Int32)) hx hb dX6_save_34 (by decide) ?_
      refine lv_istore_n (lv' := [(2, .int (0:Int32)), (0, .ref (a0 0)), (1, .int i1)]) hx hb dX6_save_35 rfl hl (by decide) rfl (fun ls hl => ?_)
      obtain ⟨e18, he18, hf⟩ := bd_some hf
      refine w_X6_save_36 (Q := _) S hK hA G a0 i1 FU _ e18 he18 _ _ _ hP hD hS (lv_sub hl [1, 2, 0] rfl) (fun H locs ls hP hD hS hl => ?_)
      refine lv_aload_n hx hb dX6_save_67 rfl (lv_at hl 0 rfl) ?_
      refine g_get (C := RX6) (T := TX6) (N := 15) hx hb hts iwX6_save_X6 hown hK hP 0 0 rfl rfl rfl 1 (Nat.le_of_ble_eq_true rfl) (hts _ kX6_save_3) (fun _ h9 => h9) rfl dX6_save_68 ?_
      refine lv_iconst (v := (2:Int32)) hx hb dX6_save_71 (by decide) ?_
      obtain ⟨h19, hf⟩ := gi_some hf
      refine g_iald hx hb hK hP 0 1 0 rfl rfl rfl h19 dX6_save_72 ?_
      cases hf
      exact g_iret hx hb hr hlocks hP hS dX6_save_73
    · rw [if_neg c15] at hf
      refine lv_iconst (v := (0:Int32)) hx hb dX6_save_25 (by decide) ?_
      cases hf
      exact g_iret hx hb hr hlocks hP hS dX6_save_26
theorem kX6_restore_0 : Cond.fieldLink RX6 19 "SavingsCircleModel" "isSaved" "[Z" ∈ wsX6_restore := (List.mem_cons_of_mem _ (List.mem_append_left _ (List.mem_of_getElem? (i := 0) rfl)))
theorem kX6_restore_1 : Cond.fieldLink RX6 38 "SavingsCircleModel" "thrown" "I" ∈ wsX6_restore := (List.mem_cons_of_mem _ (List.mem_append_left _ (List.mem_of_getElem? (i := 1) rfl)))
theorem kX6_restore_2 : Cond.fieldLink RX6 7 "SavingsCircleModel" "z" "[I" ∈ wsX6_restore := (List.mem_cons_of_mem _ (List.mem_append_left _ (List.mem_of_getElem? (i := 2) rfl)))
theorem kX6_restore_3 : Cond.fieldLink RX6 16 "SavingsCircleModel" "slots" "[I" ∈ wsX6_restore := (List.mem_cons_of_mem _ (List.mem_append_left _ (List.mem_of_getElem? (i := 3) rfl)))
theorem kX6_restore_4 : Cond.fieldLink RX6 42 "SavingsCircleModel" "pastMany" "I" ∈ wsX6_restore := (List.mem_cons_of_mem _ (List.mem_append_left _ (List.mem_of_getElem? (i := 4) rfl)))
theorem iwX6_restore_X6 : ∀ w ∈ wsX60, w ∈ wsX6_restore := fun w h => (List.mem_cons_of_mem _ (List.mem_append_right _ h))
set_option maxHeartbeats 4000000 in
set_option maxRecDepth 100000 in
theorem w_X6_restore_42 {p : Program} {l : Launch} {e : Env} {s : State} {m : MethodId} {args : Array Value} {below : List Frame} {meth : Method} {c : Code} {A : Nat → Prop} {Q : State → Prop} (S : Ev p s m args meth c cX6_restore 3 (some .int) yX6_restore.cls wsX6_restore) {G : uG} (hK : kK G s) (hA : ∀ q, s.heap.size ≤ q → A q) (_ : uG) (a0 : Nat → Nat) (p1 : Int32) : ∀ (n : Nat) (z : (Int32 × MdV)) (e1 : (Int32 × MdV)), lp (b_X6_restore_42 p1) n z = some e1 → ∀ (H : Heap) (locs : List Loc) (ls : Array Slot), gP G [mdW G a0 z.2] H → gD A [mdW G a0 z.2] → va_S A s.heap H locs → lv_has ls 3 [(0, .ref (a0 0)), (1, .int p1), (2, .int z.1)] → (∀ (H : Heap) (locs : List Loc) (ls : Array Slot), gP G [mdW G a0 e1.2] H → gD A [mdW G a0 e1.2] → va_S A s.heap H locs → lv_has ls 3 [(0, .ref (a0 0)), (1, .int p1), (2, .int e1.1)] → W p l e ({ frames := 1, cells := 0, slots := 0, locals := 22 } : Room) s m args below meth c H locs 0 0 Q (F0 m 73 ls [])) → W p l e ({ frames := 1, cells := 0, slots := 0, locals := 22 } : Room) s m args below meth c H locs 0 0 Q (F0 m 42 ls []) := by
  obtain ⟨hx, hb, hml, hown, hts, hr, hlocks⟩ := id S
  intro n
  induction n with
  | zero => intro z e1 h; cases h
  | succ n ih =>
    intro z e1 hlp H locs ls hP hD hS hl K
    obtain ⟨z9, hf, hz⟩ := lp_s hlp
    unfold b_X6_restore_42 at hf
    refine lv_iload_n hx hb dX6_restore_42 rfl (lv_at hl 2 rfl) ?_
    refine lv_sipush (v := (157:Int32)) hx hb dX6_restore_43 (by decide) ?_
    refine lv_icmp_ge (tgt := 73) hx hb dX6_restore_46 (by decide) (fun c7 => ?_) (fun c7 => ?_)
    · rw [if_pos c7] at hf
      have he := lz_r hf hz
      subst he
      exact K H locs ls hP hD hS (lv_sub hl [0, 1, 2] rfl)
    · rw [if_neg c7] at hf
      refine lv_aload_n hx hb dX6_restore_49 rfl (lv_at hl 0 rfl) ?_
      refine g_get (C := RX6) (T := TX6) (N := 15) hx hb hts iwX6_restore_X6 hown hK hP 0 0 rfl rfl rfl 1 (Nat.le_of_ble_eq_true rfl) (hts _ kX6_restore_2) (fun _ h9 => h9) rfl dX6_restore_50 ?_
      refine lv_iload_n hx hb dX6_restore_53 rfl (lv_at hl 2 rfl) ?_
      refine lv_aload_n hx hb dX6_restore_54 rfl (lv_at hl 0 rfl) ?_
      refine g_get (C := RX6) (T := TX6) (N := 15) hx hb hts iwX6_restore_X6 hown hK hP 0 0 rfl rfl rfl 4 (Nat.le_of_ble_eq_true rfl) (hts _ kX6_restore_3) (fun _ h9 => h9) rfl dX6_restore_55 ?_
      refine lv_iload_n hx hb dX6_restore_58 rfl (lv_at hl 1 rfl) ?_
      refine lv_sipush (v := (157:Int32)) hx hb dX6_restore_59 (by decide) ?_
      refine lv_imul hx hb dX6_restore_62 ?_
      refine lv_iload_n hx hb dX6_restore_63 rfl (lv_at hl 2 rfl) ?_
      refine lv_iadd hx hb dX6_restore_64 ?_
      obtain ⟨h8, hf⟩ := gi_some hf
      refine g_iald hx hb hK hP 0 3 0 rfl rfl rfl h8 dX6_restore_65 ?_
      obtain ⟨x9, ex9, hf⟩ := lt_some hf
      refine lv_nmi ex9 ?_
      obtain ⟨h10, hf⟩ := gi_some hf
      obtain ⟨u11, eu11, hf⟩ := lt_some hf
      refine g_iast (gs' := [mdW G a0 u11]) hx hb hK hP hD hS 0 1 0 rfl rfl rfl h10 dX6_restore_66 (by rw [eu11]; rfl) (fun H locs hP hD hS => ?_)
      obtain ⟨x12, ex12, hf⟩ := lt_some hf
      refine lv_iinc (v := x12) (lv' := [(2, .int x12), (0, .ref (a0 0)), (1, .int p1)]) hx hb dX6_restore_67 hl (k := 2) rfl (by rw [ex12]; rfl) (by decide) rfl (fun ls hl => ?_)
      refine lv_goto (tgt := 42) hx hb dX6_restore_70 (by decide) ?_
      exact ih _ e1 (lz_l hf hz) H locs ls hP hD hS (lv_sub hl [1, 2, 0] rfl) K
set_option maxHeartbeats 4000000 in
set_option maxRecDepth 100000 in
theorem c_X6_restore (l : Launch) (G : uG) (a0 : Nat → Nat) (v0 : MdV) (i1 : Int32) {q : Int32 × (MdV)} (hf : f_X6_restore v0 i1 = some q) : mQ l yX6_restore wsX6_restore ({ frames := 1, cells := 0, slots := 0, locals := 22 } : Room) G [.ref (a0 0), .int i1] [mdW G a0 v0] [mdW G a0 q.2] (qI G [mdW G a0 q.2] q.1) := by
  unfold f_X6_restore at hf
  refine m_of (cc := cX6_restore) (maxL := 3) (ret := (some .int)) (by decide) rfl rfl (Nat.le_of_ble_eq_true rfl) ?_
  intro p e s m args below meth c A ls S hK hA hP hD hS hl
  obtain ⟨hx, hb, hml, hown, hts, hr, hlocks⟩ := id S
  have hl : lv_has ls 3 [(0, .ref (a0 0)), (1, .int i1)] := hl
  refine lv_aload_n hx hb dX6_restore_0 rfl (lv_at hl 0 rfl) ?_
  refine lv_iload_n hx hb dX6_restore_1 rfl (lv_at hl 1 rfl) ?_
  refine lv_iconst (v := (0:Int32)) hx hb dX6_restore_2 (by decide) ?_
  refine lv_iconst (v := (1:Int32)) hx hb dX6_restore_3 (by decide) ?_
  obtain ⟨q1, hq1, hf⟩ := bd_some hf
  refine g_callSi S (As := [.int i1, .int (0:Int32), .int (1:Int32)]) (gs' := [mdW G a0 v0]) (c_X6_in l G i1 (0:Int32) (1:Int32) hq1) (va_cwS 3 hts gX6_restore_X6_in rfl rfl rfl hd_X6_in.2 ⟨Nat.le_of_ble_eq_true rfl, Nat.le_of_ble_eq_true rfl⟩) hK hP hD hS hA (is := []) rfl rfl rfl hl.1 rfl (Nat.le_of_ble_eq_true rfl) dX6_restore_4 ⟨Nat.le_of_ble_eq_true rfl, Nat.le_of_ble_eq_true rfl⟩ rfl (fun H locs hP hD hS => ?_)
  refine lv_if_ne (tgt := 14) hx hb dX6_restore_7 (by decide) (fun c2 => ?_) (fun c2 => ?_)
  · rw [if_neg c2] at hf
    refine lv_aload_n hx hb dX6_restore_14 rfl (lv_at hl 0 rfl) ?_
    refine g_get (C := RX6) (T := TX6) (N := 15) hx hb hts iwX6_restore_X6 hown hK hP 0 0 rfl rfl rfl 5 (Nat.le_of_ble_eq_true rfl) (hts _ kX6_restore_0) (fun _ h9 => h9) rfl dX6_restore_15 ?_
    refine lv_iload_n hx hb dX6_restore_18 rfl (lv_at hl 1 rfl) ?_
    obtain ⟨h3, hf⟩ := gi_some hf
    refine g_zald hx hb hK hP 0 4 1 rfl rfl rfl h3 dX6_restore_19 ?_
    refine lv_if_eq (tgt := 27) hx hb dX6_restore_20 (by decide) (fun c4 => ?_) (fun c4 => ?_)
    · rw [if_pos c4] at hf
      refine lv_iconst (v := (2:Int32)) hx hb dX6_restore_27 (by decide) ?_
      obtain ⟨u5, eu5, hf⟩ := lt_some hf
      refine g_put (ty := .int) (C := RX6) (T := TX6) (N := 15) (gs' := [mdW G a0 u5]) hx hb hts iwX6_restore_X6 tyX6 tyX6_ok nmX6 hown hK hP hD hS 0 0 rfl rfl rfl 0 (Nat.le_of_ble_eq_true rfl) (hts _ kX6_restore_1) (fun _ h9 => h9) rfl (by decide +kernel) rfl rfl (Nat.le_of_ble_eq_true rfl) dX6_restore_28 (by rw [eu5]; rfl) (fun H locs hP hD hS => ?_)
      refine lv_aload_n hx hb dX6_restore_31 rfl (lv_at hl 0 rfl) ?_
      refine g_get (C := RX6) (T := TX6) (N := 15) hx hb hts iwX6_restore_X6 hown hK hP 0 0 rfl rfl rfl 0 (Nat.le_of_ble_eq_true rfl) (hts _ kX6_restore_1) (fun _ h9 => h9) rfl dX6_restore_32 ?_
      refine lv_if_le (tgt := 40) hx hb dX6_restore_35 (by decide) (fun c6 => ?_) (fun c6 => ?_)
      · rw [if_pos c6] at hf
        refine lv_iconst (v := (0:Int32)) hx hb dX6_restore_40 (by decide) ?_
        refine lv_istore_n (lv' := [(2, .int (0:Int32)), (0, .ref (a0 0)), (1, .int i1)]) hx hb dX6_restore_41 rfl hl (by decide) rfl (fun ls hl => ?_)
        obtain ⟨e13, he13, hf⟩ := bd_some hf
        refine w_X6_restore_42 (Q := _) S hK hA G a0 i1 FU _ e13 he13 _ _ _ hP hD hS (lv_sub hl [1, 2, 0] rfl) (fun H locs ls hP hD hS hl => ?_)
        refine lv_aload_n hx hb dX6_restore_73 rfl (lv_at hl 0 rfl) ?_
        refine lv_iconst (v := (0:Int32)) hx hb dX6_restore_74 (by decide) ?_
        obtain ⟨u14, eu14, hf⟩ := lt_some hf
        refine g_put (ty := .int) (C := RX6) (T := TX6) (N := 15) (gs' := [mdW G a0 u14]) hx hb hts iwX6_restore_X6 tyX6 tyX6_ok nmX6 hown hK hP hD hS 0 0 rfl rfl rfl 3 (Nat.le_of_ble_eq_true rfl) (hts _ kX6_restore_4) (fun _ h9 => h9) rfl (by decide +kernel) rfl rfl (Nat.le_of_ble_eq_true rfl) dX6_restore_75 (by rw [eu14]; rfl) (fun H locs hP hD hS => ?_)
        refine lv_aload_n hx hb dX6_restore_78 rfl (lv_at hl 0 rfl) ?_
        refine g_get (C := RX6) (T := TX6) (N := 15) hx hb hts iwX6_restore_X6 hown hK hP 0 0 rfl rfl rfl 1 (Nat.le_of_ble_eq_true rfl) (hts _ kX6_restore_2) (fun _ h9 => h9) rfl dX6_restore_79 ?_
        refine lv_iconst (v := (2:Int32)) hx hb dX6_restore_82 (by decide) ?_
        obtain ⟨h15, hf⟩ := gi_some hf
        refine g_iald hx hb hK hP 0 1 0 rfl rfl rfl h15 dX6_restore_83 ?_
        cases hf
        exact g_iret hx hb hr hlocks hP hS dX6_restore_84
      · rw [if_neg c6] at hf
        refine lv_iconst (v := (0:Int32)) hx hb dX6_restore_38 (by decide) ?_
        cases hf
        exact g_iret hx hb hr hlocks hP hS dX6_restore_39
    · rw [if_neg c4] at hf
      refine lv_iconst (v := (0:Int32)) hx hb dX6_restore_23 (by decide) ?_
      refine lv_goto (tgt := 28) hx hb dX6_restore_24 (by decide) ?_
      obtain ⟨u16, eu16, hf⟩ := lt_some hf
      refine g_put (ty := .int) (C := RX6) (T := TX6) (N := 15) (gs' := [mdW G a0 u16]) hx hb hts iwX6_restore_X6 tyX6 tyX6_ok nmX6 hown hK hP hD hS 0 0 rfl rfl rfl 0 (Nat.le_of_ble_eq_true rfl) (hts _ kX6_restore_1) (fun _ h9 => h9) rfl (by decide +kernel) rfl rfl (Nat.le_of_ble_eq_true rfl) dX6_restore_28 (by rw [eu16]; rfl) (fun H locs hP hD hS => ?_)
      refine lv_aload_n hx hb dX6_restore_31 rfl (lv_at hl 0 rfl) ?_
      refine g_get (C := RX6) (T := TX6) (N := 15) hx hb hts iwX6_restore_X6 hown hK hP 0 0 rfl rfl rfl 0 (Nat.le_of_ble_eq_true rfl) (hts _ kX6_restore_1) (fun _ h9 => h9) rfl dX6_restore_32 ?_
      refine lv_if_le (tgt := 40) hx hb dX6_restore_35 (by decide) (fun c17 => ?_) (fun c17 => ?_)
      · rw [if_pos c17] at hf
        refine lv_iconst (v := (0:Int32)) hx hb dX6_restore_40 (by decide) ?_
        refine lv_istore_n (lv' := [(2, .int (0:Int32)), (0, .ref (a0 0)), (1, .int i1)]) hx hb dX6_restore_41 rfl hl (by decide) rfl (fun ls hl => ?_)
        obtain ⟨e18, he18, hf⟩ := bd_some hf
        refine w_X6_restore_42 (Q := _) S hK hA G a0 i1 FU _ e18 he18 _ _ _ hP hD hS (lv_sub hl [1, 2, 0] rfl) (fun H locs ls hP hD hS hl => ?_)
        refine lv_aload_n hx hb dX6_restore_73 rfl (lv_at hl 0 rfl) ?_
        refine lv_iconst (v := (0:Int32)) hx hb dX6_restore_74 (by decide) ?_
        obtain ⟨u19, eu19, hf⟩ := lt_some hf
        refine g_put (ty := .int) (C := RX6) (T := TX6) (N := 15) (gs' := [mdW G a0 u19]) hx hb hts iwX6_restore_X6 tyX6 tyX6_ok nmX6 hown hK hP hD hS 0 0 rfl rfl rfl 3 (Nat.le_of_ble_eq_true rfl) (hts _ kX6_restore_4) (fun _ h9 => h9) rfl (by decide +kernel) rfl rfl (Nat.le_of_ble_eq_true rfl) dX6_restore_75 (by rw [eu19]; rfl) (fun H locs hP hD hS => ?_)
        refine lv_aload_n hx hb dX6_restore_78 rfl (lv_at hl 0 rfl) ?_
        refine g_get (C := RX6) (T := TX6) (N := 15) hx hb hts iwX6_restore_X6 hown hK hP 0 0 rfl rfl rfl 1 (Nat.le_of_ble_eq_true rfl) (hts _ kX6_restore_2) (fun _ h9 => h9) rfl dX6_restore_79 ?_
        refine lv_iconst (v := (2:Int32)) hx hb dX6_restore_82 (by decide) ?_
        obtain ⟨h20, hf⟩ := gi_some hf
        refine g_iald hx hb hK hP 0 1 0 rfl rfl rfl h20 dX6_restore_83 ?_
        cases hf
        exact g_iret hx hb hr hlocks hP hS dX6_restore_84
      · rw [if_neg c17] at hf
        refine lv_iconst (v := (0:Int32)) hx hb dX6_restore_38 (by decide) ?_
        cases hf
        exact g_iret hx hb hr hlocks hP hS dX6_restore_39
  · rw [if_pos c2] at hf
    refine lv_iconst (v := (1:Int32)) hx hb dX6_restore_10 (by decide) ?_
    refine lv_goto (tgt := 28) hx hb dX6_restore_11 (by decide) ?_
    obtain ⟨u21, eu21, hf⟩ := lt_some hf
    refine g_put (ty := .int) (C := RX6) (T := TX6) (N := 15) (gs' := [mdW G a0 u21]) hx hb hts iwX6_restore_X6 tyX6 tyX6_ok nmX6 hown hK hP hD hS 0 0 rfl rfl rfl 0 (Nat.le_of_ble_eq_true rfl) (hts _ kX6_restore_1) (fun _ h9 => h9) rfl (by decide +kernel) rfl rfl (Nat.le_of_ble_eq_true rfl) dX6_restore_28 (by rw [eu21]; rfl) (fun H locs hP hD hS => ?_)
    refine lv_aload_n hx hb dX6_restore_31 rfl (lv_at hl 0 rfl) ?_
    refine g_get (C := RX6) (T := TX6) (N := 15) hx hb hts iwX6_restore_X6 hown hK hP 0 0 rfl rfl rfl 0 (Nat.le_of_ble_eq_true rfl) (hts _ kX6_restore_1) (fun _ h9 => h9) rfl dX6_restore_32 ?_
    refine lv_if_le (tgt := 40) hx hb dX6_restore_35 (by decide) (fun c22 => ?_) (fun c22 => ?_)
    · rw [if_pos c22] at hf
      refine lv_iconst (v := (0:Int32)) hx hb dX6_restore_40 (by decide) ?_
      refine lv_istore_n (lv' := [(2, .int (0:Int32)), (0, .ref (a0 0)), (1, .int i1)]) hx hb dX6_restore_41 rfl hl (by decide) rfl (fun ls hl => ?_)
      obtain ⟨e23, he23, hf⟩ := bd_some hf
      refine w_X6_restore_42 (Q := _) S hK hA G a0 i1 FU _ e23 he23 _ _ _ hP hD hS (lv_sub hl [1, 2, 0] rfl) (fun H locs ls hP hD hS hl => ?_)
      refine lv_aload_n hx hb dX6_restore_73 rfl (lv_at hl 0 rfl) ?_
      refine lv_iconst (v := (0:Int32)) hx hb dX6_restore_74 (by decide) ?_
      obtain ⟨u24, eu24, hf⟩ := lt_some hf
      refine g_put (ty := .int) (C := RX6) (T := TX6) (N := 15) (gs' := [mdW G a0 u24]) hx hb hts iwX6_restore_X6 tyX6 tyX6_ok nmX6 hown hK hP hD hS 0 0 rfl rfl rfl 3 (Nat.le_of_ble_eq_true rfl) (hts _ kX6_restore_4) (fun _ h9 => h9) rfl (by decide +kernel) rfl rfl (Nat.le_of_ble_eq_true rfl) dX6_restore_75 (by rw [eu24]; rfl) (fun H locs hP hD hS => ?_)
      refine lv_aload_n hx hb dX6_restore_78 rfl (lv_at hl 0 rfl) ?_
      refine g_get (C := RX6) (T := TX6) (N := 15) hx hb hts iwX6_restore_X6 hown hK hP 0 0 rfl rfl rfl 1 (Nat.le_of_ble_eq_true rfl) (hts _ kX6_restore_2) (fun _ h9 => h9) rfl dX6_restore_79 ?_
      refine lv_iconst (v := (2:Int32)) hx hb dX6_restore_82 (by decide) ?_
      obtain ⟨h25, hf⟩ := gi_some hf
      refine g_iald hx hb hK hP 0 1 0 rfl rfl rfl h25 dX6_restore_83 ?_
      cases hf
      exact g_iret hx hb hr hlocks hP hS dX6_restore_84
    · rw [if_neg c22] at hf
      refine lv_iconst (v := (0:Int32)) hx hb dX6_restore_38 (by decide) ?_
      cases hf
      exact g_iret hx hb hr hlocks hP hS dX6_restore_39
theorem kX6_pay_0 : Cond.fieldLink RX6 7 "SavingsCircleModel" "z" "[I" ∈ wsX6_pay := (List.mem_cons_of_mem _ (List.mem_append_left _ (List.mem_of_getElem? (i := 0) rfl)))
theorem kX6_pay_1 : Cond.fieldLink RX6 32 "SavingsCircleModel" "misses" "[Z" ∈ wsX6_pay := (List.mem_cons_of_mem _ (List.mem_append_left _ (List.mem_of_getElem? (i := 1) rfl)))
theorem kX6_pay_2 : Cond.fieldLink RX6 29 "SavingsCircleModel" "hasPaid" "[Z" ∈ wsX6_pay := (List.mem_cons_of_mem _ (List.mem_append_left _ (List.mem_of_getElem? (i := 2) rfl)))
theorem iwX6_pay_X6 : ∀ w ∈ wsX60, w ∈ wsX6_pay := fun w h => (List.mem_cons_of_mem _ (List.mem_append_right _ h))
set_option maxHeartbeats 4000000 in
set_option maxRecDepth 100000 in
theorem w_X6_pay_11 {p : Program} {l : Launch} {e : Env} {s : State} {m : MethodId} {args : Array Value} {below : List Frame} {meth : Method} {c : Code} {A : Nat → Prop} {Q : State → Prop} (S : Ev p s m args meth c cX6_pay 4 (some .int) yX6_pay.cls wsX6_pay) {G : uG} (hK : kK G s) (hA : ∀ q, s.heap.size ≤ q → A q) (_ : uG) (a0 : Nat → Nat) (p1 : Int32) : ∀ (n : Nat) (z : (Int32 × Int32 × MdV)) (e1 : (Int32 × Int32 × MdV)), lp (b_X6_pay_11 p1) n z = some e1 → ∀ (H : Heap) (locs : List Loc) (ls : Array Slot), gP G [mdW G a0 z.2.2] H → gD A [mdW G a0 z.2.2] → va_S A s.heap H locs → lv_has ls 4 [(0, .ref (a0 0)), (1, .int p1), (2, .int z.1), (3, .int z.2.1)] → (∀ (H : Heap) (locs : List Loc) (ls : Array Slot), gP G [mdW G a0 e1.2.2] H → gD A [mdW G a0 e1.2.2] → va_S A s.heap H locs → lv_has ls 4 [(0, .ref (a0 0)), (1, .int p1), (2, .int e1.1), (3, .int e1.2.1)] → W p l e ({ frames := 0, cells := 0, slots := 0, locals := 0 } : Room) s m args below meth c H locs 0 0 Q (F0 m 126 ls [])) → W p l e ({ frames := 0, cells := 0, slots := 0, locals := 0 } : Room) s m args below meth c H locs 0 0 Q (F0 m 11 ls []) := by
  obtain ⟨hx, hb, hml, hown, hts, hr, hlocks⟩ := id S
  intro n
  induction n with
  | zero => intro z e1 h; cases h
  | succ n ih =>
    intro z e1 hlp H locs ls hP hD hS hl K
    obtain ⟨z9, hf, hz⟩ := lp_s hlp
    unfold b_X6_pay_11 at hf
    refine lv_iload_n hx hb dX6_pay_11 rfl (lv_at hl 3 rfl) ?_
    refine lv_bipush (v := (8:Int32)) hx hb dX6_pay_12 (by decide) ?_
    refine lv_icmp_ge (tgt := 126) hx hb dX6_pay_14 (by decide) (fun c3 => ?_) (fun c3 => ?_)
    · rw [if_pos c3] at hf
      have he := lz_r hf hz
      subst he
      exact K H locs ls hP hD hS (lv_sub hl [0, 1, 2, 3] rfl)
    · rw [if_neg c3] at hf
      refine lv_aload_n hx hb dX6_pay_17 rfl (lv_at hl 0 rfl) ?_
      refine g_get (C := RX6) (T := TX6) (N := 15) hx hb hts iwX6_pay_X6 hown hK hP 0 0 rfl rfl rfl 10 (Nat.le_of_ble_eq_true rfl) (hts _ kX6_pay_1) (fun _ h9 => h9) rfl dX6_pay_18 ?_
      refine lv_iload_n hx hb dX6_pay_21 rfl (lv_at hl 3 rfl) ?_
      refine lv_iconst (v := (0:Int32)) hx hb dX6_pay_22 (by decide) ?_
      obtain ⟨h4, hf⟩ := gi_some hf
      obtain ⟨u5, eu5, hf⟩ := lt_some hf
      refine g_zast (gs' := [mdW G a0 u5]) hx hb hK hP hD hS 0 8 1 rfl rfl rfl h4 dX6_pay_23 (by rw [eu5]; rfl) (fun H locs hP hD hS => ?_)
      refine lv_aload_n hx hb dX6_pay_24 rfl (lv_at hl 0 rfl) ?_
      refine g_get (C := RX6) (T := TX6) (N := 15) hx hb hts iwX6_pay_X6 hown hK hP 0 0 rfl rfl rfl 9 (Nat.le_of_ble_eq_true rfl) (hts _ kX6_pay_2) (fun _ h9 => h9) rfl dX6_pay_25 ?_
      refine lv_iload_n hx hb dX6_pay_28 rfl (lv_at hl 3 rfl) ?_
      refine lv_iload_n hx hb dX6_pay_29 rfl (lv_at hl 3 rfl) ?_
      refine lv_aload_n hx hb dX6_pay_30 rfl (lv_at hl 0 rfl) ?_
      refine g_get (C := RX6) (T := TX6) (N := 15) hx hb hts iwX6_pay_X6 hown hK hP 0 0 rfl rfl rfl 1 (Nat.le_of_ble_eq_true rfl) (hts _ kX6_pay_0) (fun _ h9 => h9) rfl dX6_pay_31 ?_
      refine lv_iconst (v := (0:Int32)) hx hb dX6_pay_34 (by decide) ?_
      obtain ⟨h6, hf⟩ := gi_some hf
      refine g_iald hx hb hK hP 0 1 0 rfl rfl rfl h6 dX6_pay_35 ?_
      refine lv_icmp_ge (tgt := 80) hx hb dX6_pay_36 (by decide) (fun c7 => ?_) (fun c7 => ?_)
      · rw [if_pos c7] at hf
        refine lv_iconst (v := (0:Int32)) hx hb dX6_pay_80 (by decide) ?_
        obtain ⟨h8, hf⟩ := gi_some hf
        obtain ⟨u9, eu9, hf⟩ := lt_some hf
        refine g_zast (gs' := [mdW G a0 u9]) hx hb hK hP hD hS 0 7 1 rfl rfl rfl h8 dX6_pay_81 (by rw [eu9]; rfl) (fun H locs hP hD hS => ?_)
        refine lv_aload_n hx hb dX6_pay_82 rfl (lv_at hl 0 rfl) ?_
        refine g_get (C := RX6) (T := TX6) (N := 15) hx hb hts iwX6_pay_X6 hown hK hP 0 0 rfl rfl rfl 9 (Nat.le_of_ble_eq_true rfl) (hts _ kX6_pay_2) (fun _ h9 => h9) rfl dX6_pay_83 ?_
        refine lv_iload_n hx hb dX6_pay_86 rfl (lv_at hl 3 rfl) ?_
        obtain ⟨h10, hf⟩ := gi_some hf
        refine g_zald hx hb hK hP 0 7 1 rfl rfl rfl h10 dX6_pay_87 ?_
        refine lv_if_eq (tgt := 120) hx hb dX6_pay_88 (by decide) (fun c11 => ?_) (fun c11 => ?_)
        · rw [if_pos c11] at hf
          obtain ⟨x12, ex12, hf⟩ := lt_some hf
          refine lv_iinc (v := x12) (lv' := [(3, .int x12), (0, .ref (a0 0)), (1, .int p1), (2, .int z.1)]) hx hb dX6_pay_120 hl (k := 3) rfl (by rw [ex12]; rfl) (by decide) rfl (fun ls hl => ?_)
          refine lv_goto (tgt := 11) hx hb dX6_pay_123 (by decide) ?_
          exact ih _ e1 (lz_l hf hz) H locs ls hP hD hS (lv_sub hl [1, 2, 3, 0] rfl) K
        · rw [if_neg c11] at hf
          refine lv_aload_n hx hb dX6_pay_91 rfl (lv_at hl 0 rfl) ?_
          refine g_get (C := RX6) (T := TX6) (N := 15) hx hb hts iwX6_pay_X6 hown hK hP 0 0 rfl rfl rfl 1 (Nat.le_of_ble_eq_true rfl) (hts _ kX6_pay_0) (fun _ h9 => h9) rfl dX6_pay_92 ?_
          refine lv_iconst (v := (5:Int32)) hx hb dX6_pay_95 (by decide) ?_
          refine lv_iload_n hx hb dX6_pay_96 rfl (lv_at hl 3 rfl) ?_
          refine lv_iadd hx hb dX6_pay_97 ?_
          obtain ⟨x13, ex13, hf⟩ := lt_some hf
          refine lv_nmi ex13 ?_
          refine lv_dup2_11 hx hb dX6_pay_98 rfl rfl ?_
          obtain ⟨h14, hf⟩ := gi_some hf
          refine g_iald hx hb hK hP 0 1 0 rfl rfl rfl h14 dX6_pay_99 ?_
          refine lv_iload_n hx hb dX6_pay_100 rfl (lv_at hl 1 rfl) ?_
          refine lv_isub hx hb dX6_pay_101 ?_
          obtain ⟨h15, hf⟩ := gi_some hf
          obtain ⟨u16, eu16, hf⟩ := lt_some hf
          refine g_iast (gs' := [mdW G a0 u16]) hx hb hK hP hD hS 0 1 0 rfl rfl rfl h15 dX6_pay_102 (by rw [eu16]; rfl) (fun H locs hP hD hS => ?_)
          refine lv_aload_n hx hb dX6_pay_103 rfl (lv_at hl 0 rfl) ?_
          refine g_get (C := RX6) (T := TX6) (N := 15) hx hb hts iwX6_pay_X6 hown hK hP 0 0 rfl rfl rfl 1 (Nat.le_of_ble_eq_true rfl) (hts _ kX6_pay_0) (fun _ h9 => h9) rfl dX6_pay_104 ?_
          refine lv_bipush (v := (53:Int32)) hx hb dX6_pay_107 (by decide) ?_
          refine lv_iload_n hx hb dX6_pay_109 rfl (lv_at hl 3 rfl) ?_
          refine lv_iadd hx hb dX6_pay_110 ?_
          obtain ⟨x17, ex17, hf⟩ := lt_some hf
          refine lv_nmi ex17 ?_
          refine lv_dup2_11 hx hb dX6_pay_111 rfl rfl ?_
          obtain ⟨h18, hf⟩ := gi_some hf
          refine g_iald hx hb hK hP 0 1 0 rfl rfl rfl h18 dX6_pay_112 ?_
          refine lv_iload_n hx hb dX6_pay_113 rfl (lv_at hl 1 rfl) ?_
          refine lv_iadd hx hb dX6_pay_114 ?_
          obtain ⟨h19, hf⟩ := gi_some hf
          obtain ⟨u20, eu20, hf⟩ := lt_some hf
          refine g_iast (gs' := [mdW G a0 u20]) hx hb hK hP hD hS 0 1 0 rfl rfl rfl h19 dX6_pay_115 (by rw [eu20]; rfl) (fun H locs hP hD hS => ?_)
          refine lv_iload_n hx hb dX6_pay_116 rfl (lv_at hl 2 rfl) ?_
          refine lv_iload_n hx hb dX6_pay_117 rfl (lv_at hl 1 rfl) ?_
          refine lv_iadd hx hb dX6_pay_118 ?_
          obtain ⟨x21, ex21, hf⟩ := lt_some hf
          refine lv_nmi ex21 ?_
          refine lv_istore_n (lv' := [(2, .int x21), (0, .ref (a0 0)), (1, .int p1), (3, .int z.2.1)]) hx hb dX6_pay_119 rfl hl (by decide) rfl (fun ls hl => ?_)
          obtain ⟨x22, ex22, hf⟩ := lt_some hf
          refine lv_iinc (v := x22) (lv' := [(3, .int x22), (2, .int x21), (0, .ref (a0 0)), (1, .int p1)]) hx hb dX6_pay_120 hl (k := 3) rfl (by rw [ex22]; rfl) (by decide) rfl (fun ls hl => ?_)
          refine lv_goto (tgt := 11) hx hb dX6_pay_123 (by decide) ?_
          exact ih _ e1 (lz_l hf hz) H locs ls hP hD hS (lv_sub hl [2, 3, 1, 0] rfl) K
      · rw [if_neg c7] at hf
        refine lv_aload_n hx hb dX6_pay_39 rfl (lv_at hl 0 rfl) ?_
        refine g_get (C := RX6) (T := TX6) (N := 15) hx hb hts iwX6_pay_X6 hown hK hP 0 0 rfl rfl rfl 1 (Nat.le_of_ble_eq_true rfl) (hts _ kX6_pay_0) (fun _ h9 => h9) rfl dX6_pay_40 ?_
        refine lv_bipush (v := (45:Int32)) hx hb dX6_pay_43 (by decide) ?_
        refine lv_iload_n hx hb dX6_pay_45 rfl (lv_at hl 3 rfl) ?_
        refine lv_iadd hx hb dX6_pay_46 ?_
        obtain ⟨h23, hf⟩ := gi_some hf
        refine g_iald hx hb hK hP 0 1 0 rfl rfl rfl h23 dX6_pay_47 ?_
        refine lv_iconst (v := (1:Int32)) hx hb dX6_pay_48 (by decide) ?_
        refine lv_icmp_ne (tgt := 80) hx hb dX6_pay_49 (by decide) (fun c24 => ?_) (fun c24 => ?_)
        · rw [if_neg c24] at hf
          refine lv_iconst (v := (0:Int32)) hx hb dX6_pay_80 (by decide) ?_
          obtain ⟨h25, hf⟩ := gi_some hf
          obtain ⟨u26, eu26, hf⟩ := lt_some hf
          refine g_zast (gs' := [mdW G a0 u26]) hx hb hK hP hD hS 0 7 1 rfl rfl rfl h25 dX6_pay_81 (by rw [eu26]; rfl) (fun H locs hP hD hS => ?_)
          refine lv_aload_n hx hb dX6_pay_82 rfl (lv_at hl 0 rfl) ?_
          refine g_get (C := RX6) (T := TX6) (N := 15) hx hb hts iwX6_pay_X6 hown hK hP 0 0 rfl rfl rfl 9 (Nat.le_of_ble_eq_true rfl) (hts _ kX6_pay_2) (fun _ h9 => h9) rfl dX6_pay_83 ?_
          refine lv_iload_n hx hb dX6_pay_86 rfl (lv_at hl 3 rfl) ?_
          obtain ⟨h27, hf⟩ := gi_some hf
          refine g_zald hx hb hK hP 0 7 1 rfl rfl rfl h27 dX6_pay_87 ?_
          refine lv_if_eq (tgt := 120) hx hb dX6_pay_88 (by decide) (fun c28 => ?_) (fun c28 => ?_)
          · rw [if_pos c28] at hf
            obtain ⟨x29, ex29, hf⟩ := lt_some hf
            refine lv_iinc (v := x29) (lv' := [(3, .int x29), (0, .ref (a0 0)), (1, .int p1), (2, .int z.1)]) hx hb dX6_pay_120 hl (k := 3) rfl (by rw [ex29]; rfl) (by decide) rfl (fun ls hl => ?_)
            refine lv_goto (tgt := 11) hx hb dX6_pay_123 (by decide) ?_
            exact ih _ e1 (lz_l hf hz) H locs ls hP hD hS (lv_sub hl [1, 2, 3, 0] rfl) K
          · rw [if_neg c28] at hf
            refine lv_aload_n hx hb dX6_pay_91 rfl (lv_at hl 0 rfl) ?_
            refine g_get (C := RX6) (T := TX6) (N := 15) hx hb hts iwX6_pay_X6 hown hK hP 0 0 rfl rfl rfl 1 (Nat.le_of_ble_eq_true rfl) (hts _ kX6_pay_0) (fun _ h9 => h9) rfl dX6_pay_92 ?_
            refine lv_iconst (v := (5:Int32)) hx hb dX6_pay_95 (by decide) ?_
            refine lv_iload_n hx hb dX6_pay_96 rfl (lv_at hl 3 rfl) ?_
            refine lv_iadd hx hb dX6_pay_97 ?_
            obtain ⟨x30, ex30, hf⟩ := lt_some hf
            refine lv_nmi ex30 ?_
            refine lv_dup2_11 hx hb dX6_pay_98 rfl rfl ?_
            obtain ⟨h31, hf⟩ := gi_some hf
            refine g_iald hx hb hK hP 0 1 0 rfl rfl rfl h31 dX6_pay_99 ?_
            refine lv_iload_n hx hb dX6_pay_100 rfl (lv_at hl 1 rfl) ?_
            refine lv_isub hx hb dX6_pay_101 ?_
            obtain ⟨h32, hf⟩ := gi_some hf
            obtain ⟨u33, eu33, hf⟩ := lt_some hf
            refine g_iast (gs' := [mdW G a0 u33]) hx hb hK hP hD hS 0 1 0 rfl rfl rfl h32 dX6_pay_102 (by rw [eu33]; rfl) (fun H locs hP hD hS => ?_)
            refine lv_aload_n hx hb dX6_pay_103 rfl (lv_at hl 0 rfl) ?_
            refine g_get (C := RX6) (T := TX6) (N := 15) hx hb hts iwX6_pay_X6 hown hK hP 0 0 rfl rfl rfl 1 (Nat.le_of_ble_eq_true rfl) (hts _ kX6_pay_0) (fun _ h9 => h9) rfl dX6_pay_104 ?_
            refine lv_bipush (v := (53:Int32)) hx hb dX6_pay_107 (by decide) ?_
            refine lv_iload_n hx hb dX6_pay_109 rfl (lv_at hl 3 rfl) ?_
            refine lv_iadd hx hb dX6_pay_110 ?_
            obtain ⟨x34, ex34, hf⟩ := lt_some hf
            refine lv_nmi ex34 ?_
            refine lv_dup2_11 hx hb dX6_pay_111 rfl rfl ?_
            obtain ⟨h35, hf⟩ := gi_some hf
            refine g_iald hx hb hK hP 0 1 0 rfl rfl rfl h35 dX6_pay_112 ?_
            refine lv_iload_n hx hb dX6_pay_113 rfl (lv_at hl 1 rfl) ?_
            refine lv_iadd hx hb dX6_pay_114 ?_
            obtain ⟨h36, hf⟩ := gi_some hf
            obtain ⟨u37, eu37, hf⟩ := lt_some hf
            refine g_iast (gs' := [mdW G a0 u37]) hx hb hK hP hD hS 0 1 0 rfl rfl rfl h36 dX6_pay_115 (by rw [eu37]; rfl) (fun H locs hP hD hS => ?_)
            refine lv_iload_n hx hb dX6_pay_116 rfl (lv_at hl 2 rfl) ?_
            refine lv_iload_n hx hb dX6_pay_117 rfl (lv_at hl 1 rfl) ?_
            refine lv_iadd hx hb dX6_pay_118 ?_
            obtain ⟨x38, ex38, hf⟩ := lt_some hf
            refine lv_nmi ex38 ?_
            refine lv_istore_n (lv' := [(2, .int x38), (0, .ref (a0 0)), (1, .int p1), (3, .int z.2.1)]) hx hb dX6_pay_119 rfl hl (by decide) rfl (fun ls hl => ?_)
            obtain ⟨x39, ex39, hf⟩ := lt_some hf
            refine lv_iinc (v := x39) (lv' := [(3, .int x39), (2, .int x38), (0, .ref (a0 0)), (1, .int p1)]) hx hb dX6_pay_120 hl (k := 3) rfl (by rw [ex39]; rfl) (by decide) rfl (fun ls hl => ?_)
            refine lv_goto (tgt := 11) hx hb dX6_pay_123 (by decide) ?_
            exact ih _ e1 (lz_l hf hz) H locs ls hP hD hS (lv_sub hl [2, 3, 1, 0] rfl) K
        · rw [if_pos c24] at hf
          refine lv_aload_n hx hb dX6_pay_52 rfl (lv_at hl 0 rfl) ?_
          refine g_get (C := RX6) (T := TX6) (N := 15) hx hb hts iwX6_pay_X6 hown hK hP 0 0 rfl rfl rfl 1 (Nat.le_of_ble_eq_true rfl) (hts _ kX6_pay_0) (fun _ h9 => h9) rfl dX6_pay_53 ?_
          refine lv_bipush (v := (29:Int32)) hx hb dX6_pay_56 (by decide) ?_
          refine lv_iload_n hx hb dX6_pay_58 rfl (lv_at hl 3 rfl) ?_
          refine lv_iadd hx hb dX6_pay_59 ?_
          obtain ⟨h40, hf⟩ := gi_some hf
          refine g_iald hx hb hK hP 0 1 0 rfl rfl rfl h40 dX6_pay_60 ?_
          refine lv_if_ne (tgt := 80) hx hb dX6_pay_61 (by decide) (fun c41 => ?_) (fun c41 => ?_)
          · rw [if_neg c41] at hf
            refine lv_iconst (v := (0:Int32)) hx hb dX6_pay_80 (by decide) ?_
            obtain ⟨h42, hf⟩ := gi_some hf
            obtain ⟨u43, eu43, hf⟩ := lt_some hf
            refine g_zast (gs' := [mdW G a0 u43]) hx hb hK hP hD hS 0 7 1 rfl rfl rfl h42 dX6_pay_81 (by rw [eu43]; rfl) (fun H locs hP hD hS => ?_)
            refine lv_aload_n hx hb dX6_pay_82 rfl (lv_at hl 0 rfl) ?_
            refine g_get (C := RX6) (T := TX6) (N := 15) hx hb hts iwX6_pay_X6 hown hK hP 0 0 rfl rfl rfl 9 (Nat.le_of_ble_eq_true rfl) (hts _ kX6_pay_2) (fun _ h9 => h9) rfl dX6_pay_83 ?_
            refine lv_iload_n hx hb dX6_pay_86 rfl (lv_at hl 3 rfl) ?_
            obtain ⟨h44, hf⟩ := gi_some hf
            refine g_zald hx hb hK hP 0 7 1 rfl rfl rfl h44 dX6_pay_87 ?_
            refine lv_if_eq (tgt := 120) hx hb dX6_pay_88 (by decide) (fun c45 => ?_) (fun c45 => ?_)
            · rw [if_pos c45] at hf
              obtain ⟨x46, ex46, hf⟩ := lt_some hf
              refine lv_iinc (v := x46) (lv' := [(3, .int x46), (0, .ref (a0 0)), (1, .int p1), (2, .int z.1)]) hx hb dX6_pay_120 hl (k := 3) rfl (by rw [ex46]; rfl) (by decide) rfl (fun ls hl => ?_)
              refine lv_goto (tgt := 11) hx hb dX6_pay_123 (by decide) ?_
              exact ih _ e1 (lz_l hf hz) H locs ls hP hD hS (lv_sub hl [1, 2, 3, 0] rfl) K
            · rw [if_neg c45] at hf
              refine lv_aload_n hx hb dX6_pay_91 rfl (lv_at hl 0 rfl) ?_
              refine g_get (C := RX6) (T := TX6) (N := 15) hx hb hts iwX6_pay_X6 hown hK hP 0 0 rfl rfl rfl 1 (Nat.le_of_ble_eq_true rfl) (hts _ kX6_pay_0) (fun _ h9 => h9) rfl dX6_pay_92 ?_
              refine lv_iconst (v := (5:Int32)) hx hb dX6_pay_95 (by decide) ?_
              refine lv_iload_n hx hb dX6_pay_96 rfl (lv_at hl 3 rfl) ?_
              refine lv_iadd hx hb dX6_pay_97 ?_
              obtain ⟨x47, ex47, hf⟩ := lt_some hf
              refine lv_nmi ex47 ?_
              refine lv_dup2_11 hx hb dX6_pay_98 rfl rfl ?_
              obtain ⟨h48, hf⟩ := gi_some hf
              refine g_iald hx hb hK hP 0 1 0 rfl rfl rfl h48 dX6_pay_99 ?_
              refine lv_iload_n hx hb dX6_pay_100 rfl (lv_at hl 1 rfl) ?_
              refine lv_isub hx hb dX6_pay_101 ?_
              obtain ⟨h49, hf⟩ := gi_some hf
              obtain ⟨u50, eu50, hf⟩ := lt_some hf
              refine g_iast (gs' := [mdW G a0 u50]) hx hb hK hP hD hS 0 1 0 rfl rfl rfl h49 dX6_pay_102 (by rw [eu50]; rfl) (fun H locs hP hD hS => ?_)
              refine lv_aload_n hx hb dX6_pay_103 rfl (lv_at hl 0 rfl) ?_
              refine g_get (C := RX6) (T := TX6) (N := 15) hx hb hts iwX6_pay_X6 hown hK hP 0 0 rfl rfl rfl 1 (Nat.le_of_ble_eq_true rfl) (hts _ kX6_pay_0) (fun _ h9 => h9) rfl dX6_pay_104 ?_
              refine lv_bipush (v := (53:Int32)) hx hb dX6_pay_107 (by decide) ?_
              refine lv_iload_n hx hb dX6_pay_109 rfl (lv_at hl 3 rfl) ?_
              refine lv_iadd hx hb dX6_pay_110 ?_
              obtain ⟨x51, ex51, hf⟩ := lt_some hf
              refine lv_nmi ex51 ?_
              refine lv_dup2_11 hx hb dX6_pay_111 rfl rfl ?_
              obtain ⟨h52, hf⟩ := gi_some hf
              refine g_iald hx hb hK hP 0 1 0 rfl rfl rfl h52 dX6_pay_112 ?_
              refine lv_iload_n hx hb dX6_pay_113 rfl (lv_at hl 1 rfl) ?_
              refine lv_iadd hx hb dX6_pay_114 ?_
              obtain ⟨h53, hf⟩ := gi_some hf
              obtain ⟨u54, eu54, hf⟩ := lt_some hf
              refine g_iast (gs' := [mdW G a0 u54]) hx hb hK hP hD hS 0 1 0 rfl rfl rfl h53 dX6_pay_115 (by rw [eu54]; rfl) (fun H locs hP hD hS => ?_)
              refine lv_iload_n hx hb dX6_pay_116 rfl (lv_at hl 2 rfl) ?_
              refine lv_iload_n hx hb dX6_pay_117 rfl (lv_at hl 1 rfl) ?_
              refine lv_iadd hx hb dX6_pay_118 ?_
              obtain ⟨x55, ex55, hf⟩ := lt_some hf
              refine lv_nmi ex55 ?_
              refine lv_istore_n (lv' := [(2, .int x55), (0, .ref (a0 0)), (1, .int p1), (3, .int z.2.1)]) hx hb dX6_pay_119 rfl hl (by decide) rfl (fun ls hl => ?_)
              obtain ⟨x56, ex56, hf⟩ := lt_some hf
              refine lv_iinc (v := x56) (lv' := [(3, .int x56), (2, .int x55), (0, .ref (a0 0)), (1, .int p1)]) hx hb dX6_pay_120 hl (k := 3) rfl (by rw [ex56]; rfl) (by decide) rfl (fun ls hl => ?_)
              refine lv_goto (tgt := 11) hx hb dX6_pay_123 (by decide) ?_
              exact ih _ e1 (lz_l hf hz) H locs ls hP hD hS (lv_sub hl [2, 3, 1, 0] rfl) K
          · rw [if_pos c41] at hf
            refine lv_aload_n hx hb dX6_pay_64 rfl (lv_at hl 0 rfl) ?_
            refine g_get (C := RX6) (T := TX6) (N := 15) hx hb hts iwX6_pay_X6 hown hK hP 0 0 rfl rfl rfl 1 (Nat.le_of_ble_eq_true rfl) (hts _ kX6_pay_0) (fun _ h9 => h9) rfl dX6_pay_65 ?_
            refine lv_iconst (v := (5:Int32)) hx hb dX6_pay_68 (by decide) ?_
            refine lv_iload_n hx hb dX6_pay_69 rfl (lv_at hl 3 rfl) ?_
            refine lv_iadd hx hb dX6_pay_70 ?_
            obtain ⟨h57, hf⟩ := gi_some hf
            refine g_iald hx hb hK hP 0 1 0 rfl rfl rfl h57 dX6_pay_71 ?_
            refine lv_iload_n hx hb dX6_pay_72 rfl (lv_at hl 1 rfl) ?_
            refine lv_icmp_lt (tgt := 80) hx hb dX6_pay_73 (by decide) (fun c58 => ?_) (fun c58 => ?_)
            · rw [if_pos c58] at hf
              refine lv_iconst (v := (0:Int32)) hx hb dX6_pay_80 (by decide) ?_
              obtain ⟨h59, hf⟩ := gi_some hf
              obtain ⟨u60, eu60, hf⟩ := lt_some hf
              refine g_zast (gs' := [mdW G a0 u60]) hx hb hK hP hD hS 0 7 1 rfl rfl rfl h59 dX6_pay_81 (by rw [eu60]; rfl) (fun H locs hP hD hS => ?_)
              refine lv_aload_n hx hb dX6_pay_82 rfl (lv_at hl 0 rfl) ?_
              refine g_get (C := RX6) (T := TX6) (N := 15) hx hb hts iwX6_pay_X6 hown hK hP 0 0 rfl rfl rfl 9 (Nat.le_of_ble_eq_true rfl) (hts _ kX6_pay_2) (fun _ h9 => h9) rfl dX6_pay_83 ?_
              refine lv_iload_n hx hb dX6_pay_86 rfl (lv_at hl 3 rfl) ?_
              obtain ⟨h61, hf⟩ := gi_some hf
              refine g_zald hx hb hK hP 0 7 1 rfl rfl rfl h61 dX6_pay_87 ?_
              refine lv_if_eq (tgt := 120) hx hb dX6_pay_88 (by decide) (fun c62 => ?_) (fun c62 => ?_)
              · rw [if_pos c62] at hf
                obtain ⟨x63, ex63, hf⟩ := lt_some hf
                refine lv_iinc (v := x63) (lv' := [(3, .int x63), (0, .ref (a0 0)), (1, .int p1), (2, .int z.1)]) hx hb dX6_pay_120 hl (k := 3) rfl (by rw [ex63]; rfl) (by decide) rfl (fun ls hl => ?_)
                refine lv_goto (tgt := 11) hx hb dX6_pay_123 (by decide) ?_
                exact ih _ e1 (lz_l hf hz) H locs ls hP hD hS (lv_sub hl [1, 2, 3, 0] rfl) K
              · rw [if_neg c62] at hf
                refine lv_aload_n hx hb dX6_pay_91 rfl (lv_at hl 0 rfl) ?_
                refine g_get (C := RX6) (T := TX6) (N := 15) hx hb hts iwX6_pay_X6 hown hK hP 0 0 rfl rfl rfl 1 (Nat.le_of_ble_eq_true rfl) (hts _ kX6_pay_0) (fun _ h9 => h9) rfl dX6_pay_92 ?_
                refine lv_iconst (v := (5:Int32)) hx hb dX6_pay_95 (by decide) ?_
                refine lv_iload_n hx hb dX6_pay_96 rfl (lv_at hl 3 rfl) ?_
                refine lv_iadd hx hb dX6_pay_97 ?_
                obtain ⟨x64, ex64, hf⟩ := lt_some hf
                refine lv_nmi ex64 ?_
                refine lv_dup2_11 hx hb dX6_pay_98 rfl rfl ?_
                obtain ⟨h65, hf⟩ := gi_some hf
                refine g_iald hx hb hK hP 0 1 0 rfl rfl rfl h65 dX6_pay_99 ?_
                refine lv_iload_n hx hb dX6_pay_100 rfl (lv_at hl 1 rfl) ?_
                refine lv_isub hx hb dX6_pay_101 ?_
                obtain ⟨h66, hf⟩ := gi_some hf
                obtain ⟨u67, eu67, hf⟩ := lt_some hf
                refine g_iast (gs' := [mdW G a0 u67]) hx hb hK hP hD hS 0 1 0 rfl rfl rfl h66 dX6_pay_102 (by rw [eu67]; rfl) (fun H locs hP hD hS => ?_)
                refine lv_aload_n hx hb dX6_pay_103 rfl (lv_at hl 0 rfl) ?_
                refine g_get (C := RX6) (T := TX6) (N := 15) hx hb hts iwX6_pay_X6 hown hK hP 0 0 rfl rfl rfl 1 (Nat.le_of_ble_eq_true rfl) (hts _ kX6_pay_0) (fun _ h9 => h9) rfl dX6_pay_104 ?_
                refine lv_bipush (v := (53:Int32)) hx hb dX6_pay_107 (by decide) ?_
                refine lv_iload_n hx hb dX6_pay_109 rfl (lv_at hl 3 rfl) ?_
                refine lv_iadd hx hb dX6_pay_110 ?_
                obtain ⟨x68, ex68, hf⟩ := lt_some hf
                refine lv_nmi ex68 ?_
                refine lv_dup2_11 hx hb dX6_pay_111 rfl rfl ?_
                obtain ⟨h69, hf⟩ := gi_some hf
                refine g_iald hx hb hK hP 0 1 0 rfl rfl rfl h69 dX6_pay_112 ?_
                refine lv_iload_n hx hb dX6_pay_113 rfl (lv_at hl 1 rfl) ?_
                refine lv_iadd hx hb dX6_pay_114 ?_
                obtain ⟨h70, hf⟩ := gi_some hf
                obtain ⟨u71, eu71, hf⟩ := lt_some hf
                refine g_iast (gs' := [mdW G a0 u71]) hx hb hK hP hD hS 0 1 0 rfl rfl rfl h70 dX6_pay_115 (by rw [eu71]; rfl) (fun H locs hP hD hS => ?_)
                refine lv_iload_n hx hb dX6_pay_116 rfl (lv_at hl 2 rfl) ?_
                refine lv_iload_n hx hb dX6_pay_117 rfl (lv_at hl 1 rfl) ?_
                refine lv_iadd hx hb dX6_pay_118 ?_
                obtain ⟨x72, ex72, hf⟩ := lt_some hf
                refine lv_nmi ex72 ?_
                refine lv_istore_n (lv' := [(2, .int x72), (0, .ref (a0 0)), (1, .int p1), (3, .int z.2.1)]) hx hb dX6_pay_119 rfl hl (by decide) rfl (fun ls hl => ?_)
                obtain ⟨x73, ex73, hf⟩ := lt_some hf
                refine lv_iinc (v := x73) (lv' := [(3, .int x73), (2, .int x72), (0, .ref (a0 0)), (1, .int p1)]) hx hb dX6_pay_120 hl (k := 3) rfl (by rw [ex73]; rfl) (by decide) rfl (fun ls hl => ?_)
                refine lv_goto (tgt := 11) hx hb dX6_pay_123 (by decide) ?_
                exact ih _ e1 (lz_l hf hz) H locs ls hP hD hS (lv_sub hl [2, 3, 1, 0] rfl) K
            · rw [if_neg c58] at hf
              refine lv_iconst (v := (1:Int32)) hx hb dX6_pay_76 (by decide) ?_
              refine lv_goto (tgt := 81) hx hb dX6_pay_77 (by decide) ?_
              obtain ⟨h74, hf⟩ := gi_some hf
              obtain ⟨u75, eu75, hf⟩ := lt_some hf
              refine g_zast (gs' := [mdW G a0 u75]) hx hb hK hP hD hS 0 7 1 rfl rfl rfl h74 dX6_pay_81 (by rw [eu75]; rfl) (fun H locs hP hD hS => ?_)
              refine lv_aload_n hx hb dX6_pay_82 rfl (lv_at hl 0 rfl) ?_
              refine g_get (C := RX6) (T := TX6) (N := 15) hx hb hts iwX6_pay_X6 hown hK hP 0 0 rfl rfl rfl 9 (Nat.le_of_ble_eq_true rfl) (hts _ kX6_pay_2) (fun _ h9 => h9) rfl dX6_pay_83 ?_
              refine lv_iload_n hx hb dX6_pay_86 rfl (lv_at hl 3 rfl) ?_
              obtain ⟨h76, hf⟩ := gi_some hf
              refine g_zald hx hb hK hP 0 7 1 rfl rfl rfl h76 dX6_pay_87 ?_
              refine lv_if_eq (tgt := 120) hx hb dX6_pay_88 (by decide) (fun c77 => ?_) (fun c77 => ?_)
              · rw [if_pos c77] at hf
                obtain ⟨x78, ex78, hf⟩ := lt_some hf
                refine lv_iinc (v := x78) (lv' := [(3, .int x78), (0, .ref (a0 0)), (1, .int p1), (2, .int z.1)]) hx hb dX6_pay_120 hl (k := 3) rfl (by rw [ex78]; rfl) (by decide) rfl (fun ls hl => ?_)
                refine lv_goto (tgt := 11) hx hb dX6_pay_123 (by decide) ?_
                exact ih _ e1 (lz_l hf hz) H locs ls hP hD hS (lv_sub hl [1, 2, 3, 0] rfl) K
              · rw [if_neg c77] at hf
                refine lv_aload_n hx hb dX6_pay_91 rfl (lv_at hl 0 rfl) ?_
                refine g_get (C := RX6) (T := TX6) (N := 15) hx hb hts iwX6_pay_X6 hown hK hP 0 0 rfl rfl rfl 1 (Nat.le_of_ble_eq_true rfl) (hts _ kX6_pay_0) (fun _ h9 => h9) rfl dX6_pay_92 ?_
                refine lv_iconst (v := (5:Int32)) hx hb dX6_pay_95 (by decide) ?_
                refine lv_iload_n hx hb dX6_pay_96 rfl (lv_at hl 3 rfl) ?_
                refine lv_iadd hx hb dX6_pay_97 ?_
                obtain ⟨x79, ex79, hf⟩ := lt_some hf
                refine lv_nmi ex79 ?_
                refine lv_dup2_11 hx hb dX6_pay_98 rfl rfl ?_
                obtain ⟨h80, hf⟩ := gi_some hf
                refine g_iald hx hb hK hP 0 1 0 rfl rfl rfl h80 dX6_pay_99 ?_
                refine lv_iload_n hx hb dX6_pay_100 rfl (lv_at hl 1 rfl) ?_
                refine lv_isub hx hb dX6_pay_101 ?_
                obtain ⟨h81, hf⟩ := gi_some hf
                obtain ⟨u82, eu82, hf⟩ := lt_some hf
                refine g_iast (gs' := [mdW G a0 u82]) hx hb hK hP hD hS 0 1 0 rfl rfl rfl h81 dX6_pay_102 (by rw [eu82]; rfl) (fun H locs hP hD hS => ?_)
                refine lv_aload_n hx hb dX6_pay_103 rfl (lv_at hl 0 rfl) ?_
                refine g_get (C := RX6) (T := TX6) (N := 15) hx hb hts iwX6_pay_X6 hown hK hP 0 0 rfl rfl rfl 1 (Nat.le_of_ble_eq_true rfl) (hts _ kX6_pay_0) (fun _ h9 => h9) rfl dX6_pay_104 ?_
                refine lv_bipush (v := (53:Int32)) hx hb dX6_pay_107 (by decide) ?_
                refine lv_iload_n hx hb dX6_pay_109 rfl (lv_at hl 3 rfl) ?_
                refine lv_iadd hx hb dX6_pay_110 ?_
                obtain ⟨x83, ex83, hf⟩ := lt_some hf
                refine lv_nmi ex83 ?_
                refine lv_dup2_11 hx hb dX6_pay_111 rfl rfl ?_
                obtain ⟨h84, hf⟩ := gi_some hf
                refine g_iald hx hb hK hP 0 1 0 rfl rfl rfl h84 dX6_pay_112 ?_
                refine lv_iload_n hx hb dX6_pay_113 rfl (lv_at hl 1 rfl) ?_
                refine lv_iadd hx hb dX6_pay_114 ?_
                obtain ⟨h85, hf⟩ := gi_some hf
                obtain ⟨u86, eu86, hf⟩ := lt_some hf
                refine g_iast (gs' := [mdW G a0 u86]) hx hb hK hP hD hS 0 1 0 rfl rfl rfl h85 dX6_pay_115 (by rw [eu86]; rfl) (fun H locs hP hD hS => ?_)
                refine lv_iload_n hx hb dX6_pay_116 rfl (lv_at hl 2 rfl) ?_
                refine lv_iload_n hx hb dX6_pay_117 rfl (lv_at hl 1 rfl) ?_
                refine lv_iadd hx hb dX6_pay_118 ?_
                obtain ⟨x87, ex87, hf⟩ := lt_some hf
                refine lv_nmi ex87 ?_
                refine lv_istore_n (lv' := [(2, .int x87), (0, .ref (a0 0)), (1, .int p1), (3, .int z.2.1)]) hx hb dX6_pay_119 rfl hl (by decide) rfl (fun ls hl => ?_)
                obtain ⟨x88, ex88, hf⟩ := lt_some hf
                refine lv_iinc (v := x88) (lv' := [(3, .int x88), (2, .int x87), (0, .ref (a0 0)), (1, .int p1)]) hx hb dX6_pay_120 hl (k := 3) rfl (by rw [ex88]; rfl) (by decide) rfl (fun ls hl => ?_)
                refine lv_goto (tgt := 11) hx hb dX6_pay_123 (by decide) ?_
                exact ih _ e1 (lz_l hf hz) H locs ls hP hD hS (lv_sub hl [2, 3, 1, 0] rfl) K
set_option maxHeartbeats 4000000 in
set_option maxRecDepth 100000 in
theorem c_X6_pay (l : Launch) (G : uG) (a0 : Nat → Nat) (v0 : MdV) {q : Int32 × (MdV)} (hf : f_X6_pay v0 = some q) : mQ l yX6_pay wsX6_pay ({ frames := 0, cells := 0, slots := 0, locals := 0 } : Room) G [.ref (a0 0)] [mdW G a0 v0] [mdW G a0 q.2] (qI G [mdW G a0 q.2] q.1) := by
  unfold f_X6_pay at hf
  refine m_of (cc := cX6_pay) (maxL := 4) (ret := (some .int)) (by decide) rfl rfl (Nat.le_of_ble_eq_true rfl) ?_
  intro p e s m args below meth c A ls S hK hA hP hD hS hl
  obtain ⟨hx, hb, hml, hown, hts, hr, hlocks⟩ := id S
  have hl : lv_has ls 4 [(0, .ref (a0 0))] := hl
  refine lv_aload_n hx hb dX6_pay_0 rfl (lv_at hl 0 rfl) ?_
  refine g_get (C := RX6) (T := TX6) (N := 15) hx hb hts iwX6_pay_X6 hown hK hP 0 0 rfl rfl rfl 1 (Nat.le_of_ble_eq_true rfl) (hts _ kX6_pay_0) (fun _ h9 => h9) rfl dX6_pay_1 ?_
  refine lv_iconst (v := (1:Int32)) hx hb dX6_pay_4 (by decide) ?_
  obtain ⟨h1, hf⟩ := gi_some hf
  refine g_iald hx hb hK hP 0 1 0 rfl rfl rfl h1 dX6_pay_5 ?_
  obtain ⟨x2, ex2, hf⟩ := lt_some hf
  refine lv_nmi ex2 ?_
  refine lv_istore_n (lv' := [(1, .int x2), (0, .ref (a0 0))]) hx hb dX6_pay_6 rfl hl (by decide) rfl (fun ls hl => ?_)
  refine lv_iconst (v := (0:Int32)) hx hb dX6_pay_7 (by decide) ?_
  refine lv_istore_n (lv' := [(2, .int (0:Int32)), (1, .int x2), (0, .ref (a0 0))]) hx hb dX6_pay_8 rfl hl (by decide) rfl (fun ls hl => ?_)
  refine lv_iconst (v := (0:Int32)) hx hb dX6_pay_9 (by decide) ?_
  refine lv_istore_n (lv' := [(3, .int (0:Int32)), (2, .int (0:Int32)), (1, .int x2), (0, .ref (a0 0))]) hx hb dX6_pay_10 rfl hl (by decide) rfl (fun ls hl => ?_)
  obtain ⟨e89, he89, hf⟩ := bd_some hf
  refine w_X6_pay_11 (Q := _) S hK hA G a0 x2 FU _ e89 he89 _ _ _ hP hD hS (lv_sub hl [3, 2, 1, 0] rfl) (fun H locs ls hP hD hS hl => ?_)
  refine lv_iload_n hx hb dX6_pay_126 rfl (lv_at hl 2 rfl) ?_
  cases hf
  exact g_iret hx hb hr hlocks hP hS dX6_pay_127
theorem kX6_payForOthers_0 : Cond.fieldLink RX6 7 "SavingsCircleModel" "z" "[I" ∈ wsX6_payForOthers := (List.mem_cons_of_mem _ (List.mem_append_left _ (List.mem_of_getElem? (i := 0) rfl)))
theorem kX6_payForOthers_1 : Cond.fieldLink RX6 29 "SavingsCircleModel" "hasPaid" "[Z" ∈ wsX6_payForOthers := (List.mem_cons_of_mem _ (List.mem_append_left _ (List.mem_of_getElem? (i := 1) rfl)))
theorem kX6_payForOthers_2 : Cond.constant RX6 49 (-99999) ∈ wsX6_payForOthers := (List.mem_cons_of_mem _ (List.mem_append_left _ (List.mem_of_getElem? (i := 2) rfl)))
theorem kX6_payForOthers_3 : Cond.fieldLink RX6 32 "SavingsCircleModel" "misses" "[Z" ∈ wsX6_payForOthers := (List.mem_cons_of_mem _ (List.mem_append_left _ (List.mem_of_getElem? (i := 3) rfl)))
theorem iwX6_payForOthers_X6 : ∀ w ∈ wsX60, w ∈ wsX6_payForOthers := fun w h => (List.mem_cons_of_mem _ (List.mem_append_right _ h))
set_option maxHeartbeats 4000000 in
set_option maxRecDepth 100000 in
theorem w_X6_payForOthers_11 {p : Program} {l : Launch} {e : Env} {s : State} {m : MethodId} {args : Array Value} {below : List Frame} {meth : Method} {c : Code} {A : Nat → Prop} {Q : State → Prop} (S : Ev p s m args meth c cX6_payForOthers 5 (some .int) yX6_payForOthers.cls wsX6_payForOthers) {G : uG} (hK : kK G s) (hA : ∀ q, s.heap.size ≤ q → A q) (_ : uG) (a0 : Nat → Nat) (p1 : Int32) : ∀ (n : Nat) (z : (Int32 × Int32 × MdV)) (e1 : (Int32 × Int32 × MdV)), lp (b_X6_payForOthers_11 p1) n z = some e1 → ∀ (H : Heap) (locs : List Loc) (ls : Array Slot), gP G [mdW G a0 z.2.2] H → gD A [mdW G a0 z.2.2] → va_S A s.heap H locs → lv_has ls 5 [(0, .ref (a0 0)), (1, .int p1), (2, .int z.1), (3, .int z.2.1)] → (∀ (H : Heap) (locs : List Loc) (ls : Array Slot), gP G [mdW G a0 e1.2.2] H → gD A [mdW G a0 e1.2.2] → va_S A s.heap H locs → lv_has ls 5 [(0, .ref (a0 0)), (1, .int p1), (2, .int e1.1), (3, .int e1.2.1)] → W p l e ({ frames := 0, cells := 0, slots := 0, locals := 0 } : Room) s m args below meth c H locs 0 0 Q (F0 m 165 ls [])) → W p l e ({ frames := 0, cells := 0, slots := 0, locals := 0 } : Room) s m args below meth c H locs 0 0 Q (F0 m 11 ls []) := by
  obtain ⟨hx, hb, hml, hown, hts, hr, hlocks⟩ := id S
  intro n
  induction n with
  | zero => intro z e1 h; cases h
  | succ n ih =>
    intro z e1 hlp H locs ls hP hD hS hl K
    obtain ⟨z9, hf, hz⟩ := lp_s hlp
    unfold b_X6_payForOthers_11 at hf
    refine lv_iload_n hx hb dX6_payForOthers_11 rfl (lv_at hl 3 rfl) ?_
    refine lv_aload_n hx hb dX6_payForOthers_12 rfl (lv_at hl 0 rfl) ?_
    refine g_get (C := RX6) (T := TX6) (N := 15) hx hb hts iwX6_payForOthers_X6 hown hK hP 0 0 rfl rfl rfl 1 (Nat.le_of_ble_eq_true rfl) (hts _ kX6_payForOthers_0) (fun _ h9 => h9) rfl dX6_payForOthers_13 ?_
    refine lv_iconst (v := (0:Int32)) hx hb dX6_payForOthers_16 (by decide) ?_
    obtain ⟨h3, hf⟩ := gi_some hf
    refine g_iald hx hb hK hP 0 1 0 rfl rfl rfl h3 dX6_payForOthers_17 ?_
    refine lv_icmp_ge (tgt := 165) hx hb dX6_payForOthers_18 (by decide) (fun c4 => ?_) (fun c4 => ?_)
    · rw [if_pos c4] at hf
      have he := lz_r hf hz
      subst he
      exact K H locs ls hP hD hS (lv_sub hl [0, 1, 2, 3] rfl)
    · rw [if_neg c4] at hf
      refine lv_aload_n hx hb dX6_payForOthers_21 rfl (lv_at hl 0 rfl) ?_
      refine g_get (C := RX6) (T := TX6) (N := 15) hx hb hts iwX6_payForOthers_X6 hown hK hP 0 0 rfl rfl rfl 1 (Nat.le_of_ble_eq_true rfl) (hts _ kX6_payForOthers_0) (fun _ h9 => h9) rfl dX6_payForOthers_22 ?_
      refine lv_bipush (v := (45:Int32)) hx hb dX6_payForOthers_25 (by decide) ?_
      refine lv_iload_n hx hb dX6_payForOthers_27 rfl (lv_at hl 3 rfl) ?_
      refine lv_iadd hx hb dX6_payForOthers_28 ?_
      obtain ⟨h5, hf⟩ := gi_some hf
      refine g_iald hx hb hK hP 0 1 0 rfl rfl rfl h5 dX6_payForOthers_29 ?_
      obtain ⟨x6, ex6, hf⟩ := lt_some hf
      refine lv_nmi ex6 ?_
      refine lv_if_eq (tgt := 159) hx hb dX6_payForOthers_30 (by decide) (fun c7 => ?_) (fun c7 => ?_)
      · rw [if_pos c7] at hf
        obtain ⟨x8, ex8, hf⟩ := lt_some hf
        refine lv_iinc (v := x8) (lv' := [(3, .int x8), (0, .ref (a0 0)), (1, .int p1), (2, .int z.1)]) hx hb dX6_payForOthers_159 hl (k := 3) rfl (by rw [ex8]; rfl) (by decide) rfl (fun ls hl => ?_)
        refine lv_goto (tgt := 11) hx hb dX6_payForOthers_162 (by decide) ?_
        exact ih _ e1 (lz_l hf hz) H locs ls hP hD hS (lv_sub hl [1, 2, 3, 0] rfl) K
      · rw [if_neg c7] at hf
        refine lv_aload_n hx hb dX6_payForOthers_33 rfl (lv_at hl 0 rfl) ?_
        refine g_get (C := RX6) (T := TX6) (N := 15) hx hb hts iwX6_payForOthers_X6 hown hK hP 0 0 rfl rfl rfl 9 (Nat.le_of_ble_eq_true rfl) (hts _ kX6_payForOthers_1) (fun _ h9 => h9) rfl dX6_payForOthers_34 ?_
        refine lv_iload_n hx hb dX6_payForOthers_37 rfl (lv_at hl 3 rfl) ?_
        obtain ⟨h9, hf⟩ := gi_some hf
        refine g_zald hx hb hK hP 0 7 1 rfl rfl rfl h9 dX6_payForOthers_38 ?_
        refine lv_if_eq (tgt := 45) hx hb dX6_payForOthers_39 (by decide) (fun c10 => ?_) (fun c10 => ?_)
        · rw [if_pos c10] at hf
          refine lv_aload_n hx hb dX6_payForOthers_45 rfl (lv_at hl 0 rfl) ?_
          refine g_get (C := RX6) (T := TX6) (N := 15) hx hb hts iwX6_payForOthers_X6 hown hK hP 0 0 rfl rfl rfl 1 (Nat.le_of_ble_eq_true rfl) (hts _ kX6_payForOthers_0) (fun _ h9 => h9) rfl dX6_payForOthers_46 ?_
          refine lv_bipush (v := (13:Int32)) hx hb dX6_payForOthers_49 (by decide) ?_
          refine lv_iload_n hx hb dX6_payForOthers_51 rfl (lv_at hl 3 rfl) ?_
          refine lv_iadd hx hb dX6_payForOthers_52 ?_
          obtain ⟨h11, hf⟩ := gi_some hf
          refine g_iald hx hb hK hP 0 1 0 rfl rfl rfl h11 dX6_payForOthers_53 ?_
          obtain ⟨x12, ex12, hf⟩ := lt_some hf
          refine lv_nmi ex12 ?_
          refine lv_istore (lv' := [(4, .int x12), (0, .ref (a0 0)), (1, .int p1), (2, .int z.1), (3, .int z.2.1)]) hx hb dX6_payForOthers_54 hl (by decide) rfl (fun ls hl => ?_)
          refine lv_iload hx hb dX6_payForOthers_56 (lv_at hl 0 rfl) ?_
          refine lv_ldc (v := (-99999:Int32)) hx hb hown (hts _ kX6_payForOthers_2) dX6_payForOthers_58 ?_
          refine lv_icmp_eq (tgt := 139) hx hb dX6_payForOthers_60 (by decide) (fun c13 => ?_) (fun c13 => ?_)
          · rw [if_pos c13] at hf
            refine lv_aload_n hx hb dX6_payForOthers_139 rfl (lv_at hl 1 rfl) ?_
            refine g_get (C := RX6) (T := TX6) (N := 15) hx hb hts iwX6_payForOthers_X6 hown hK hP 0 0 rfl rfl rfl 10 (Nat.le_of_ble_eq_true rfl) (hts _ kX6_payForOthers_3) (fun _ h9 => h9) rfl dX6_payForOthers_140 ?_
            refine lv_iload_n hx hb dX6_payForOthers_143 rfl (lv_at hl 4 rfl) ?_
            refine lv_iconst (v := (1:Int32)) hx hb dX6_payForOthers_144 (by decide) ?_
            obtain ⟨h14, hf⟩ := gi_some hf
            obtain ⟨u15, eu15, hf⟩ := lt_some hf
            refine g_zast (gs' := [mdW G a0 u15]) hx hb hK hP hD hS 0 8 1 rfl rfl rfl h14 dX6_payForOthers_145 (by rw [eu15]; rfl) (fun H locs hP hD hS => ?_)
            refine lv_aload_n hx hb dX6_payForOthers_146 rfl (lv_at hl 1 rfl) ?_
            refine g_get (C := RX6) (T := TX6) (N := 15) hx hb hts iwX6_payForOthers_X6 hown hK hP 0 0 rfl rfl rfl 1 (Nat.le_of_ble_eq_true rfl) (hts _ kX6_payForOthers_0) (fun _ h9 => h9) rfl dX6_payForOthers_147 ?_
            refine lv_bipush (v := (85:Int32)) hx hb dX6_payForOthers_150 (by decide) ?_
            refine lv_iload_n hx hb dX6_payForOthers_152 rfl (lv_at hl 4 rfl) ?_
            refine lv_iadd hx hb dX6_payForOthers_153 ?_
            obtain ⟨x16, ex16, hf⟩ := lt_some hf
            refine lv_nmi ex16 ?_
            refine lv_dup2_11 hx hb dX6_payForOthers_154 rfl rfl ?_
            obtain ⟨h17, hf⟩ := gi_some hf
            refine g_iald hx hb hK hP 0 1 0 rfl rfl rfl h17 dX6_payForOthers_155 ?_
            refine lv_iconst (v := (1:Int32)) hx hb dX6_payForOthers_156 (by decide) ?_
            refine lv_iadd hx hb dX6_payForOthers_157 ?_
            obtain ⟨h18, hf⟩ := gi_some hf
            obtain ⟨u19, eu19, hf⟩ := lt_some hf
            refine g_iast (gs' := [mdW G a0 u19]) hx hb hK hP hD hS 0 1 0 rfl rfl rfl h18 dX6_payForOthers_158 (by rw [eu19]; rfl) (fun H locs hP hD hS => ?_)
            obtain ⟨x20, ex20, hf⟩ := lt_some hf
            refine lv_iinc (v := x20) (lv' := [(3, .int x20), (4, .int x12), (0, .ref (a0 0)), (1, .int p1), (2, .int z.1)]) hx hb dX6_payForOthers_159 hl (k := 4) rfl (by rw [ex20]; rfl) (by decide) rfl (fun ls hl => ?_)
            refine lv_goto (tgt := 11) hx hb dX6_payForOthers_162 (by decide) ?_
            exact ih _ e1 (lz_l hf hz) H locs ls hP hD hS (lv_sub hl [2, 3, 4, 0] rfl) K
          · rw [if_neg c13] at hf
            refine lv_aload_n hx hb dX6_payForOthers_63 rfl (lv_at hl 1 rfl) ?_
            refine g_get (C := RX6) (T := TX6) (N := 15) hx hb hts iwX6_payForOthers_X6 hown hK hP 0 0 rfl rfl rfl 9 (Nat.le_of_ble_eq_true rfl) (hts _ kX6_payForOthers_1) (fun _ h9 => h9) rfl dX6_payForOthers_64 ?_
            refine lv_iload hx hb dX6_payForOthers_67 (lv_at hl 0 rfl) ?_
            obtain ⟨h21, hf⟩ := gi_some hf
            refine g_zald hx hb hK hP 0 7 1 rfl rfl rfl h21 dX6_payForOthers_69 ?_
            refine lv_if_eq (tgt := 139) hx hb dX6_payForOthers_70 (by decide) (fun c22 => ?_) (fun c22 => ?_)
            · rw [if_pos c22] at hf
              refine lv_aload_n hx hb dX6_payForOthers_139 rfl (lv_at hl 1 rfl) ?_
              refine g_get (C := RX6) (T := TX6) (N := 15) hx hb hts iwX6_payForOthers_X6 hown hK hP 0 0 rfl rfl rfl 10 (Nat.le_of_ble_eq_true rfl) (hts _ kX6_payForOthers_3) (fun _ h9 => h9) rfl dX6_payForOthers_140 ?_
              refine lv_iload_n hx hb dX6_payForOthers_143 rfl (lv_at hl 4 rfl) ?_
              refine lv_iconst (v := (1:Int32)) hx hb dX6_payForOthers_144 (by decide) ?_
              obtain ⟨h23, hf⟩ := gi_some hf
              obtain ⟨u24, eu24, hf⟩ := lt_some hf
              refine g_zast (gs' := [mdW G a0 u24]) hx hb hK hP hD hS 0 8 1 rfl rfl rfl h23 dX6_payForOthers_145 (by rw [eu24]; rfl) (fun H locs hP hD hS => ?_)
              refine lv_aload_n hx hb dX6_payForOthers_146 rfl (lv_at hl 1 rfl) ?_
              refine g_get (C := RX6) (T := TX6) (N := 15) hx hb hts iwX6_payForOthers_X6 hown hK hP 0 0 rfl rfl rfl 1 (Nat.le_of_ble_eq_true rfl) (hts _ kX6_payForOthers_0) (fun _ h9 => h9) rfl dX6_payForOthers_147 ?_
              refine lv_bipush (v := (85:Int32)) hx hb dX6_payForOthers_150 (by decide) ?_
              refine lv_iload_n hx hb dX6_payForOthers_152 rfl (lv_at hl 4 rfl) ?_
              refine lv_iadd hx hb dX6_payForOthers_153 ?_
              obtain ⟨x25, ex25, hf⟩ := lt_some hf
              refine lv_nmi ex25 ?_
              refine lv_dup2_11 hx hb dX6_payForOthers_154 rfl rfl ?_
              obtain ⟨h26, hf⟩ := gi_some hf
              refine g_iald hx hb hK hP 0 1 0 rfl rfl rfl h26 dX6_payForOthers_155 ?_
              refine lv_iconst (v := (1:Int32)) hx hb dX6_payForOthers_156 (by decide) ?_
              refine lv_iadd hx hb dX6_payForOthers_157 ?_
              obtain ⟨h27, hf⟩ := gi_some hf
              obtain ⟨u28, eu28, hf⟩ := lt_some hf
              refine g_iast (gs' := [mdW G a0 u28]) hx hb hK hP hD hS 0 1 0 rfl rfl rfl h27 dX6_payForOthers_158 (by rw [eu28]; rfl) (fun H locs hP hD hS => ?_)
              obtain ⟨x29, ex29, hf⟩ := lt_some hf
              refine lv_iinc (v := x29) (lv' := [(3, .int x29), (4, .int x12), (0, .ref (a0 0)), (1, .int p1), (2, .int z.1)]) hx hb dX6_payForOthers_159 hl (k := 4) rfl (by rw [ex29]; rfl) (by decide) rfl (fun ls hl => ?_)
              refine lv_goto (tgt := 11) hx hb dX6_payForOthers_162 (by decide) ?_
              exact ih _ e1 (lz_l hf hz) H locs ls hP hD hS (lv_sub hl [2, 3, 4, 0] rfl) K
            · rw [if_neg c22] at hf
              refine lv_aload_n hx hb dX6_payForOthers_73 rfl (lv_at hl 1 rfl) ?_
              refine g_get (C := RX6) (T := TX6) (N := 15) hx hb hts iwX6_payForOthers_X6 hown hK hP 0 0 rfl rfl rfl 1 (Nat.le_of_ble_eq_true rfl) (hts _ kX6_payForOthers_0) (fun _ h9 => h9) rfl dX6_payForOthers_74 ?_
              refine lv_iconst (v := (5:Int32)) hx hb dX6_payForOthers_77 (by decide) ?_
              refine lv_iload hx hb dX6_payForOthers_78 (lv_at hl 0 rfl) ?_
              refine lv_iadd hx hb dX6_payForOthers_80 ?_
              obtain ⟨h30, hf⟩ := gi_some hf
              refine g_iald hx hb hK hP 0 1 0 rfl rfl rfl h30 dX6_payForOthers_81 ?_
              refine lv_iload_n hx hb dX6_payForOthers_82 rfl (lv_at hl 2 rfl) ?_
              refine lv_icmp_lt (tgt := 139) hx hb dX6_payForOthers_83 (by decide) (fun c31 => ?_) (fun c31 => ?_)
              · rw [if_pos c31] at hf
                refine lv_aload_n hx hb dX6_payForOthers_139 rfl (lv_at hl 1 rfl) ?_
                refine g_get (C := RX6) (T := TX6) (N := 15) hx hb hts iwX6_payForOthers_X6 hown hK hP 0 0 rfl rfl rfl 10 (Nat.le_of_ble_eq_true rfl) (hts _ kX6_payForOthers_3) (fun _ h9 => h9) rfl dX6_payForOthers_140 ?_
                refine lv_iload_n hx hb dX6_payForOthers_143 rfl (lv_at hl 4 rfl) ?_
                refine lv_iconst (v := (1:Int32)) hx hb dX6_payForOthers_144 (by decide) ?_
                obtain ⟨h32, hf⟩ := gi_some hf
                obtain ⟨u33, eu33, hf⟩ := lt_some hf
                refine g_zast (gs' := [mdW G a0 u33]) hx hb hK hP hD hS 0 8 1 rfl rfl rfl h32 dX6_payForOthers_145 (by rw [eu33]; rfl) (fun H locs hP hD hS => ?_)
                refine lv_aload_n hx hb dX6_payForOthers_146 rfl (lv_at hl 1 rfl) ?_
                refine g_get (C := RX6) (T := TX6) (N := 15) hx hb hts iwX6_payForOthers_X6 hown hK hP 0 0 rfl rfl rfl 1 (Nat.le_of_ble_eq_true rfl) (hts _ kX6_payForOthers_0) (fun _ h9 => h9) rfl dX6_payForOthers_147 ?_
                refine lv_bipush (v := (85:Int32)) hx hb dX6_payForOthers_150 (by decide) ?_
                refine lv_iload_n hx hb dX6_payForOthers_152 rfl (lv_at hl 4 rfl) ?_
                refine lv_iadd hx hb dX6_payForOthers_153 ?_
                obtain ⟨x34, ex34, hf⟩ := lt_some hf
                refine lv_nmi ex34 ?_
                refine lv_dup2_11 hx hb dX6_payForOthers_154 rfl rfl ?_
                obtain ⟨h35, hf⟩ := gi_some hf
                refine g_iald hx hb hK hP 0 1 0 rfl rfl rfl h35 dX6_payForOthers_155 ?_
                refine lv_iconst (v := (1:Int32)) hx hb dX6_payForOthers_156 (by decide) ?_
                refine lv_iadd hx hb dX6_payForOthers_157 ?_
                obtain ⟨h36, hf⟩ := gi_some hf
                obtain ⟨u37, eu37, hf⟩ := lt_some hf
                refine g_iast (gs' := [mdW G a0 u37]) hx hb hK hP hD hS 0 1 0 rfl rfl rfl h36 dX6_payForOthers_158 (by rw [eu37]; rfl) (fun H locs hP hD hS => ?_)
                obtain ⟨x38, ex38, hf⟩ := lt_some hf
                refine lv_iinc (v := x38) (lv' := [(3, .int x38), (4, .int x12), (0, .ref (a0 0)), (1, .int p1), (2, .int z.1)]) hx hb dX6_payForOthers_159 hl (k := 4) rfl (by rw [ex38]; rfl) (by decide) rfl (fun ls hl => ?_)
                refine lv_goto (tgt := 11) hx hb dX6_payForOthers_162 (by decide) ?_
                exact ih _ e1 (lz_l hf hz) H locs ls hP hD hS (lv_sub hl [2, 3, 4, 0] rfl) K
              · rw [if_neg c31] at hf
                refine lv_aload_n hx hb dX6_payForOthers_86 rfl (lv_at hl 1 rfl) ?_
                refine g_get (C := RX6) (T := TX6) (N := 15) hx hb hts iwX6_payForOthers_X6 hown hK hP 0 0 rfl rfl rfl 1 (Nat.le_of_ble_eq_true rfl) (hts _ kX6_payForOthers_0) (fun _ h9 => h9) rfl dX6_payForOthers_87 ?_
                refine lv_iconst (v := (5:Int32)) hx hb dX6_payForOthers_90 (by decide) ?_
                refine lv_iload hx hb dX6_payForOthers_91 (lv_at hl 0 rfl) ?_
                refine lv_iadd hx hb dX6_payForOthers_93 ?_
                obtain ⟨x39, ex39, hf⟩ := lt_some hf
                refine lv_nmi ex39 ?_
                refine lv_dup2_11 hx hb dX6_payForOthers_94 rfl rfl ?_
                obtain ⟨h40, hf⟩ := gi_some hf
                refine g_iald hx hb hK hP 0 1 0 rfl rfl rfl h40 dX6_payForOthers_95 ?_
                refine lv_iload_n hx hb dX6_payForOthers_96 rfl (lv_at hl 2 rfl) ?_
                refine lv_isub hx hb dX6_payForOthers_97 ?_
                obtain ⟨h41, hf⟩ := gi_some hf
                obtain ⟨u42, eu42, hf⟩ := lt_some hf
                refine g_iast (gs' := [mdW G a0 u42]) hx hb hK hP hD hS 0 1 0 rfl rfl rfl h41 dX6_payForOthers_98 (by rw [eu42]; rfl) (fun H locs hP hD hS => ?_)
                refine lv_aload_n hx hb dX6_payForOthers_99 rfl (lv_at hl 1 rfl) ?_
                refine g_get (C := RX6) (T := TX6) (N := 15) hx hb hts iwX6_payForOthers_X6 hown hK hP 0 0 rfl rfl rfl 1 (Nat.le_of_ble_eq_true rfl) (hts _ kX6_payForOthers_0) (fun _ h9 => h9) rfl dX6_payForOthers_100 ?_
                refine lv_bipush (v := (61:Int32)) hx hb dX6_payForOthers_103 (by decide) ?_
                refine lv_iload hx hb dX6_payForOthers_105 (lv_at hl 0 rfl) ?_
                refine lv_iadd hx hb dX6_payForOthers_107 ?_
                obtain ⟨x43, ex43, hf⟩ := lt_some hf
                refine lv_nmi ex43 ?_
                refine lv_dup2_11 hx hb dX6_payForOthers_108 rfl rfl ?_
                obtain ⟨h44, hf⟩ := gi_some hf
                refine g_iald hx hb hK hP 0 1 0 rfl rfl rfl h44 dX6_payForOthers_109 ?_
                refine lv_iload_n hx hb dX6_payForOthers_110 rfl (lv_at hl 2 rfl) ?_
                refine lv_iadd hx hb dX6_payForOthers_111 ?_
                obtain ⟨h45, hf⟩ := gi_some hf
                obtain ⟨u46, eu46, hf⟩ := lt_some hf
                refine g_iast (gs' := [mdW G a0 u46]) hx hb hK hP hD hS 0 1 0 rfl rfl rfl h45 dX6_payForOthers_112 (by rw [eu46]; rfl) (fun H locs hP hD hS => ?_)
                refine lv_aload_n hx hb dX6_payForOthers_113 rfl (lv_at hl 1 rfl) ?_
                refine g_get (C := RX6) (T := TX6) (N := 15) hx hb hts iwX6_payForOthers_X6 hown hK hP 0 0 rfl rfl rfl 1 (Nat.le_of_ble_eq_true rfl) (hts _ kX6_payForOthers_0) (fun _ h9 => h9) rfl dX6_payForOthers_114 ?_
                refine lv_bipush (v := (93:Int32)) hx hb dX6_payForOthers_117 (by decide) ?_
                refine lv_bipush (v := (8:Int32)) hx hb dX6_payForOthers_119 (by decide) ?_
                refine lv_iload_n hx hb dX6_payForOthers_121 rfl (lv_at hl 4 rfl) ?_
                refine lv_imul hx hb dX6_payForOthers_122 ?_
                refine lv_iadd hx hb dX6_payForOthers_123 ?_
                refine lv_iload hx hb dX6_payForOthers_124 (lv_at hl 0 rfl) ?_
                refine lv_iadd hx hb dX6_payForOthers_126 ?_
                obtain ⟨x47, ex47, hf⟩ := lt_some hf
                refine lv_nmi ex47 ?_
                refine lv_dup2_11 hx hb dX6_payForOthers_127 rfl rfl ?_
                obtain ⟨h48, hf⟩ := gi_some hf
                refine g_iald hx hb hK hP 0 1 0 rfl rfl rfl h48 dX6_payForOthers_128 ?_
                refine lv_iload_n hx hb dX6_payForOthers_129 rfl (lv_at hl 2 rfl) ?_
                refine lv_iadd hx hb dX6_payForOthers_130 ?_
                obtain ⟨h49, hf⟩ := gi_some hf
                obtain ⟨u50, eu50, hf⟩ := lt_some hf
                refine g_iast (gs' := [mdW G a0 u50]) hx hb hK hP hD hS 0 1 0 rfl rfl rfl h49 dX6_payForOthers_131 (by rw [eu50]; rfl) (fun H locs hP hD hS => ?_)
                refine lv_iload_n hx hb dX6_payForOthers_132 rfl (lv_at hl 3 rfl) ?_
                refine lv_iload_n hx hb dX6_payForOthers_133 rfl (lv_at hl 2 rfl) ?_
                refine lv_iadd hx hb dX6_payForOthers_134 ?_
                obtain ⟨x51, ex51, hf⟩ := lt_some hf
                refine lv_nmi ex51 ?_
                refine lv_istore_n (lv' := [(2, .int x51), (4, .int x12), (0, .ref (a0 0)), (1, .int p1), (3, .int z.2.1)]) hx hb dX6_payForOthers_135 rfl hl (by decide) rfl (fun ls hl => ?_)
                refine lv_goto (tgt := 159) hx hb dX6_payForOthers_136 (by decide) ?_
                obtain ⟨x52, ex52, hf⟩ := lt_some hf
                refine lv_iinc (v := x52) (lv' := [(3, .int x52), (2, .int x51), (4, .int x12), (0, .ref (a0 0)), (1, .int p1)]) hx hb dX6_payForOthers_159 hl (k := 4) rfl (by rw [ex52]; rfl) (by decide) rfl (fun ls hl => ?_)
                refine lv_goto (tgt := 11) hx hb dX6_payForOthers_162 (by decide) ?_
                exact ih _ e1 (lz_l hf hz) H locs ls hP hD hS (lv_sub hl [3, 4, 1, 0] rfl) K
        · rw [if_neg c10] at hf
          refine lv_goto (tgt := 159) hx hb dX6_payForOthers_42 (by decide) ?_
          obtain ⟨x53, ex53, hf⟩ := lt_some hf
          refine lv_iinc (v := x53) (lv' := [(3, .int x53), (0, .ref (a0 0)), (1, .int p1), (2, .int z.1)]) hx hb dX6_payForOthers_159 hl (k := 3) rfl (by rw [ex53]; rfl) (by decide) rfl (fun ls hl => ?_)
          refine lv_goto (tgt := 11) hx hb dX6_payForOthers_162 (by decide) ?_
          exact ih _ e1 (lz_l hf hz) H locs ls hP hD hS (lv_sub hl [1, 2, 3, 0] rfl) K
set_option maxHeartbeats 4000000 in
set_option maxRecDepth 100000 in
theorem c_X6_payForOthers (l : Launch) (G : uG) (a0 : Nat → Nat) (v0 : MdV) {q : Int32 × (MdV)} (hf : f_X6_payForOthers v0 = some q) : mQ l yX6_payForOthers wsX6_payForOthers ({ frames := 0, cells := 0, slots := 0, locals := 0 } : Room) G [.ref (a0 0)] [mdW G a0 v0] [mdW G a0 q.2] (qI G [mdW G a0 q.2] q.1) := by
  unfold f_X6_payForOthers at hf
  refine m_of (cc := cX6_payForOthers) (maxL := 5) (ret := (some .int)) (by decide) rfl rfl (Nat.le_of_ble_eq_true rfl) ?_
  intro p e s m args below meth c A ls S hK hA hP hD hS hl
  obtain ⟨hx, hb, hml, hown, hts, hr, hlocks⟩ := id S
  have hl : lv_has ls 5 [(0, .ref (a0 0))] := hl
  refine lv_aload_n hx hb dX6_payForOthers_0 rfl (lv_at hl 0 rfl) ?_
  refine g_get (C := RX6) (T := TX6) (N := 15) hx hb hts iwX6_payForOthers_X6 hown hK hP 0 0 rfl rfl rfl 1 (Nat.le_of_ble_eq_true rfl) (hts _ kX6_payForOthers_0) (fun _ h9 => h9) rfl dX6_payForOthers_1 ?_
  refine lv_iconst (v := (1:Int32)) hx hb dX6_payForOthers_4 (by decide) ?_
  obtain ⟨h1, hf⟩ := gi_some hf
  refine g_iald hx hb hK hP 0 1 0 rfl rfl rfl h1 dX6_payForOthers_5 ?_
  obtain ⟨x2, ex2, hf⟩ := lt_some hf
  refine lv_nmi ex2 ?_
  refine lv_istore_n (lv' := [(1, .int x2), (0, .ref (a0 0))]) hx hb dX6_payForOthers_6 rfl hl (by decide) rfl (fun ls hl => ?_)
  refine lv_iconst (v := (0:Int32)) hx hb dX6_payForOthers_7 (by decide) ?_
  refine lv_istore_n (lv' := [(2, .int (0:Int32)), (1, .int x2), (0, .ref (a0 0))]) hx hb dX6_payForOthers_8 rfl hl (by decide) rfl (fun ls hl => ?_)
  refine lv_iconst (v := (0:Int32)) hx hb dX6_payForOthers_9 (by decide) ?_
  refine lv_istore_n (lv' := [(3, .int (0:Int32)), (2, .int (0:Int32)), (1, .int x2), (0, .ref (a0 0))]) hx hb dX6_payForOthers_10 rfl hl (by decide) rfl (fun ls hl => ?_)
  obtain ⟨e54, he54, hf⟩ := bd_some hf
  refine w_X6_payForOthers_11 (Q := _) S hK hA G a0 x2 FU _ e54 he54 _ _ _ hP hD hS (lv_sub hl [3, 2, 1, 0] rfl) (fun H locs ls hP hD hS hl => ?_)
  refine lv_iload_n hx hb dX6_payForOthers_165 rfl (lv_at hl 2 rfl) ?_
  cases hf
  exact g_iret hx hb hr hlocks hP hS dX6_payForOthers_166
theorem kX6_takesPart_0 : Cond.fieldLink RX6 7 "SavingsCircleModel" "z" "[I" ∈ wsX6_takesPart := (List.mem_cons_of_mem _ (List.mem_append_left _ (List.mem_of_getElem? (i := 0) rfl)))
theorem kX6_takesPart_1 : Cond.fieldLink RX6 32 "SavingsCircleModel" "misses" "[Z" ∈ wsX6_takesPart := (List.mem_cons_of_mem _ (List.mem_append_left _ (List.mem_of_getElem? (i := 1) rfl)))
theorem iwX6_takesPart_X6 : ∀ w ∈ wsX60, w ∈ wsX6_takesPart := fun w h => (List.mem_cons_of_mem _ (List.mem_append_right _ h))
set_option maxHeartbeats 4000000 in
set_option maxRecDepth 100000 in
theorem c_X6_takesPart (l : Launch) (G : uG) (a0 : Nat → Nat) (v0 : MdV) (i1 : Int32) {q : Int32 × (Unit)} (hf : f_X6_takesPart v0 i1 = some q) : mQ l yX6_takesPart wsX6_takesPart ({ frames := 0, cells := 0, slots := 0, locals := 0 } : Room) G [.ref (a0 0), .int i1] [mdW G a0 v0] [mdW G a0 v0] (qI G [mdW G a0 v0] q.1) := by
  unfold f_X6_takesPart at hf
  refine m_of (cc := cX6_takesPart) (maxL := 2) (ret := (some .boolean)) (by decide) rfl rfl (Nat.le_of_ble_eq_true rfl) ?_
  intro p e s m args below meth c A ls S hK hA hP hD hS hl
  obtain ⟨hx, hb, hml, hown, hts, hr, hlocks⟩ := id S
  have hl : lv_has ls 2 [(0, .ref (a0 0)), (1, .int i1)] := hl
  refine lv_aload_n hx hb dX6_takesPart_0 rfl (lv_at hl 0 rfl) ?_
  refine g_get (C := RX6) (T := TX6) (N := 15) hx hb hts iwX6_takesPart_X6 hown hK hP 0 0 rfl rfl rfl 1 (Nat.le_of_ble_eq_true rfl) (hts _ kX6_takesPart_0) (fun _ h9 => h9) rfl dX6_takesPart_1 ?_
  refine lv_bipush (v := (45:Int32)) hx hb dX6_takesPart_4 (by decide) ?_
  refine lv_iload_n hx hb dX6_takesPart_6 rfl (lv_at hl 1 rfl) ?_
  refine lv_iadd hx hb dX6_takesPart_7 ?_
  obtain ⟨h1, hf⟩ := gi_some hf
  refine g_iald hx hb hK hP 0 1 0 rfl rfl rfl h1 dX6_takesPart_8 ?_
  refine lv_iconst (v := (1:Int32)) hx hb dX6_takesPart_9 (by decide) ?_
  refine lv_icmp_ne (tgt := 26) hx hb dX6_takesPart_10 (by decide) (fun c2 => ?_) (fun c2 => ?_)
  · rw [if_neg c2] at hf
    refine lv_iconst (v := (0:Int32)) hx hb dX6_takesPart_26 (by decide) ?_
    cases hf
    exact g_zret hx hb hr gz0 hlocks hP hS dX6_takesPart_27
  · rw [if_pos c2] at hf
    refine lv_aload_n hx hb dX6_takesPart_13 rfl (lv_at hl 0 rfl) ?_
    refine g_get (C := RX6) (T := TX6) (N := 15) hx hb hts iwX6_takesPart_X6 hown hK hP 0 0 rfl rfl rfl 10 (Nat.le_of_ble_eq_true rfl) (hts _ kX6_takesPart_1) (fun _ h9 => h9) rfl dX6_takesPart_14 ?_
    refine lv_iload_n hx hb dX6_takesPart_17 rfl (lv_at hl 1 rfl) ?_
    obtain ⟨h3, hf⟩ := gi_some hf
    refine g_zald hx hb hK hP 0 8 1 rfl rfl rfl h3 dX6_takesPart_18 ?_
    refine lv_if_ne (tgt := 26) hx hb dX6_takesPart_19 (by decide) (fun c4 => ?_) (fun c4 => ?_)
    · rw [if_neg c4] at hf
      refine lv_iconst (v := (0:Int32)) hx hb dX6_takesPart_26 (by decide) ?_
      cases hf
      exact g_zret hx hb hr gz0 hlocks hP hS dX6_takesPart_27
    · rw [if_pos c4] at hf
      refine lv_iconst (v := (1:Int32)) hx hb dX6_takesPart_22 (by decide) ?_
      refine lv_goto (tgt := 27) hx hb dX6_takesPart_23 (by decide) ?_
      cases hf
      exact g_zret hx hb hr gz1 hlocks hP hS dX6_takesPart_27
theorem kX6_bidOf_0 : Cond.fieldLink RX6 7 "SavingsCircleModel" "z" "[I" ∈ wsX6_bidOf := (List.mem_cons_of_mem _ (List.mem_append_left _ (List.mem_of_getElem? (i := 0) rfl)))
theorem iwX6_bidOf_X6 : ∀ w ∈ wsX60, w ∈ wsX6_bidOf := fun w h => (List.mem_cons_of_mem _ (List.mem_append_right _ h))
set_option maxHeartbeats 4000000 in
set_option maxRecDepth 100000 in
theorem c_X6_bidOf (l : Launch) (G : uG) (a0 : Nat → Nat) (v0 : MdV) (i1 : Int32) (i2 : Int32) {q : Int32 × (Unit)} (hf : f_X6_bidOf v0 i1 i2 = some q) : mQ l yX6_bidOf wsX6_bidOf ({ frames := 0, cells := 0, slots := 0, locals := 0 } : Room) G [.ref (a0 0), .int i1, .int i2] [mdW G a0 v0] [mdW G a0 v0] (qI G [mdW G a0 v0] q.1) := by
  unfold f_X6_bidOf at hf
  refine m_of (cc := cX6_bidOf) (maxL := 3) (ret := (some .int)) (by decide) rfl rfl (Nat.le_of_ble_eq_true rfl) ?_
  intro p e s m args below meth c A ls S hK hA hP hD hS hl
  obtain ⟨hx, hb, hml, hown, hts, hr, hlocks⟩ := id S
  have hl : lv_has ls 3 [(0, .ref (a0 0)), (1, .int i1), (2, .int i2)] := hl
  refine lv_aload_n hx hb dX6_bidOf_0 rfl (lv_at hl 0 rfl) ?_
  refine g_get (C := RX6) (T := TX6) (N := 15) hx hb hts iwX6_bidOf_X6 hown hK hP 0 0 rfl rfl rfl 1 (Nat.le_of_ble_eq_true rfl) (hts _ kX6_bidOf_0) (fun _ h9 => h9) rfl dX6_bidOf_1 ?_
  refine lv_bipush (v := (21:Int32)) hx hb dX6_bidOf_4 (by decide) ?_
  refine lv_iload_n hx hb dX6_bidOf_6 rfl (lv_at hl 1 rfl) ?_
  refine lv_iadd hx hb dX6_bidOf_7 ?_
  obtain ⟨h1, hf⟩ := gi_some hf
  refine g_iald hx hb hK hP 0 1 0 rfl rfl rfl h1 dX6_bidOf_8 ?_
  refine lv_iload_n hx hb dX6_bidOf_9 rfl (lv_at hl 2 rfl) ?_
  refine lv_iconst (v := (2:Int32)) hx hb dX6_bidOf_10 (by decide) ?_
  obtain ⟨h2, hf⟩ := gz_some hf
  refine lv_idiv hx hb dX6_bidOf_11 h2 ?_
  refine lv_icmp_le (tgt := 21) hx hb dX6_bidOf_12 (by decide) (fun c3 => ?_) (fun c3 => ?_)
  · rw [if_pos c3] at hf
    refine lv_aload_n hx hb dX6_bidOf_21 rfl (lv_at hl 0 rfl) ?_
    refine g_get (C := RX6) (T := TX6) (N := 15) hx hb hts iwX6_bidOf_X6 hown hK hP 0 0 rfl rfl rfl 1 (Nat.le_of_ble_eq_true rfl) (hts _ kX6_bidOf_0) (fun _ h9 => h9) rfl dX6_bidOf_22 ?_
    refine lv_bipush (v := (21:Int32)) hx hb dX6_bidOf_25 (by decide) ?_
    refine lv_iload_n hx hb dX6_bidOf_27 rfl (lv_at hl 1 rfl) ?_
    refine lv_iadd hx hb dX6_bidOf_28 ?_
    obtain ⟨h4, hf⟩ := gi_some hf
    refine g_iald hx hb hK hP 0 1 0 rfl rfl rfl h4 dX6_bidOf_29 ?_
    cases hf
    exact g_iret hx hb hr hlocks hP hS dX6_bidOf_30
  · rw [if_neg c3] at hf
    refine lv_iload_n hx hb dX6_bidOf_15 rfl (lv_at hl 2 rfl) ?_
    refine lv_iconst (v := (2:Int32)) hx hb dX6_bidOf_16 (by decide) ?_
    obtain ⟨h5, hf⟩ := gz_some hf
    refine lv_idiv hx hb dX6_bidOf_17 h5 ?_
    refine lv_goto (tgt := 30) hx hb dX6_bidOf_18 (by decide) ?_
    cases hf
    exact g_iret hx hb hr hlocks hP hS dX6_bidOf_30
theorem kX6_taker_0 : Cond.constant RX6 49 (-99999) ∈ wsX6_taker := (List.mem_cons_of_mem _ (List.mem_append_left _ (List.mem_of_getElem? (i := 0) rfl)))
theorem kX6_taker_1 : Cond.fieldLink RX6 7 "SavingsCircleModel" "z" "[I" ∈ wsX6_taker := (List.mem_cons_of_mem _ (List.mem_append_left _ (List.mem_of_getElem? (i := 1) rfl)))
theorem iwX6_taker_X6 : ∀ w ∈ wsX60, w ∈ wsX6_taker := fun w h => (List.mem_cons_of_mem _ (List.mem_append_right _ h))
set_option maxHeartbeats 4000000 in
set_option maxRecDepth 100000 in
theorem w_X6_taker_5 {p : Program} {l : Launch} {e : Env} {s : State} {m : MethodId} {args : Array Value} {below : List Frame} {meth : Method} {c : Code} {A : Nat → Prop} {Q : State → Prop} (S : Ev p s m args meth c cX6_taker 6 (some .int) yX6_taker.cls wsX6_taker) {G : uG} (hK : kK G s) (hA : ∀ q, s.heap.size ≤ q → A q) (_ : uG) (a0 : Nat → Nat) (v0 : MdV) (p1 : Int32) : ∀ (n : Nat) (z : (Int32 × Int32)) (e1 : (Int32 × Int32)), lp (b_X6_taker_5 v0 p1) n z = some e1 → ∀ (H : Heap) (locs : List Loc) (ls : Array Slot), gP G [mdW G a0 v0] H → gD A [mdW G a0 v0] → va_S A s.heap H locs → lv_has ls 6 [(0, .ref (a0 0)), (1, .int p1), (2, .int z.1), (3, .int z.2)] → (∀ (H : Heap) (locs : List Loc) (ls : Array Slot), gP G [mdW G a0 v0] H → gD A [mdW G a0 v0] → va_S A s.heap H locs → lv_has ls 6 [(0, .ref (a0 0)), (1, .int p1), (2, .int e1.1), (3, .int e1.2)] → W p l e ({ frames := 1, cells := 0, slots := 0, locals := 22 } : Room) s m args below meth c H locs 0 0 Q (F0 m 97 ls [])) → W p l e ({ frames := 1, cells := 0, slots := 0, locals := 22 } : Room) s m args below meth c H locs 0 0 Q (F0 m 5 ls []) := by
  obtain ⟨hx, hb, hml, hown, hts, hr, hlocks⟩ := id S
  intro n
  induction n with
  | zero => intro z e1 h; cases h
  | succ n ih =>
    intro z e1 hlp H locs ls hP hD hS hl K
    obtain ⟨z9, hf, hz⟩ := lp_s hlp
    unfold b_X6_taker_5 at hf
    refine lv_iload_n hx hb dX6_taker_5 rfl (lv_at hl 3 rfl) ?_
    refine lv_aload_n hx hb dX6_taker_6 rfl (lv_at hl 0 rfl) ?_
    refine g_get (C := RX6) (T := TX6) (N := 15) hx hb hts iwX6_taker_X6 hown hK hP 0 0 rfl rfl rfl 1 (Nat.le_of_ble_eq_true rfl) (hts _ kX6_taker_1) (fun _ h9 => h9) rfl dX6_taker_7 ?_
    refine lv_iconst (v := (0:Int32)) hx hb dX6_taker_10 (by decide) ?_
    obtain ⟨h1, hf⟩ := gi_some hf
    refine g_iald hx hb hK hP 0 1 0 rfl rfl rfl h1 dX6_taker_11 ?_
    refine lv_icmp_ge (tgt := 97) hx hb dX6_taker_12 (by decide) (fun c2 => ?_) (fun c2 => ?_)
    · rw [if_pos c2] at hf
      have he := lz_r hf hz
      subst he
      exact K H locs ls hP hD hS (lv_sub hl [0, 1, 2, 3] rfl)
    · rw [if_neg c2] at hf
      refine lv_aload_n hx hb dX6_taker_15 rfl (lv_at hl 0 rfl) ?_
      refine g_get (C := RX6) (T := TX6) (N := 15) hx hb hts iwX6_taker_X6 hown hK hP 0 0 rfl rfl rfl 1 (Nat.le_of_ble_eq_true rfl) (hts _ kX6_taker_1) (fun _ h9 => h9) rfl dX6_taker_16 ?_
      refine lv_iconst (v := (2:Int32)) hx hb dX6_taker_19 (by decide) ?_
      obtain ⟨h3, hf⟩ := gi_some hf
      refine g_iald hx hb hK hP 0 1 0 rfl rfl rfl h3 dX6_taker_20 ?_
      refine lv_iload_n hx hb dX6_taker_21 rfl (lv_at hl 3 rfl) ?_
      refine lv_iadd hx hb dX6_taker_22 ?_
      refine lv_aload_n hx hb dX6_taker_23 rfl (lv_at hl 0 rfl) ?_
      refine g_get (C := RX6) (T := TX6) (N := 15) hx hb hts iwX6_taker_X6 hown hK hP 0 0 rfl rfl rfl 1 (Nat.le_of_ble_eq_true rfl) (hts _ kX6_taker_1) (fun _ h9 => h9) rfl dX6_taker_24 ?_
      refine lv_iconst (v := (0:Int32)) hx hb dX6_taker_27 (by decide) ?_
      obtain ⟨h4, hf⟩ := gi_some hf
      refine g_iald hx hb hK hP 0 1 0 rfl rfl rfl h4 dX6_taker_28 ?_
      obtain ⟨h5, hf⟩ := gz_some hf
      refine lv_irem hx hb dX6_taker_29 h5 ?_
      obtain ⟨x6, ex6, hf⟩ := lt_some hf
      refine lv_nmi ex6 ?_
      refine lv_istore (lv' := [(4, .int x6), (0, .ref (a0 0)), (1, .int p1), (2, .int z.1), (3, .int z.2)]) hx hb dX6_taker_30 hl (by decide) rfl (fun ls hl => ?_)
      refine lv_aload_n hx hb dX6_taker_32 rfl (lv_at hl 1 rfl) ?_
      refine lv_iload hx hb dX6_taker_33 (lv_at hl 0 rfl) ?_
      obtain ⟨q7, hq7, hf⟩ := bd_some hf
      refine g_callVi S (As := [.int x6]) (gs' := [mdW G a0 v0]) (c_X6_takesPart l G a0 v0 x6 hq7) (cwV 1 hts gX6_taker_X6_takesPart rfl rfl rfl hd_X6_takesPart ⟨Nat.le_of_ble_eq_true rfl, Nat.le_of_ble_eq_true rfl⟩) hK hP hD hS hA (is := [0]) rfl rfl 0 rfl rfl rfl rfl hl.1 rfl (Nat.le_of_ble_eq_true rfl) dX6_taker_35 ⟨Nat.le_of_ble_eq_true rfl, Nat.le_of_ble_eq_true rfl⟩ rfl (fun H locs hP hD hS => ?_)
      refine lv_if_eq (tgt := 58) hx hb dX6_taker_38 (by decide) (fun c8 => ?_) (fun c8 => ?_)
      · rw [if_pos c8] at hf
        refine lv_iconst (v := (0:Int32)) hx hb dX6_taker_58 (by decide) ?_
        refine lv_istore (lv' := [(5, .int (0:Int32)), (4, .int x6), (0, .ref (a0 0)), (1, .int p1), (2, .int z.1), (3, .int z.2)]) hx hb dX6_taker_59 hl (by decide) rfl (fun ls hl => ?_)
        refine lv_iload hx hb dX6_taker_61 (lv_at hl 0 rfl) ?_
        refine lv_if_eq (tgt := 91) hx hb dX6_taker_63 (by decide) (fun c9 => ?_) (fun c9 => ?_)
        · rw [if_pos c9] at hf
          obtain ⟨x10, ex10, hf⟩ := lt_some hf
          refine lv_iinc (v := x10) (lv' := [(3, .int x10), (5, .int (0:Int32)), (4, .int x6), (0, .ref (a0 0)), (1, .int p1), (2, .int z.1)]) hx hb dX6_taker_91 hl (k := 5) rfl (by rw [ex10]; rfl) (by decide) rfl (fun ls hl => ?_)
          refine lv_goto (tgt := 5) hx hb dX6_taker_94 (by decide) ?_
          exact ih _ e1 (lz_l hf hz) H locs ls hP hD hS (lv_sub hl [3, 4, 5, 0] rfl) K
        · rw [if_neg c9] at hf
          refine lv_iload_n hx hb dX6_taker_66 rfl (lv_at hl 4 rfl) ?_
          refine lv_ldc (v := (-99999:Int32)) hx hb hown (hts _ kX6_taker_0) dX6_taker_67 ?_
          refine lv_icmp_eq (tgt := 88) hx hb dX6_taker_69 (by decide) (fun c11 => ?_) (fun c11 => ?_)
          · rw [if_pos c11] at hf
            refine lv_iload hx hb dX6_taker_88 (lv_at hl 1 rfl) ?_
            refine lv_istore_n (lv' := [(2, .int x6), (5, .int (0:Int32)), (4, .int x6), (0, .ref (a0 0)), (1, .int p1), (3, .int z.2)]) hx hb dX6_taker_90 rfl hl (by decide) rfl (fun ls hl => ?_)
            obtain ⟨x12, ex12, hf⟩ := lt_some hf
            refine lv_iinc (v := x12) (lv' := [(3, .int x12), (2, .int x6), (5, .int (0:Int32)), (4, .int x6), (0, .ref (a0 0)), (1, .int p1)]) hx hb dX6_taker_91 hl (k := 5) rfl (by rw [ex12]; rfl) (by decide) rfl (fun ls hl => ?_)
            refine lv_goto (tgt := 5) hx hb dX6_taker_94 (by decide) ?_
            exact ih _ e1 (lz_l hf hz) H locs ls hP hD hS (lv_sub hl [4, 5, 1, 0] rfl) K
          · rw [if_neg c11] at hf
            refine lv_aload_n hx hb dX6_taker_72 rfl (lv_at hl 2 rfl) ?_
            refine lv_iload hx hb dX6_taker_73 (lv_at hl 1 rfl) ?_
            refine lv_iload_n hx hb dX6_taker_75 rfl (lv_at hl 3 rfl) ?_
            obtain ⟨q13, hq13, hf⟩ := bd_some hf
            refine g_callVi S (As := [.int x6, .int p1]) (gs' := [mdW G a0 v0]) (c_X6_bidOf l G a0 v0 x6 p1 hq13) (cwV 2 hts gX6_taker_X6_bidOf rfl rfl rfl hd_X6_bidOf ⟨Nat.le_of_ble_eq_true rfl, Nat.le_of_ble_eq_true rfl⟩) hK hP hD hS hA (is := [0]) rfl rfl 0 rfl rfl rfl rfl hl.1 rfl (Nat.le_of_ble_eq_true rfl) dX6_taker_76 ⟨Nat.le_of_ble_eq_true rfl, Nat.le_of_ble_eq_true rfl⟩ rfl (fun H locs hP hD hS => ?_)
            refine lv_aload_n hx hb dX6_taker_79 rfl (lv_at hl 2 rfl) ?_
            refine lv_iload_n hx hb dX6_taker_80 rfl (lv_at hl 4 rfl) ?_
            refine lv_iload_n hx hb dX6_taker_81 rfl (lv_at hl 3 rfl) ?_
            obtain ⟨q14, hq14, hf⟩ := bd_some hf
            refine g_callVi S (As := [.int z.1, .int p1]) (gs' := [mdW G a0 v0]) (c_X6_bidOf l G a0 v0 z.1 p1 hq14) (cwV 2 hts gX6_taker_X6_bidOf rfl rfl rfl hd_X6_bidOf ⟨Nat.le_of_ble_eq_true rfl, Nat.le_of_ble_eq_true rfl⟩) hK hP hD hS hA (is := [0]) rfl rfl 0 rfl rfl rfl rfl hl.1 rfl (Nat.le_of_ble_eq_true rfl) dX6_taker_82 ⟨Nat.le_of_ble_eq_true rfl, Nat.le_of_ble_eq_true rfl⟩ rfl (fun H locs hP hD hS => ?_)
            refine lv_icmp_le (tgt := 91) hx hb dX6_taker_85 (by decide) (fun c15 => ?_) (fun c15 => ?_)
            · rw [if_pos c15] at hf
              obtain ⟨x16, ex16, hf⟩ := lt_some hf
              refine lv_iinc (v := x16) (lv' := [(3, .int x16), (5, .int (0:Int32)), (4, .int x6), (0, .ref (a0 0)), (1, .int p1), (2, .int z.1)]) hx hb dX6_taker_91 hl (k := 5) rfl (by rw [ex16]; rfl) (by decide) rfl (fun ls hl => ?_)
              refine lv_goto (tgt := 5) hx hb dX6_taker_94 (by decide) ?_
              exact ih _ e1 (lz_l hf hz) H locs ls hP hD hS (lv_sub hl [3, 4, 5, 0] rfl) K
            · rw [if_neg c15] at hf
              refine lv_iload hx hb dX6_taker_88 (lv_at hl 1 rfl) ?_
              refine lv_istore_n (lv' := [(2, .int x6), (5, .int (0:Int32)), (4, .int x6), (0, .ref (a0 0)), (1, .int p1), (3, .int z.2)]) hx hb dX6_taker_90 rfl hl (by decide) rfl (fun ls hl => ?_)
              obtain ⟨x17, ex17, hf⟩ := lt_some hf
              refine lv_iinc (v := x17) (lv' := [(3, .int x17), (2, .int x6), (5, .int (0:Int32)), (4, .int x6), (0, .ref (a0 0)), (1, .int p1)]) hx hb dX6_taker_91 hl (k := 5) rfl (by rw [ex17]; rfl) (by decide) rfl (fun ls hl => ?_)
              refine lv_goto (tgt := 5) hx hb dX6_taker_94 (by decide) ?_
              exact ih _ e1 (lz_l hf hz) H locs ls hP hD hS (lv_sub hl [4, 5, 1, 0] rfl) K
      · rw [if_neg c8] at hf
        refine lv_aload_n hx hb dX6_taker_41 rfl (lv_at hl 1 rfl) ?_
        refine g_get (C := RX6) (T := TX6) (N := 15) hx hb hts iwX6_taker_X6 hown hK hP 0 0 rfl rfl rfl 1 (Nat.le_of_ble_eq_true rfl) (hts _ kX6_taker_1) (fun _ h9 => h9) rfl dX6_taker_42 ?_
        refine lv_bipush (v := (37:Int32)) hx hb dX6_taker_45 (by decide) ?_
        refine lv_iload hx hb dX6_taker_47 (lv_at hl 0 rfl) ?_
        refine lv_iadd hx hb dX6_taker_49 ?_
        obtain ⟨h18, hf⟩ := gi_some hf
        refine g_iald hx hb hK hP 0 1 0 rfl rfl rfl h18 dX6_taker_50 ?_
        refine lv_if_ne (tgt := 58) hx hb dX6_taker_51 (by decide) (fun c19 => ?_) (fun c19 => ?_)
        · rw [if_neg c19] at hf
          refine lv_iconst (v := (0:Int32)) hx hb dX6_taker_58 (by decide) ?_
          refine lv_istore (lv' := [(5, .int (0:Int32)), (4, .int x6), (0, .ref (a0 0)), (1, .int p1), (2, .int z.1), (3, .int z.2)]) hx hb dX6_taker_59 hl (by decide) rfl (fun ls hl => ?_)
          refine lv_iload hx hb dX6_taker_61 (lv_at hl 0 rfl) ?_
          refine lv_if_eq (tgt := 91) hx hb dX6_taker_63 (by decide) (fun c20 => ?_) (fun c20 => ?_)
          · rw [if_pos c20] at hf
            obtain ⟨x21, ex21, hf⟩ := lt_some hf
            refine lv_iinc (v := x21) (lv' := [(3, .int x21), (5, .int (0:Int32)), (4, .int x6), (0, .ref (a0 0)), (1, .int p1), (2, .int z.1)]) hx hb dX6_taker_91 hl (k := 5) rfl (by rw [ex21]; rfl) (by decide) rfl (fun ls hl => ?_)
            refine lv_goto (tgt := 5) hx hb dX6_taker_94 (by decide) ?_
            exact ih _ e1 (lz_l hf hz) H locs ls hP hD hS (lv_sub hl [3, 4, 5, 0] rfl) K
          · rw [if_neg c20] at hf
            refine lv_iload_n hx hb dX6_taker_66 rfl (lv_at hl 4 rfl) ?_
            refine lv_ldc (v := (-99999:Int32)) hx hb hown (hts _ kX6_taker_0) dX6_taker_67 ?_
            refine lv_icmp_eq (tgt := 88) hx hb dX6_taker_69 (by decide) (fun c22 => ?_) (fun c22 => ?_)
            · rw [if_pos c22] at hf
              refine lv_iload hx hb dX6_taker_88 (lv_at hl 1 rfl) ?_
              refine lv_istore_n (lv' := [(2, .int x6), (5, .int (0:Int32)), (4, .int x6), (0, .ref (a0 0)), (1, .int p1), (3, .int z.2)]) hx hb dX6_taker_90 rfl hl (by decide) rfl (fun ls hl => ?_)
              obtain ⟨x23, ex23, hf⟩ := lt_some hf
              refine lv_iinc (v := x23) (lv' := [(3, .int x23), (2, .int x6), (5, .int (0:Int32)), (4, .int x6), (0, .ref (a0 0)), (1, .int p1)]) hx hb dX6_taker_91 hl (k := 5) rfl (by rw [ex23]; rfl) (by decide) rfl (fun ls hl => ?_)
              refine lv_goto (tgt := 5) hx hb dX6_taker_94 (by decide) ?_
              exact ih _ e1 (lz_l hf hz) H locs ls hP hD hS (lv_sub hl [4, 5, 1, 0] rfl) K
            · rw [if_neg c22] at hf
              refine lv_aload_n hx hb dX6_taker_72 rfl (lv_at hl 2 rfl) ?_
              refine lv_iload hx hb dX6_taker_73 (lv_at hl 1 rfl) ?_
              refine lv_iload_n hx hb dX6_taker_75 rfl (lv_at hl 3 rfl) ?_
              obtain ⟨q24, hq24, hf⟩ := bd_some hf
              refine g_callVi S (As := [.int x6, .int p1]) (gs' := [mdW G a0 v0]) (c_X6_bidOf l G a0 v0 x6 p1 hq24) (cwV 2 hts gX6_taker_X6_bidOf rfl rfl rfl hd_X6_bidOf ⟨Nat.le_of_ble_eq_true rfl, Nat.le_of_ble_eq_true rfl⟩) hK hP hD hS hA (is := [0]) rfl rfl 0 rfl rfl rfl rfl hl.1 rfl (Nat.le_of_ble_eq_true rfl) dX6_taker_76 ⟨Nat.le_of_ble_eq_true rfl, Nat.le_of_ble_eq_true rfl⟩ rfl (fun H locs hP hD hS => ?_)
              refine lv_aload_n hx hb dX6_taker_79 rfl (lv_at hl 2 rfl) ?_
              refine lv_iload_n hx hb dX6_taker_80 rfl (lv_at hl 4 rfl) ?_
              refine lv_iload_n hx hb dX6_taker_81 rfl (lv_at hl 3 rfl) ?_
              obtain ⟨q25, hq25, hf⟩ := bd_some hf
              refine g_callVi S (As := [.int z.1, .int p1]) (gs' := [mdW G a0 v0]) (c_X6_bidOf l G a0 v0 z.1 p1 hq25) (cwV 2 hts gX6_taker_X6_bidOf rfl rfl rfl hd_X6_bidOf ⟨Nat.le_of_ble_eq_true rfl, Nat.le_of_ble_eq_true rfl⟩) hK hP hD hS hA (is := [0]) rfl rfl 0 rfl rfl rfl rfl hl.1 rfl (Nat.le_of_ble_eq_true rfl) dX6_taker_82 ⟨Nat.le_of_ble_eq_true rfl, Nat.le_of_ble_eq_true rfl⟩ rfl (fun H locs hP hD hS => ?_)
              refine lv_icmp_le (tgt := 91) hx hb dX6_taker_85 (by decide) (fun c26 => ?_) (fun c26 => ?_)
              · rw [if_pos c26] at hf
                obtain ⟨x27, ex27, hf⟩ := lt_some hf
                refine lv_iinc (v := x27) (lv' := [(3, .int x27), (5, .int (0:Int32)), (4, .int x6), (0, .ref (a0 0)), (1, .int p1), (2, .int z.1)]) hx hb dX6_taker_91 hl (k := 5) rfl (by rw [ex27]; rfl) (by decide) rfl (fun ls hl => ?_)
                refine lv_goto (tgt := 5) hx hb dX6_taker_94 (by decide) ?_
                exact ih _ e1 (lz_l hf hz) H locs ls hP hD hS (lv_sub hl [3, 4, 5, 0] rfl) K
              · rw [if_neg c26] at hf
                refine lv_iload hx hb dX6_taker_88 (lv_at hl 1 rfl) ?_
                refine lv_istore_n (lv' := [(2, .int x6), (5, .int (0:Int32)), (4, .int x6), (0, .ref (a0 0)), (1, .int p1), (3, .int z.2)]) hx hb dX6_taker_90 rfl hl (by decide) rfl (fun ls hl => ?_)
                obtain ⟨x28, ex28, hf⟩ := lt_some hf
                refine lv_iinc (v := x28) (lv' := [(3, .int x28), (2, .int x6), (5, .int (0:Int32)), (4, .int x6), (0, .ref (a0 0)), (1, .int p1)]) hx hb dX6_taker_91 hl (k := 5) rfl (by rw [ex28]; rfl) (by decide) rfl (fun ls hl => ?_)
                refine lv_goto (tgt := 5) hx hb dX6_taker_94 (by decide) ?_
                exact ih _ e1 (lz_l hf hz) H locs ls hP hD hS (lv_sub hl [4, 5, 1, 0] rfl) K
        · rw [if_pos c19] at hf
          refine lv_iconst (v := (1:Int32)) hx hb dX6_taker_54 (by decide) ?_
          refine lv_goto (tgt := 59) hx hb dX6_taker_55 (by decide) ?_
          refine lv_istore (lv' := [(5, .int (1:Int32)), (4, .int x6), (0, .ref (a0 0)), (1, .int p1), (2, .int z.1), (3, .int z.2)]) hx hb dX6_taker_59 hl (by decide) rfl (fun ls hl => ?_)
          refine lv_iload hx hb dX6_taker_61 (lv_at hl 0 rfl) ?_
          refine lv_if_eq (tgt := 91) hx hb dX6_taker_63 (by decide) (fun c29 => ?_) (fun c29 => ?_)
          · rw [if_pos c29] at hf
            obtain ⟨x30, ex30, hf⟩ := lt_some hf
            refine lv_iinc (v := x30) (lv' := [(3, .int x30), (5, .int (1:Int32)), (4, .int x6), (0, .ref (a0 0)), (1, .int p1), (2, .int z.1)]) hx hb dX6_taker_91 hl (k := 5) rfl (by rw [ex30]; rfl) (by decide) rfl (fun ls hl => ?_)
            refine lv_goto (tgt := 5) hx hb dX6_taker_94 (by decide) ?_
            exact ih _ e1 (lz_l hf hz) H locs ls hP hD hS (lv_sub hl [3, 4, 5, 0] rfl) K
          · rw [if_neg c29] at hf
            refine lv_iload_n hx hb dX6_taker_66 rfl (lv_at hl 4 rfl) ?_
            refine lv_ldc (v := (-99999:Int32)) hx hb hown (hts _ kX6_taker_0) dX6_taker_67 ?_
            refine lv_icmp_eq (tgt := 88) hx hb dX6_taker_69 (by decide) (fun c31 => ?_) (fun c31 => ?_)
            · rw [if_pos c31] at hf
              refine lv_iload hx hb dX6_taker_88 (lv_at hl 1 rfl) ?_
              refine lv_istore_n (lv' := [(2, .int x6), (5, .int (1:Int32)), (4, .int x6), (0, .ref (a0 0)), (1, .int p1), (3, .int z.2)]) hx hb dX6_taker_90 rfl hl (by decide) rfl (fun ls hl => ?_)
              obtain ⟨x32, ex32, hf⟩ := lt_some hf
              refine lv_iinc (v := x32) (lv' := [(3, .int x32), (2, .int x6), (5, .int (1:Int32)), (4, .int x6), (0, .ref (a0 0)), (1, .int p1)]) hx hb dX6_taker_91 hl (k := 5) rfl (by rw [ex32]; rfl) (by decide) rfl (fun ls hl => ?_)
              refine lv_goto (tgt := 5) hx hb dX6_taker_94 (by decide) ?_
              exact ih _ e1 (lz_l hf hz) H locs ls hP hD hS (lv_sub hl [4, 5, 1, 0] rfl) K
            · rw [if_neg c31] at hf
              refine lv_aload_n hx hb dX6_taker_72 rfl (lv_at hl 2 rfl) ?_
              refine lv_iload hx hb dX6_taker_73 (lv_at hl 1 rfl) ?_
              refine lv_iload_n hx hb dX6_taker_75 rfl (lv_at hl 3 rfl) ?_
              obtain ⟨q33, hq33, hf⟩ := bd_some hf
              refine g_callVi S (As := [.int x6, .int p1]) (gs' := [mdW G a0 v0]) (c_X6_bidOf l G a0 v0 x6 p1 hq33) (cwV 2 hts gX6_taker_X6_bidOf rfl rfl rfl hd_X6_bidOf ⟨Nat.le_of_ble_eq_true rfl, Nat.le_of_ble_eq_true rfl⟩) hK hP hD hS hA (is := [0]) rfl rfl 0 rfl rfl rfl rfl hl.1 rfl (Nat.le_of_ble_eq_true rfl) dX6_taker_76 ⟨Nat.le_of_ble_eq_true rfl, Nat.le_of_ble_eq_true rfl⟩ rfl (fun H locs hP hD hS => ?_)
              refine lv_aload_n hx hb dX6_taker_79 rfl (lv_at hl 2 rfl) ?_
              refine lv_iload_n hx hb dX6_taker_80 rfl (lv_at hl 4 rfl) ?_
              refine lv_iload_n hx hb dX6_taker_81 rfl (lv_at hl 3 rfl) ?_
              obtain ⟨q34, hq34, hf⟩ := bd_some hf
              refine g_callVi S (As := [.int z.1, .int p1]) (gs' := [mdW G a0 v0]) (c_X6_bidOf l G a0 v0 z.1 p1 hq34) (cwV 2 hts gX6_taker_X6_bidOf rfl rfl rfl hd_X6_bidOf ⟨Nat.le_of_ble_eq_true rfl, Nat.le_of_ble_eq_true rfl⟩) hK hP hD hS hA (is := [0]) rfl rfl 0 rfl rfl rfl rfl hl.1 rfl (Nat.le_of_ble_eq_true rfl) dX6_taker_82 ⟨Nat.le_of_ble_eq_true rfl, Nat.le_of_ble_eq_true rfl⟩ rfl (fun H locs hP hD hS => ?_)
              refine lv_icmp_le (tgt := 91) hx hb dX6_taker_85 (by decide) (fun c35 => ?_) (fun c35 => ?_)
              · rw [if_pos c35] at hf
                obtain ⟨x36, ex36, hf⟩ := lt_some hf
                refine lv_iinc (v := x36) (lv' := [(3, .int x36), (5, .int (1:Int32)), (4, .int x6), (0, .ref (a0 0)), (1, .int p1), (2, .int z.1)]) hx hb dX6_taker_91 hl (k := 5) rfl (by rw [ex36]; rfl) (by decide) rfl (fun ls hl => ?_)
                refine lv_goto (tgt := 5) hx hb dX6_taker_94 (by decide) ?_
                exact ih _ e1 (lz_l hf hz) H locs ls hP hD hS (lv_sub hl [3, 4, 5, 0] rfl) K
              · rw [if_neg c35] at hf
                refine lv_iload hx hb dX6_taker_88 (lv_at hl 1 rfl) ?_
                refine lv_istore_n (lv' := [(2, .int x6), (5, .int (1:Int32)), (4, .int x6), (0, .ref (a0 0)), (1, .int p1), (3, .int z.2)]) hx hb dX6_taker_90 rfl hl (by decide) rfl (fun ls hl => ?_)
                obtain ⟨x37, ex37, hf⟩ := lt_some hf
                refine lv_iinc (v := x37) (lv' := [(3, .int x37), (2, .int x6), (5, .int (1:Int32)), (4, .int x6), (0, .ref (a0 0)), (1, .int p1)]) hx hb dX6_taker_91 hl (k := 5) rfl (by rw [ex37]; rfl) (by decide) rfl (fun ls hl => ?_)
                refine lv_goto (tgt := 5) hx hb dX6_taker_94 (by decide) ?_
                exact ih _ e1 (lz_l hf hz) H locs ls hP hD hS (lv_sub hl [4, 5, 1, 0] rfl) K
set_option maxHeartbeats 4000000 in
set_option maxRecDepth 100000 in
theorem c_X6_taker (l : Launch) (G : uG) (a0 : Nat → Nat) (v0 : MdV) (i1 : Int32) {q : Int32 × (Unit)} (hf : f_X6_taker v0 i1 = some q) : mQ l yX6_taker wsX6_taker ({ frames := 1, cells := 0, slots := 0, locals := 22 } : Room) G [.ref (a0 0), .int i1] [mdW G a0 v0] [mdW G a0 v0] (qI G [mdW G a0 v0] q.1) := by
  unfold f_X6_taker at hf
  refine m_of (cc := cX6_taker) (maxL := 6) (ret := (some .int)) (by decide) rfl rfl (Nat.le_of_ble_eq_true rfl) ?_
  intro p e s m args below meth c A ls S hK hA hP hD hS hl
  obtain ⟨hx, hb, hml, hown, hts, hr, hlocks⟩ := id S
  have hl : lv_has ls 6 [(0, .ref (a0 0)), (1, .int i1)] := hl
  refine lv_ldc (v := (-99999:Int32)) hx hb hown (hts _ kX6_taker_0) dX6_taker_0 ?_
  refine lv_istore_n (lv' := [(2, .int (-99999:Int32)), (0, .ref (a0 0)), (1, .int i1)]) hx hb dX6_taker_2 rfl hl (by decide) rfl (fun ls hl => ?_)
  refine lv_iconst (v := (0:Int32)) hx hb dX6_taker_3 (by decide) ?_
  refine lv_istore_n (lv' := [(3, .int (0:Int32)), (2, .int (-99999:Int32)), (0, .ref (a0 0)), (1, .int i1)]) hx hb dX6_taker_4 rfl hl (by decide) rfl (fun ls hl => ?_)
  obtain ⟨e38, he38, hf⟩ := bd_some hf
  refine w_X6_taker_5 (Q := _) S hK hA G a0 v0 i1 FU _ e38 he38 _ _ _ hP hD hS (lv_sub hl [2, 3, 1, 0] rfl) (fun H locs ls hP hD hS hl => ?_)
  refine lv_iload_n hx hb dX6_taker_97 rfl (lv_at hl 2 rfl) ?_
  cases hf
  exact g_iret hx hb hr hlocks hP hS dX6_taker_98
theorem kX6_share_0 : Cond.fieldLink RX6 7 "SavingsCircleModel" "z" "[I" ∈ wsX6_share := (List.mem_cons_of_mem _ (List.mem_append_left _ (List.mem_of_getElem? (i := 0) rfl)))
theorem iwX6_share_X6 : ∀ w ∈ wsX60, w ∈ wsX6_share := fun w h => (List.mem_cons_of_mem _ (List.mem_append_right _ h))
set_option maxHeartbeats 4000000 in
set_option maxRecDepth 100000 in
theorem w_X6_share_5 {p : Program} {l : Launch} {e : Env} {s : State} {m : MethodId} {args : Array Value} {below : List Frame} {meth : Method} {c : Code} {A : Nat → Prop} {Q : State → Prop} (S : Ev p s m args meth c cX6_share 7 none yX6_share.cls wsX6_share) {G : uG} (hK : kK G s) (hA : ∀ q, s.heap.size ≤ q → A q) (_ : uG) (a0 : Nat → Nat) (v0 : MdV) (p1 : Int32) (p2 : Int32) : ∀ (n : Nat) (z : (Int32 × Int32)) (e1 : (Int32 × Int32)), lp (b_X6_share_5 v0 p1 p2) n z = some e1 → ∀ (H : Heap) (locs : List Loc) (ls : Array Slot), gP G [mdW G a0 v0] H → gD A [mdW G a0 v0] → va_S A s.heap H locs → lv_has ls 7 [(0, .ref (a0 0)), (1, .int p1), (2, .int p2), (3, .int z.1), (4, .int z.2)] → (∀ (H : Heap) (locs : List Loc) (ls : Array Slot), gP G [mdW G a0 v0] H → gD A [mdW G a0 v0] → va_S A s.heap H locs → lv_has ls 7 [(0, .ref (a0 0)), (1, .int p1), (2, .int p2), (3, .int e1.1), (4, .int e1.2)] → W p l e ({ frames := 1, cells := 0, slots := 0, locals := 21 } : Room) s m args below meth c H locs 0 0 Q (F0 m 45 ls [])) → W p l e ({ frames := 1, cells := 0, slots := 0, locals := 21 } : Room) s m args below meth c H locs 0 0 Q (F0 m 5 ls []) := by
  obtain ⟨hx, hb, hml, hown, hts, hr, hlocks⟩ := id S
  intro n
  induction n with
  | zero => intro z e1 h; cases h
  | succ n ih =>
    intro z e1 hlp H locs ls hP hD hS hl K
    obtain ⟨z9, hf, hz⟩ := lp_s hlp
    unfold b_X6_share_5 at hf
    refine lv_iload hx hb dX6_share_5 (lv_at hl 4 rfl) ?_
    refine lv_aload_n hx hb dX6_share_7 rfl (lv_at hl 0 rfl) ?_
    refine g_get (C := RX6) (T := TX6) (N := 15) hx hb hts iwX6_share_X6 hown hK hP 0 0 rfl rfl rfl 1 (Nat.le_of_ble_eq_true rfl) (hts _ kX6_share_0) (fun _ h9 => h9) rfl dX6_share_8 ?_
    refine lv_iconst (v := (0:Int32)) hx hb dX6_share_11 (by decide) ?_
    obtain ⟨h1, hf⟩ := gi_some hf
    refine g_iald hx hb hK hP 0 1 0 rfl rfl rfl h1 dX6_share_12 ?_
    refine lv_icmp_ge (tgt := 45) hx hb dX6_share_13 (by decide) (fun c2 => ?_) (fun c2 => ?_)
    · rw [if_pos c2] at hf
      have he := lz_r hf hz
      subst he
      exact K H locs ls hP hD hS (lv_sub hl [0, 1, 2, 3, 4] rfl)
    · rw [if_neg c2] at hf
      refine lv_iload_n hx hb dX6_share_16 rfl (lv_at hl 3 rfl) ?_
      refine lv_iload hx hb dX6_share_17 (lv_at hl 4 rfl) ?_
      refine lv_iload_n hx hb dX6_share_19 rfl (lv_at hl 1 rfl) ?_
      refine lv_icmp_eq (tgt := 36) hx hb dX6_share_20 (by decide) (fun c3 => ?_) (fun c3 => ?_)
      · rw [if_pos c3] at hf
        refine lv_iconst (v := (0:Int32)) hx hb dX6_share_36 (by decide) ?_
        refine lv_iadd hx hb dX6_share_37 ?_
        obtain ⟨x4, ex4, hf⟩ := lt_some hf
        refine lv_nmi ex4 ?_
        refine lv_istore_n (lv' := [(3, .int x4), (0, .ref (a0 0)), (1, .int p1), (2, .int p2), (4, .int z.2)]) hx hb dX6_share_38 rfl hl (by decide) rfl (fun ls hl => ?_)
        obtain ⟨x5, ex5, hf⟩ := lt_some hf
        refine lv_iinc (v := x5) (lv' := [(4, .int x5), (3, .int x4), (0, .ref (a0 0)), (1, .int p1), (2, .int p2)]) hx hb dX6_share_39 hl (k := 4) rfl (by rw [ex5]; rfl) (by decide) rfl (fun ls hl => ?_)
        refine lv_goto (tgt := 5) hx hb dX6_share_42 (by decide) ?_
        exact ih _ e1 (lz_l hf hz) H locs ls hP hD hS (lv_sub hl [2, 3, 4, 1, 0] rfl) K
      · rw [if_neg c3] at hf
        refine lv_aload_n hx hb dX6_share_23 rfl (lv_at hl 0 rfl) ?_
        refine lv_iload hx hb dX6_share_24 (lv_at hl 4 rfl) ?_
        obtain ⟨q6, hq6, hf⟩ := bd_some hf
        refine g_callVi S (As := [.int z.2]) (gs' := [mdW G a0 v0]) (c_X6_takesPart l G a0 v0 z.2 hq6) (cwV 1 hts gX6_share_X6_takesPart rfl rfl rfl hd_X6_takesPart ⟨Nat.le_of_ble_eq_true rfl, Nat.le_of_ble_eq_true rfl⟩) hK hP hD hS hA (is := [0]) rfl rfl 0 rfl rfl rfl rfl hl.1 rfl (Nat.le_of_ble_eq_true rfl) dX6_share_26 ⟨Nat.le_of_ble_eq_true rfl, Nat.le_of_ble_eq_true rfl⟩ rfl (fun H locs hP hD hS => ?_)
        refine lv_if_eq (tgt := 36) hx hb dX6_share_29 (by decide) (fun c7 => ?_) (fun c7 => ?_)
        · rw [if_pos c7] at hf
          refine lv_iconst (v := (0:Int32)) hx hb dX6_share_36 (by decide) ?_
          refine lv_iadd hx hb dX6_share_37 ?_
          obtain ⟨x8, ex8, hf⟩ := lt_some hf
          refine lv_nmi ex8 ?_
          refine lv_istore_n (lv' := [(3, .int x8), (0, .ref (a0 0)), (1, .int p1), (2, .int p2), (4, .int z.2)]) hx hb dX6_share_38 rfl hl (by decide) rfl (fun ls hl => ?_)
          obtain ⟨x9, ex9, hf⟩ := lt_some hf
          refine lv_iinc (v := x9) (lv' := [(4, .int x9), (3, .int x8), (0, .ref (a0 0)), (1, .int p1), (2, .int p2)]) hx hb dX6_share_39 hl (k := 4) rfl (by rw [ex9]; rfl) (by decide) rfl (fun ls hl => ?_)
          refine lv_goto (tgt := 5) hx hb dX6_share_42 (by decide) ?_
          exact ih _ e1 (lz_l hf hz) H locs ls hP hD hS (lv_sub hl [2, 3, 4, 1, 0] rfl) K
        · rw [if_neg c7] at hf
          refine lv_iconst (v := (1:Int32)) hx hb dX6_share_32 (by decide) ?_
          refine lv_goto (tgt := 37) hx hb dX6_share_33 (by decide) ?_
          refine lv_iadd hx hb dX6_share_37 ?_
          obtain ⟨x10, ex10, hf⟩ := lt_some hf
          refine lv_nmi ex10 ?_
          refine lv_istore_n (lv' := [(3, .int x10), (0, .ref (a0 0)), (1, .int p1), (2, .int p2), (4, .int z.2)]) hx hb dX6_share_38 rfl hl (by decide) rfl (fun ls hl => ?_)
          obtain ⟨x11, ex11, hf⟩ := lt_some hf
          refine lv_iinc (v := x11) (lv' := [(4, .int x11), (3, .int x10), (0, .ref (a0 0)), (1, .int p1), (2, .int p2)]) hx hb dX6_share_39 hl (k := 4) rfl (by rw [ex11]; rfl) (by decide) rfl (fun ls hl => ?_)
          refine lv_goto (tgt := 5) hx hb dX6_share_42 (by decide) ?_
          exact ih _ e1 (lz_l hf hz) H locs ls hP hD hS (lv_sub hl [2, 3, 4, 1, 0] rfl) K
set_option maxHeartbeats 4000000 in
set_option maxRecDepth 100000 in
theorem w_X6_share_61 {p : Program} {l : Launch} {e : Env} {s : State} {m : MethodId} {args : Array Value} {below : List Frame} {meth : Method} {c : Code} {A : Nat → Prop} {Q : State → Prop} (S : Ev p s m args meth c cX6_share 7 none yX6_share.cls wsX6_share) {G : uG} (hK : kK G s) (hA : ∀ q, s.heap.size ≤ q → A q) (_ : uG) (a0 : Nat → Nat) (p1 : Int32) (p2 : Int32) (p3 : Int32) (p4 : Int32) : ∀ (n : Nat) (z : (Int32 × MdV)) (e1 : (Int32 × MdV)), lp (b_X6_share_61 p1 p2 p3 p4) n z = some e1 → ∀ (H : Heap) (locs : List Loc) (ls : Array Slot), gP G [mdW G a0 z.2] H → gD A [mdW G a0 z.2] → va_S A s.heap H locs → lv_has ls 7 [(0, .ref (a0 0)), (1, .int p1), (2, .int p2), (3, .int p3), (4, .int p4), (5, .int z.1)] → (∀ (H : Heap) (locs : List Loc) (ls : Array Slot), gP G [mdW G a0 e1.2] H → gD A [mdW G a0 e1.2] → va_S A s.heap H locs → lv_has ls 7 [(0, .ref (a0 0)), (1, .int p1), (2, .int p2), (3, .int p3), (4, .int p4), (5, .int e1.1)] → W p l e ({ frames := 1, cells := 0, slots := 0, locals := 21 } : Room) s m args below meth c H locs 0 0 Q (F0 m 130 ls [])) → W p l e ({ frames := 1, cells := 0, slots := 0, locals := 21 } : Room) s m args below meth c H locs 0 0 Q (F0 m 61 ls []) := by
  obtain ⟨hx, hb, hml, hown, hts, hr, hlocks⟩ := id S
  intro n
  induction n with
  | zero => intro z e1 h; cases h
  | succ n ih =>
    intro z e1 hlp H locs ls hP hD hS hl K
    obtain ⟨z9, hf, hz⟩ := lp_s hlp
    unfold b_X6_share_61 at hf
    refine lv_iload hx hb dX6_share_61 (lv_at hl 5 rfl) ?_
    refine lv_aload_n hx hb dX6_share_63 rfl (lv_at hl 0 rfl) ?_
    refine g_get (C := RX6) (T := TX6) (N := 15) hx hb hts iwX6_share_X6 hown hK hP 0 0 rfl rfl rfl 1 (Nat.le_of_ble_eq_true rfl) (hts _ kX6_share_0) (fun _ h9 => h9) rfl dX6_share_64 ?_
    refine lv_iconst (v := (0:Int32)) hx hb dX6_share_67 (by decide) ?_
    obtain ⟨h16, hf⟩ := gi_some hf
    refine g_iald hx hb hK hP 0 1 0 rfl rfl rfl h16 dX6_share_68 ?_
    refine lv_icmp_ge (tgt := 130) hx hb dX6_share_69 (by decide) (fun c17 => ?_) (fun c17 => ?_)
    · rw [if_pos c17] at hf
      have he := lz_r hf hz
      subst he
      exact K H locs ls hP hD hS (lv_sub hl [0, 1, 2, 3, 4, 5] rfl)
    · rw [if_neg c17] at hf
      refine lv_iload hx hb dX6_share_72 (lv_at hl 5 rfl) ?_
      refine lv_iload_n hx hb dX6_share_74 rfl (lv_at hl 1 rfl) ?_
      refine lv_icmp_eq (tgt := 92) hx hb dX6_share_75 (by decide) (fun c18 => ?_) (fun c18 => ?_)
      · rw [if_pos c18] at hf
        refine lv_iconst (v := (0:Int32)) hx hb dX6_share_92 (by decide) ?_
        refine lv_istore (lv' := [(6, .int (0:Int32)), (0, .ref (a0 0)), (1, .int p1), (2, .int p2), (3, .int p3), (4, .int p4), (5, .int z.1)]) hx hb dX6_share_93 hl (by decide) rfl (fun ls hl => ?_)
        refine lv_aload_n hx hb dX6_share_95 rfl (lv_at hl 1 rfl) ?_
        refine g_get (C := RX6) (T := TX6) (N := 15) hx hb hts iwX6_share_X6 hown hK hP 0 0 rfl rfl rfl 1 (Nat.le_of_ble_eq_true rfl) (hts _ kX6_share_0) (fun _ h9 => h9) rfl dX6_share_96 ?_
        refine lv_iconst (v := (5:Int32)) hx hb dX6_share_99 (by decide) ?_
        refine lv_iload hx hb dX6_share_100 (lv_at hl 6 rfl) ?_
        refine lv_iadd hx hb dX6_share_102 ?_
        obtain ⟨x19, ex19, hf⟩ := lt_some hf
        refine lv_nmi ex19 ?_
        refine lv_dup2_11 hx hb dX6_share_103 rfl rfl ?_
        obtain ⟨h20, hf⟩ := gi_some hf
        refine g_iald hx hb hK hP 0 1 0 rfl rfl rfl h20 dX6_share_104 ?_
        refine lv_iload hx hb dX6_share_105 (lv_at hl 0 rfl) ?_
        refine lv_iadd hx hb dX6_share_107 ?_
        obtain ⟨h21, hf⟩ := gi_some hf
        obtain ⟨u22, eu22, hf⟩ := lt_some hf
        refine g_iast (gs' := [mdW G a0 u22]) hx hb hK hP hD hS 0 1 0 rfl rfl rfl h21 dX6_share_108 (by rw [eu22]; rfl) (fun H locs hP hD hS => ?_)
        refine lv_aload_n hx hb dX6_share_109 rfl (lv_at hl 1 rfl) ?_
        refine g_get (C := RX6) (T := TX6) (N := 15) hx hb hts iwX6_share_X6 hown hK hP 0 0 rfl rfl rfl 1 (Nat.le_of_ble_eq_true rfl) (hts _ kX6_share_0) (fun _ h9 => h9) rfl dX6_share_110 ?_
        refine lv_bipush (v := (77:Int32)) hx hb dX6_share_113 (by decide) ?_
        refine lv_iload hx hb dX6_share_115 (lv_at hl 6 rfl) ?_
        refine lv_iadd hx hb dX6_share_117 ?_
        obtain ⟨x23, ex23, hf⟩ := lt_some hf
        refine lv_nmi ex23 ?_
        refine lv_dup2_11 hx hb dX6_share_118 rfl rfl ?_
        obtain ⟨h24, hf⟩ := gi_some hf
        refine g_iald hx hb hK hP 0 1 0 rfl rfl rfl h24 dX6_share_119 ?_
        refine lv_iload hx hb dX6_share_120 (lv_at hl 0 rfl) ?_
        refine lv_iadd hx hb dX6_share_122 ?_
        obtain ⟨h25, hf⟩ := gi_some hf
        obtain ⟨u26, eu26, hf⟩ := lt_some hf
        refine g_iast (gs' := [mdW G a0 u26]) hx hb hK hP hD hS 0 1 0 rfl rfl rfl h25 dX6_share_123 (by rw [eu26]; rfl) (fun H locs hP hD hS => ?_)
        obtain ⟨x27, ex27, hf⟩ := lt_some hf
        refine lv_iinc (v := x27) (lv' := [(5, .int x27), (6, .int (0:Int32)), (0, .ref (a0 0)), (1, .int p1), (2, .int p2), (3, .int p3), (4, .int p4)]) hx hb dX6_share_124 hl (k := 6) rfl (by rw [ex27]; rfl) (by decide) rfl (fun ls hl => ?_)
        refine lv_goto (tgt := 61) hx hb dX6_share_127 (by decide) ?_
        exact ih _ e1 (lz_l hf hz) H locs ls hP hD hS (lv_sub hl [2, 3, 4, 5, 6, 0] rfl) K
      · rw [if_neg c18] at hf
        refine lv_aload_n hx hb dX6_share_78 rfl (lv_at hl 0 rfl) ?_
        refine lv_iload hx hb dX6_share_79 (lv_at hl 5 rfl) ?_
        obtain ⟨q28, hq28, hf⟩ := bd_some hf
        refine g_callVi S (As := [.int z.1]) (gs' := [mdW G a0 z.2]) (c_X6_takesPart l G a0 z.2 z.1 hq28) (cwV 1 hts gX6_share_X6_takesPart rfl rfl rfl hd_X6_takesPart ⟨Nat.le_of_ble_eq_true rfl, Nat.le_of_ble_eq_true rfl⟩) hK hP hD hS hA (is := [0]) rfl rfl 0 rfl rfl rfl rfl hl.1 rfl (Nat.le_of_ble_eq_true rfl) dX6_share_81 ⟨Nat.le_of_ble_eq_true rfl, Nat.le_of_ble_eq_true rfl⟩ rfl (fun H locs hP hD hS => ?_)
        refine lv_if_eq (tgt := 92) hx hb dX6_share_84 (by decide) (fun c29 => ?_) (fun c29 => ?_)
        · rw [if_pos c29] at hf
          refine lv_iconst (v := (0:Int32)) hx hb dX6_share_92 (by decide) ?_
          refine lv_istore (lv' := [(6, .int (0:Int32)), (0, .ref (a0 0)), (1, .int p1), (2, .int p2), (3, .int p3), (4, .int p4), (5, .int z.1)]) hx hb dX6_share_93 hl (by decide) rfl (fun ls hl => ?_)
          refine lv_aload_n hx hb dX6_share_95 rfl (lv_at hl 1 rfl) ?_
          refine g_get (C := RX6) (T := TX6) (N := 15) hx hb hts iwX6_share_X6 hown hK hP 0 0 rfl rfl rfl 1 (Nat.le_of_ble_eq_true rfl) (hts _ kX6_share_0) (fun _ h9 => h9) rfl dX6_share_96 ?_
          refine lv_iconst (v := (5:Int32)) hx hb dX6_share_99 (by decide) ?_
          refine lv_iload hx hb dX6_share_100 (lv_at hl 6 rfl) ?_
          refine lv_iadd hx hb dX6_share_102 ?_
          obtain ⟨x30, ex30, hf⟩ := lt_some hf
          refine lv_nmi ex30 ?_
          refine lv_dup2_11 hx hb dX6_share_103 rfl rfl ?_
          obtain ⟨h31, hf⟩ := gi_some hf
          refine g_iald hx hb hK hP 0 1 0 rfl rfl rfl h31 dX6_share_104 ?_
          refine lv_iload hx hb dX6_share_105 (lv_at hl 0 rfl) ?_
          refine lv_iadd hx hb dX6_share_107 ?_
          obtain ⟨h32, hf⟩ := gi_some hf
          obtain ⟨u33, eu33, hf⟩ := lt_some hf
          refine g_iast (gs' := [mdW G a0 u33]) hx hb hK hP hD hS 0 1 0 rfl rfl rfl h32 dX6_share_108 (by rw [eu33]; rfl) (fun H locs hP hD hS => ?_)
          refine lv_aload_n hx hb dX6_share_109 rfl (lv_at hl 1 rfl) ?_
          refine g_get (C := RX6) (T := TX6) (N := 15) hx hb hts iwX6_share_X6 hown hK hP 0 0 rfl rfl rfl 1 (Nat.le_of_ble_eq_true rfl) (hts _ kX6_share_0) (fun _ h9 => h9) rfl dX6_share_110 ?_
          refine lv_bipush (v := (77:Int32)) hx hb dX6_share_113 (by decide) ?_
          refine lv_iload hx hb dX6_share_115 (lv_at hl 6 rfl) ?_
          refine lv_iadd hx hb dX6_share_117 ?_
          obtain ⟨x34, ex34, hf⟩ := lt_some hf
          refine lv_nmi ex34 ?_
          refine lv_dup2_11 hx hb dX6_share_118 rfl rfl ?_
          obtain ⟨h35, hf⟩ := gi_some hf
          refine g_iald hx hb hK hP 0 1 0 rfl rfl rfl h35 dX6_share_119 ?_
          refine lv_iload hx hb dX6_share_120 (lv_at hl 0 rfl) ?_
          refine lv_iadd hx hb dX6_share_122 ?_
          obtain ⟨h36, hf⟩ := gi_some hf
          obtain ⟨u37, eu37, hf⟩ := lt_some hf
          refine g_iast (gs' := [mdW G a0 u37]) hx hb hK hP hD hS 0 1 0 rfl rfl rfl h36 dX6_share_123 (by rw [eu37]; rfl) (fun H locs hP hD hS => ?_)
          obtain ⟨x38, ex38, hf⟩ := lt_some hf
          refine lv_iinc (v := x38) (lv' := [(5, .int x38), (6, .int (0:Int32)), (0, .ref (a0 0)), (1, .int p1), (2, .int p2), (3, .int p3), (4, .int p4)]) hx hb dX6_share_124 hl (k := 6) rfl (by rw [ex38]; rfl) (by decide) rfl (fun ls hl => ?_)
          refine lv_goto (tgt := 61) hx hb dX6_share_127 (by decide) ?_
          exact ih _ e1 (lz_l hf hz) H locs ls hP hD hS (lv_sub hl [2, 3, 4, 5, 6, 0] rfl) K
        · rw [if_neg c29] at hf
          refine lv_iload hx hb dX6_share_87 (lv_at hl 4 rfl) ?_
          refine lv_goto (tgt := 93) hx hb dX6_share_89 (by decide) ?_
          refine lv_istore (lv' := [(6, .int p4), (0, .ref (a0 0)), (1, .int p1), (2, .int p2), (3, .int p3), (4, .int p4), (5, .int z.1)]) hx hb dX6_share_93 hl (by decide) rfl (fun ls hl => ?_)
          refine lv_aload_n hx hb dX6_share_95 rfl (lv_at hl 1 rfl) ?_
          refine g_get (C := RX6) (T := TX6) (N := 15) hx hb hts iwX6_share_X6 hown hK hP 0 0 rfl rfl rfl 1 (Nat.le_of_ble_eq_true rfl) (hts _ kX6_share_0) (fun _ h9 => h9) rfl dX6_share_96 ?_
          refine lv_iconst (v := (5:Int32)) hx hb dX6_share_99 (by decide) ?_
          refine lv_iload hx hb dX6_share_100 (lv_at hl 6 rfl) ?_
          refine lv_iadd hx hb dX6_share_102 ?_
          obtain ⟨x39, ex39, hf⟩ := lt_some hf
          refine lv_nmi ex39 ?_
          refine lv_dup2_11 hx hb dX6_share_103 rfl rfl ?_
          obtain ⟨h40, hf⟩ := gi_some hf
          refine g_iald hx hb hK hP 0 1 0 rfl rfl rfl h40 dX6_share_104 ?_
          refine lv_iload hx hb dX6_share_105 (lv_at hl 0 rfl) ?_
          refine lv_iadd hx hb dX6_share_107 ?_
          obtain ⟨h41, hf⟩ := gi_some hf
          obtain ⟨u42, eu42, hf⟩ := lt_some hf
          refine g_iast (gs' := [mdW G a0 u42]) hx hb hK hP hD hS 0 1 0 rfl rfl rfl h41 dX6_share_108 (by rw [eu42]; rfl) (fun H locs hP hD hS => ?_)
          refine lv_aload_n hx hb dX6_share_109 rfl (lv_at hl 1 rfl) ?_
          refine g_get (C := RX6) (T := TX6) (N := 15) hx hb hts iwX6_share_X6 hown hK hP 0 0 rfl rfl rfl 1 (Nat.le_of_ble_eq_true rfl) (hts _ kX6_share_0) (fun _ h9 => h9) rfl dX6_share_110 ?_
          refine lv_bipush (v := (77:Int32)) hx hb dX6_share_113 (by decide) ?_
          refine lv_iload hx hb dX6_share_115 (lv_at hl 6 rfl) ?_
          refine lv_iadd hx hb dX6_share_117 ?_
          obtain ⟨x43, ex43, hf⟩ := lt_some hf
          refine lv_nmi ex43 ?_
          refine lv_dup2_11 hx hb dX6_share_118 rfl rfl ?_
          obtain ⟨h44, hf⟩ := gi_some hf
          refine g_iald hx hb hK hP 0 1 0 rfl rfl rfl h44 dX6_share_119 ?_
          refine lv_iload hx hb dX6_share_120 (lv_at hl 0 rfl) ?_
          refine lv_iadd hx hb dX6_share_122 ?_
          obtain ⟨h45, hf⟩ := gi_some hf
          obtain ⟨u46, eu46, hf⟩ := lt_some hf
          refine g_iast (gs' := [mdW G a0 u46]) hx hb hK hP hD hS 0 1 0 rfl rfl rfl h45 dX6_share_123 (by rw [eu46]; rfl) (fun H locs hP hD hS => ?_)
          obtain ⟨x47, ex47, hf⟩ := lt_some hf
          refine lv_iinc (v := x47) (lv' := [(5, .int x47), (6, .int p4), (0, .ref (a0 0)), (1, .int p1), (2, .int p2), (3, .int p3), (4, .int p4)]) hx hb dX6_share_124 hl (k := 6) rfl (by rw [ex47]; rfl) (by decide) rfl (fun ls hl => ?_)
          refine lv_goto (tgt := 61) hx hb dX6_share_127 (by decide) ?_
          exact ih _ e1 (lz_l hf hz) H locs ls hP hD hS (lv_sub hl [2, 3, 4, 5, 6, 0] rfl) K
set_option maxHeartbeats 4000000 in
set_option maxRecDepth 100000 in
theorem c_X6_share (l : Launch) (G : uG) (a0 : Nat → Nat) (v0 : MdV) (i1 : Int32) (i2 : Int32) {q : Unit × (MdV)} (hf : f_X6_share v0 i1 i2 = some q) : mQ l yX6_share wsX6_share ({ frames := 1, cells := 0, slots := 0, locals := 21 } : Room) G [.ref (a0 0), .int i1, .int i2] [mdW G a0 v0] [mdW G a0 q.2] (qV G [mdW G a0 q.2] q.1) := by
  unfold f_X6_share at hf
  refine m_of (cc := cX6_share) (maxL := 7) (ret := none) (by decide) rfl rfl (Nat.le_of_ble_eq_true rfl) ?_
  intro p e s m args below meth c A ls S hK hA hP hD hS hl
  obtain ⟨hx, hb, hml, hown, hts, hr, hlocks⟩ := id S
  have hl : lv_has ls 7 [(0, .ref (a0 0)), (1, .int i1), (2, .int i2)] := hl
  refine lv_iconst (v := (0:Int32)) hx hb dX6_share_0 (by decide) ?_
  refine lv_istore_n (lv' := [(3, .int (0:Int32)), (0, .ref (a0 0)), (1, .int i1), (2, .int i2)]) hx hb dX6_share_1 rfl hl (by decide) rfl (fun ls hl => ?_)
  refine lv_iconst (v := (0:Int32)) hx hb dX6_share_2 (by decide) ?_
  refine lv_istore (lv' := [(4, .int (0:Int32)), (3, .int (0:Int32)), (0, .ref (a0 0)), (1, .int i1), (2, .int i2)]) hx hb dX6_share_3 hl (by decide) rfl (fun ls hl => ?_)
  obtain ⟨e12, he12, hf⟩ := bd_some hf
  refine w_X6_share_5 (Q := _) S hK hA G a0 v0 i1 i2 FU _ e12 he12 _ _ _ hP hD hS (lv_sub hl [2, 3, 4, 1, 0] rfl) (fun H locs ls hP hD hS hl => ?_)
  refine lv_iload_n hx hb dX6_share_45 rfl (lv_at hl 3 rfl) ?_
  refine lv_if_ne (tgt := 53) hx hb dX6_share_46 (by decide) (fun c13 => ?_) (fun c13 => ?_)
  · rw [if_neg c13] at hf
    refine lv_iload_n hx hb dX6_share_53 rfl (lv_at hl 2 rfl) ?_
    refine lv_iload_n hx hb dX6_share_54 rfl (lv_at hl 3 rfl) ?_
    obtain ⟨h14, hf⟩ := gz_some hf
    refine lv_idiv hx hb dX6_share_55 h14 ?_
    obtain ⟨x15, ex15, hf⟩ := lt_some hf
    refine lv_nmi ex15 ?_
    refine lv_istore (lv' := [(4, .int x15), (0, .ref (a0 0)), (1, .int i1), (2, .int i2), (3, .int e12.1)]) hx hb dX6_share_56 hl (by decide) rfl (fun ls hl => ?_)
    refine lv_iconst (v := (0:Int32)) hx hb dX6_share_58 (by decide) ?_
    refine lv_istore (lv' := [(5, .int (0:Int32)), (4, .int x15), (0, .ref (a0 0)), (1, .int i1), (2, .int i2), (3, .int e12.1)]) hx hb dX6_share_59 hl (by decide) rfl (fun ls hl => ?_)
    obtain ⟨e48, he48, hf⟩ := bd_some hf
    refine w_X6_share_61 (Q := _) S hK hA G a0 i1 i2 e12.1 x15 FU _ e48 he48 _ _ _ hP hD hS (lv_sub hl [2, 3, 4, 5, 1, 0] rfl) (fun H locs ls hP hD hS hl => ?_)
    refine lv_aload_n hx hb dX6_share_130 rfl (lv_at hl 0 rfl) ?_
    refine g_get (C := RX6) (T := TX6) (N := 15) hx hb hts iwX6_share_X6 hown hK hP 0 0 rfl rfl rfl 1 (Nat.le_of_ble_eq_true rfl) (hts _ kX6_share_0) (fun _ h9 => h9) rfl dX6_share_131 ?_
    refine lv_iconst (v := (3:Int32)) hx hb dX6_share_134 (by decide) ?_
    refine lv_dup2_11 hx hb dX6_share_135 rfl rfl ?_
    obtain ⟨h49, hf⟩ := gi_some hf
    refine g_iald hx hb hK hP 0 1 0 rfl rfl rfl h49 dX6_share_136 ?_
    refine lv_iload_n hx hb dX6_share_137 rfl (lv_at hl 2 rfl) ?_
    refine lv_iload hx hb dX6_share_138 (lv_at hl 4 rfl) ?_
    refine lv_iload_n hx hb dX6_share_140 rfl (lv_at hl 3 rfl) ?_
    refine lv_imul hx hb dX6_share_141 ?_
    refine lv_isub hx hb dX6_share_142 ?_
    refine lv_iadd hx hb dX6_share_143 ?_
    obtain ⟨x50, ex50, hf⟩ := lt_some hf
    refine lv_nmi ex50 ?_
    obtain ⟨h51, hf⟩ := gi_some hf
    obtain ⟨u52, eu52, hf⟩ := lt_some hf
    refine g_iast (gs' := [mdW G a0 u52]) hx hb hK hP hD hS 0 1 0 rfl rfl rfl h51 dX6_share_144 (by rw [eu52]; rfl) (fun H locs hP hD hS => ?_)
    cases hf
    exact g_vret hx hb hr hlocks hP hS dX6_share_145
  · rw [if_pos c13] at hf
    refine lv_iconst (v := (0:Int32)) hx hb dX6_share_49 (by decide) ?_
    refine lv_goto (tgt := 56) hx hb dX6_share_50 (by decide) ?_
    refine lv_istore (lv' := [(4, .int (0:Int32)), (0, .ref (a0 0)), (1, .int i1), (2, .int i2), (3, .int e12.1)]) hx hb dX6_share_56 hl (by decide) rfl (fun ls hl => ?_)
    refine lv_iconst (v := (0:Int32)) hx hb dX6_share_58 (by decide) ?_
    refine lv_istore (lv' := [(5, .int (0:Int32)), (4, .int (0:Int32)), (0, .ref (a0 0)), (1, .int i1), (2, .int i2), (3, .int e12.1)]) hx hb dX6_share_59 hl (by decide) rfl (fun ls hl => ?_)
    obtain ⟨e53, he53, hf⟩ := bd_some hf
    refine w_X6_share_61 (Q := _) S hK hA G a0 i1 i2 e12.1 (0:Int32) FU _ e53 he53 _ _ _ hP hD hS (lv_sub hl [2, 3, 4, 5, 1, 0] rfl) (fun H locs ls hP hD hS hl => ?_)
    refine lv_aload_n hx hb dX6_share_130 rfl (lv_at hl 0 rfl) ?_
    refine g_get (C := RX6) (T := TX6) (N := 15) hx hb hts iwX6_share_X6 hown hK hP 0 0 rfl rfl rfl 1 (Nat.le_of_ble_eq_true rfl) (hts _ kX6_share_0) (fun _ h9 => h9) rfl dX6_share_131 ?_
    refine lv_iconst (v := (3:Int32)) hx hb dX6_share_134 (by decide) ?_
    refine lv_dup2_11 hx hb dX6_share_135 rfl rfl ?_
    obtain ⟨h54, hf⟩ := gi_some hf
    refine g_iald hx hb hK hP 0 1 0 rfl rfl rfl h54 dX6_share_136 ?_
    refine lv_iload_n hx hb dX6_share_137 rfl (lv_at hl 2 rfl) ?_
    refine lv_iload hx hb dX6_share_138 (lv_at hl 4 rfl) ?_
    refine lv_iload_n hx hb dX6_share_140 rfl (lv_at hl 3 rfl) ?_
    refine lv_imul hx hb dX6_share_141 ?_
    refine lv_isub hx hb dX6_share_142 ?_
    refine lv_iadd hx hb dX6_share_143 ?_
    obtain ⟨x55, ex55, hf⟩ := lt_some hf
    refine lv_nmi ex55 ?_
    obtain ⟨h56, hf⟩ := gi_some hf
    obtain ⟨u57, eu57, hf⟩ := lt_some hf
    refine g_iast (gs' := [mdW G a0 u57]) hx hb hK hP hD hS 0 1 0 rfl rfl rfl h56 dX6_share_144 (by rw [eu57]; rfl) (fun H locs hP hD hS => ?_)
    cases hf
    exact g_vret hx hb hr hlocks hP hS dX6_share_145
theorem kX6_takeRest_0 : Cond.fieldLink RX6 7 "SavingsCircleModel" "z" "[I" ∈ wsX6_takeRest := (List.mem_cons_of_mem _ (List.mem_append_left _ (List.mem_of_getElem? (i := 0) rfl)))
theorem iwX6_takeRest_X6 : ∀ w ∈ wsX60, w ∈ wsX6_takeRest := fun w h => (List.mem_cons_of_mem _ (List.mem_append_right _ h))
set_option maxHeartbeats 4000000 in
set_option maxRecDepth 100000 in
theorem w_X6_takeRest_5 {p : Program} {l : Launch} {e : Env} {s : State} {m : MethodId} {args : Array Value} {below : List Frame} {meth : Method} {c : Code} {A : Nat → Prop} {Q : State → Prop} (S : Ev p s m args meth c cX6_takeRest 7 none yX6_takeRest.cls wsX6_takeRest) {G : uG} (hK : kK G s) (hA : ∀ q, s.heap.size ≤ q → A q) (_ : uG) (a0 : Nat → Nat) (p1 : Int32) (p2 : Int32) : ∀ (n : Nat) (z : (Int32 × Int32 × MdV)) (e1 : (Int32 × Int32 × MdV)), lp (b_X6_takeRest_5 p1 p2) n z = some e1 → ∀ (H : Heap) (locs : List Loc) (ls : Array Slot), gP G [mdW G a0 z.2.2] H → gD A [mdW G a0 z.2.2] → va_S A s.heap H locs → lv_has ls 7 [(0, .ref (a0 0)), (1, .int p1), (2, .int p2), (3, .int z.1), (4, .int z.2.1)] → (∀ (H : Heap) (locs : List Loc) (ls : Array Slot), gP G [mdW G a0 e1.2.2] H → gD A [mdW G a0 e1.2.2] → va_S A s.heap H locs → lv_has ls 7 [(0, .ref (a0 0)), (1, .int p1), (2, .int p2), (3, .int e1.1), (4, .int e1.2.1)] → W p l e ({ frames := 0, cells := 0, slots := 0, locals := 0 } : Room) s m args below meth c H locs 0 0 Q (F0 m 92 ls [])) → W p l e ({ frames := 0, cells := 0, slots := 0, locals := 0 } : Room) s m args below meth c H locs 0 0 Q (F0 m 5 ls []) := by
  obtain ⟨hx, hb, hml, hown, hts, hr, hlocks⟩ := id S
  intro n
  induction n with
  | zero => intro z e1 h; cases h
  | succ n ih =>
    intro z e1 hlp H locs ls hP hD hS hl K
    obtain ⟨z9, hf, hz⟩ := lp_s hlp
    unfold b_X6_takeRest_5 at hf
    refine lv_iload hx hb dX6_takeRest_5 (lv_at hl 4 rfl) ?_
    refine lv_aload_n hx hb dX6_takeRest_7 rfl (lv_at hl 0 rfl) ?_
    refine g_get (C := RX6) (T := TX6) (N := 15) hx hb hts iwX6_takeRest_X6 hown hK hP 0 0 rfl rfl rfl 1 (Nat.le_of_ble_eq_true rfl) (hts _ kX6_takeRest_0) (fun _ h9 => h9) rfl dX6_takeRest_8 ?_
    refine lv_iconst (v := (0:Int32)) hx hb dX6_takeRest_11 (by decide) ?_
    obtain ⟨h1, hf⟩ := gi_some hf
    refine g_iald hx hb hK hP 0 1 0 rfl rfl rfl h1 dX6_takeRest_12 ?_
    refine lv_icmp_ge (tgt := 92) hx hb dX6_takeRest_13 (by decide) (fun c2 => ?_) (fun c2 => ?_)
    · rw [if_pos c2] at hf
      have he := lz_r hf hz
      subst he
      exact K H locs ls hP hD hS (lv_sub hl [0, 1, 2, 3, 4] rfl)
    · rw [if_neg c2] at hf
      refine lv_aload_n hx hb dX6_takeRest_16 rfl (lv_at hl 0 rfl) ?_
      refine g_get (C := RX6) (T := TX6) (N := 15) hx hb hts iwX6_takeRest_X6 hown hK hP 0 0 rfl rfl rfl 1 (Nat.le_of_ble_eq_true rfl) (hts _ kX6_takeRest_0) (fun _ h9 => h9) rfl dX6_takeRest_17 ?_
      refine lv_bipush (v := (93:Int32)) hx hb dX6_takeRest_20 (by decide) ?_
      refine lv_bipush (v := (8:Int32)) hx hb dX6_takeRest_22 (by decide) ?_
      refine lv_iload_n hx hb dX6_takeRest_24 rfl (lv_at hl 1 rfl) ?_
      refine lv_imul hx hb dX6_takeRest_25 ?_
      refine lv_iadd hx hb dX6_takeRest_26 ?_
      refine lv_iload hx hb dX6_takeRest_27 (lv_at hl 4 rfl) ?_
      refine lv_iadd hx hb dX6_takeRest_29 ?_
      obtain ⟨h3, hf⟩ := gi_some hf
      refine g_iald hx hb hK hP 0 1 0 rfl rfl rfl h3 dX6_takeRest_30 ?_
      obtain ⟨x4, ex4, hf⟩ := lt_some hf
      refine lv_nmi ex4 ?_
      refine lv_istore (lv' := [(5, .int x4), (0, .ref (a0 0)), (1, .int p1), (2, .int p2), (3, .int z.1), (4, .int z.2.1)]) hx hb dX6_takeRest_31 hl (by decide) rfl (fun ls hl => ?_)
      refine lv_iload hx hb dX6_takeRest_33 (lv_at hl 0 rfl) ?_
      refine lv_iload_n hx hb dX6_takeRest_35 rfl (lv_at hl 4 rfl) ?_
      refine lv_icmp_ge (tgt := 44) hx hb dX6_takeRest_36 (by decide) (fun c5 => ?_) (fun c5 => ?_)
      · rw [if_pos c5] at hf
        refine lv_iload_n hx hb dX6_takeRest_44 rfl (lv_at hl 4 rfl) ?_
        refine lv_istore (lv' := [(6, .int z.1), (5, .int x4), (0, .ref (a0 0)), (1, .int p1), (2, .int p2), (3, .int z.1), (4, .int z.2.1)]) hx hb dX6_takeRest_45 hl (by decide) rfl (fun ls hl => ?_)
        refine lv_aload_n hx hb dX6_takeRest_47 rfl (lv_at hl 2 rfl) ?_
        refine g_get (C := RX6) (T := TX6) (N := 15) hx hb hts iwX6_takeRest_X6 hown hK hP 0 0 rfl rfl rfl 1 (Nat.le_of_ble_eq_true rfl) (hts _ kX6_takeRest_0) (fun _ h9 => h9) rfl dX6_takeRest_48 ?_
        refine lv_bipush (v := (93:Int32)) hx hb dX6_takeRest_51 (by decide) ?_
        refine lv_bipush (v := (8:Int32)) hx hb dX6_takeRest_53 (by decide) ?_
        refine lv_iload_n hx hb dX6_takeRest_55 rfl (lv_at hl 3 rfl) ?_
        refine lv_imul hx hb dX6_takeRest_56 ?_
        refine lv_iadd hx hb dX6_takeRest_57 ?_
        refine lv_iload hx hb dX6_takeRest_58 (lv_at hl 6 rfl) ?_
        refine lv_iadd hx hb dX6_takeRest_60 ?_
        obtain ⟨x6, ex6, hf⟩ := lt_some hf
        refine lv_nmi ex6 ?_
        refine lv_dup2_11 hx hb dX6_takeRest_61 rfl rfl ?_
        obtain ⟨h7, hf⟩ := gi_some hf
        refine g_iald hx hb hK hP 0 1 0 rfl rfl rfl h7 dX6_takeRest_62 ?_
        refine lv_iload hx hb dX6_takeRest_63 (lv_at hl 0 rfl) ?_
        refine lv_isub hx hb dX6_takeRest_65 ?_
        obtain ⟨h8, hf⟩ := gi_some hf
        obtain ⟨u9, eu9, hf⟩ := lt_some hf
        refine g_iast (gs' := [mdW G a0 u9]) hx hb hK hP hD hS 0 1 0 rfl rfl rfl h8 dX6_takeRest_66 (by rw [eu9]; rfl) (fun H locs hP hD hS => ?_)
        refine lv_aload_n hx hb dX6_takeRest_67 rfl (lv_at hl 2 rfl) ?_
        refine g_get (C := RX6) (T := TX6) (N := 15) hx hb hts iwX6_takeRest_X6 hown hK hP 0 0 rfl rfl rfl 1 (Nat.le_of_ble_eq_true rfl) (hts _ kX6_takeRest_0) (fun _ h9 => h9) rfl dX6_takeRest_68 ?_
        refine lv_iconst (v := (5:Int32)) hx hb dX6_takeRest_71 (by decide) ?_
        refine lv_iload hx hb dX6_takeRest_72 (lv_at hl 6 rfl) ?_
        refine lv_iadd hx hb dX6_takeRest_74 ?_
        obtain ⟨x10, ex10, hf⟩ := lt_some hf
        refine lv_nmi ex10 ?_
        refine lv_dup2_11 hx hb dX6_takeRest_75 rfl rfl ?_
        obtain ⟨h11, hf⟩ := gi_some hf
        refine g_iald hx hb hK hP 0 1 0 rfl rfl rfl h11 dX6_takeRest_76 ?_
        refine lv_iload hx hb dX6_takeRest_77 (lv_at hl 0 rfl) ?_
        refine lv_iadd hx hb dX6_takeRest_79 ?_
        obtain ⟨h12, hf⟩ := gi_some hf
        obtain ⟨u13, eu13, hf⟩ := lt_some hf
        refine g_iast (gs' := [mdW G a0 u13]) hx hb hK hP hD hS 0 1 0 rfl rfl rfl h12 dX6_takeRest_80 (by rw [eu13]; rfl) (fun H locs hP hD hS => ?_)
        refine lv_iload_n hx hb dX6_takeRest_81 rfl (lv_at hl 5 rfl) ?_
        refine lv_iload hx hb dX6_takeRest_82 (lv_at hl 0 rfl) ?_
        refine lv_isub hx hb dX6_takeRest_84 ?_
        obtain ⟨x14, ex14, hf⟩ := lt_some hf
        refine lv_nmi ex14 ?_
        refine lv_istore_n (lv' := [(3, .int x14), (6, .int z.1), (5, .int x4), (0, .ref (a0 0)), (1, .int p1), (2, .int p2), (4, .int z.2.1)]) hx hb dX6_takeRest_85 rfl hl (by decide) rfl (fun ls hl => ?_)
        obtain ⟨x15, ex15, hf⟩ := lt_some hf
        refine lv_iinc (v := x15) (lv' := [(4, .int x15), (3, .int x14), (6, .int z.1), (5, .int x4), (0, .ref (a0 0)), (1, .int p1), (2, .int p2)]) hx hb dX6_takeRest_86 hl (k := 6) rfl (by rw [ex15]; rfl) (by decide) rfl (fun ls hl => ?_)
        refine lv_goto (tgt := 5) hx hb dX6_takeRest_89 (by decide) ?_
        exact ih _ e1 (lz_l hf hz) H locs ls hP hD hS (lv_sub hl [4, 5, 6, 1, 0] rfl) K
      · rw [if_neg c5] at hf
        refine lv_iload hx hb dX6_takeRest_39 (lv_at hl 0 rfl) ?_
        refine lv_goto (tgt := 45) hx hb dX6_takeRest_41 (by decide) ?_
        refine lv_istore (lv' := [(6, .int x4), (5, .int x4), (0, .ref (a0 0)), (1, .int p1), (2, .int p2), (3, .int z.1), (4, .int z.2.1)]) hx hb dX6_takeRest_45 hl (by decide) rfl (fun ls hl => ?_)
        refine lv_aload_n hx hb dX6_takeRest_47 rfl (lv_at hl 2 rfl) ?_
        refine g_get (C := RX6) (T := TX6) (N := 15) hx hb hts iwX6_takeRest_X6 hown hK hP 0 0 rfl rfl rfl 1 (Nat.le_of_ble_eq_true rfl) (hts _ kX6_takeRest_0) (fun _ h9 => h9) rfl dX6_takeRest_48 ?_
        refine lv_bipush (v := (93:Int32)) hx hb dX6_takeRest_51 (by decide) ?_
        refine lv_bipush (v := (8:Int32)) hx hb dX6_takeRest_53 (by decide) ?_
        refine lv_iload_n hx hb dX6_takeRest_55 rfl (lv_at hl 3 rfl) ?_
        refine lv_imul hx hb dX6_takeRest_56 ?_
        refine lv_iadd hx hb dX6_takeRest_57 ?_
        refine lv_iload hx hb dX6_takeRest_58 (lv_at hl 6 rfl) ?_
        refine lv_iadd hx hb dX6_takeRest_60 ?_
        obtain ⟨x16, ex16, hf⟩ := lt_some hf
        refine lv_nmi ex16 ?_
        refine lv_dup2_11 hx hb dX6_takeRest_61 rfl rfl ?_
        obtain ⟨h17, hf⟩ := gi_some hf
        refine g_iald hx hb hK hP 0 1 0 rfl rfl rfl h17 dX6_takeRest_62 ?_
        refine lv_iload hx hb dX6_takeRest_63 (lv_at hl 0 rfl) ?_
        refine lv_isub hx hb dX6_takeRest_65 ?_
        obtain ⟨h18, hf⟩ := gi_some hf
        obtain ⟨u19, eu19, hf⟩ := lt_some hf
        refine g_iast (gs' := [mdW G a0 u19]) hx hb hK hP hD hS 0 1 0 rfl rfl rfl h18 dX6_takeRest_66 (by rw [eu19]; rfl) (fun H locs hP hD hS => ?_)
        refine lv_aload_n hx hb dX6_takeRest_67 rfl (lv_at hl 2 rfl) ?_
        refine g_get (C := RX6) (T := TX6) (N := 15) hx hb hts iwX6_takeRest_X6 hown hK hP 0 0 rfl rfl rfl 1 (Nat.le_of_ble_eq_true rfl) (hts _ kX6_takeRest_0) (fun _ h9 => h9) rfl dX6_takeRest_68 ?_
        refine lv_iconst (v := (5:Int32)) hx hb dX6_takeRest_71 (by decide) ?_
        refine lv_iload hx hb dX6_takeRest_72 (lv_at hl 6 rfl) ?_
        refine lv_iadd hx hb dX6_takeRest_74 ?_
        obtain ⟨x20, ex20, hf⟩ := lt_some hf
        refine lv_nmi ex20 ?_
        refine lv_dup2_11 hx hb dX6_takeRest_75 rfl rfl ?_
        obtain ⟨h21, hf⟩ := gi_some hf
        refine g_iald hx hb hK hP 0 1 0 rfl rfl rfl h21 dX6_takeRest_76 ?_
        refine lv_iload hx hb dX6_takeRest_77 (lv_at hl 0 rfl) ?_
        refine lv_iadd hx hb dX6_takeRest_79 ?_
        obtain ⟨h22, hf⟩ := gi_some hf
        obtain ⟨u23, eu23, hf⟩ := lt_some hf
        refine g_iast (gs' := [mdW G a0 u23]) hx hb hK hP hD hS 0 1 0 rfl rfl rfl h22 dX6_takeRest_80 (by rw [eu23]; rfl) (fun H locs hP hD hS => ?_)
        refine lv_iload_n hx hb dX6_takeRest_81 rfl (lv_at hl 5 rfl) ?_
        refine lv_iload hx hb dX6_takeRest_82 (lv_at hl 0 rfl) ?_
        refine lv_isub hx hb dX6_takeRest_84 ?_
        obtain ⟨x24, ex24, hf⟩ := lt_some hf
        refine lv_nmi ex24 ?_
        refine lv_istore_n (lv' := [(3, .int x24), (6, .int x4), (5, .int x4), (0, .ref (a0 0)), (1, .int p1), (2, .int p2), (4, .int z.2.1)]) hx hb dX6_takeRest_85 rfl hl (by decide) rfl (fun ls hl => ?_)
        obtain ⟨x25, ex25, hf⟩ := lt_some hf
        refine lv_iinc (v := x25) (lv' := [(4, .int x25), (3, .int x24), (6, .int x4), (5, .int x4), (0, .ref (a0 0)), (1, .int p1), (2, .int p2)]) hx hb dX6_takeRest_86 hl (k := 6) rfl (by rw [ex25]; rfl) (by decide) rfl (fun ls hl => ?_)
        refine lv_goto (tgt := 5) hx hb dX6_takeRest_89 (by decide) ?_
        exact ih _ e1 (lz_l hf hz) H locs ls hP hD hS (lv_sub hl [4, 5, 6, 1, 0] rfl) K
set_option maxHeartbeats 4000000 in
set_option maxRecDepth 100000 in
theorem c_X6_takeRest (l : Launch) (G : uG) (a0 : Nat → Nat) (v0 : MdV) (i1 : Int32) (i2 : Int32) {q : Unit × (MdV)} (hf : f_X6_takeRest v0 i1 i2 = some q) : mQ l yX6_takeRest wsX6_takeRest ({ frames := 0, cells := 0, slots := 0, locals := 0 } : Room) G [.ref (a0 0), .int i1, .int i2] [mdW G a0 v0] [mdW G a0 q.2] (qV G [mdW G a0 q.2] q.1) := by
  unfold f_X6_takeRest at hf
  refine m_of (cc := cX6_takeRest) (maxL := 7) (ret := none) (by decide) rfl rfl (Nat.le_of_ble_eq_true rfl) ?_
  intro p e s m args below meth c A ls S hK hA hP hD hS hl
  obtain ⟨hx, hb, hml, hown, hts, hr, hlocks⟩ := id S
  have hl : lv_has ls 7 [(0, .ref (a0 0)), (1, .int i1), (2, .int i2)] := hl
  refine lv_iload_n hx hb dX6_takeRest_0 rfl (lv_at hl 2 rfl) ?_
  refine lv_istore_n (lv' := [(3, .int i2), (0, .ref (a0 0)), (1, .int i1), (2, .int i2)]) hx hb dX6_takeRest_1 rfl hl (by decide) rfl (fun ls hl => ?_)
  refine lv_iconst (v := (0:Int32)) hx hb dX6_takeRest_2 (by decide) ?_
  refine lv_istore (lv' := [(4, .int (0:Int32)), (3, .int i2), (0, .ref (a0 0)), (1, .int i1), (2, .int i2)]) hx hb dX6_takeRest_3 hl (by decide) rfl (fun ls hl => ?_)
  obtain ⟨e26, he26, hf⟩ := bd_some hf
  refine w_X6_takeRest_5 (Q := _) S hK hA G a0 i1 i2 FU _ e26 he26 _ _ _ hP hD hS (lv_sub hl [2, 3, 4, 1, 0] rfl) (fun H locs ls hP hD hS hl => ?_)
  refine lv_aload_n hx hb dX6_takeRest_92 rfl (lv_at hl 0 rfl) ?_
  refine g_get (C := RX6) (T := TX6) (N := 15) hx hb hts iwX6_takeRest_X6 hown hK hP 0 0 rfl rfl rfl 1 (Nat.le_of_ble_eq_true rfl) (hts _ kX6_takeRest_0) (fun _ h9 => h9) rfl dX6_takeRest_93 ?_
  refine lv_iconst (v := (5:Int32)) hx hb dX6_takeRest_96 (by decide) ?_
  refine lv_iload_n hx hb dX6_takeRest_97 rfl (lv_at hl 1 rfl) ?_
  refine lv_iadd hx hb dX6_takeRest_98 ?_
  obtain ⟨x27, ex27, hf⟩ := lt_some hf
  refine lv_nmi ex27 ?_
  refine lv_dup2_11 hx hb dX6_takeRest_99 rfl rfl ?_
  obtain ⟨h28, hf⟩ := gi_some hf
  refine g_iald hx hb hK hP 0 1 0 rfl rfl rfl h28 dX6_takeRest_100 ?_
  refine lv_iload_n hx hb dX6_takeRest_101 rfl (lv_at hl 3 rfl) ?_
  refine lv_iadd hx hb dX6_takeRest_102 ?_
  obtain ⟨h29, hf⟩ := gi_some hf
  obtain ⟨u30, eu30, hf⟩ := lt_some hf
  refine g_iast (gs' := [mdW G a0 u30]) hx hb hK hP hD hS 0 1 0 rfl rfl rfl h29 dX6_takeRest_103 (by rw [eu30]; rfl) (fun H locs hP hD hS => ?_)
  refine lv_aload_n hx hb dX6_takeRest_104 rfl (lv_at hl 0 rfl) ?_
  refine g_get (C := RX6) (T := TX6) (N := 15) hx hb hts iwX6_takeRest_X6 hown hK hP 0 0 rfl rfl rfl 1 (Nat.le_of_ble_eq_true rfl) (hts _ kX6_takeRest_0) (fun _ h9 => h9) rfl dX6_takeRest_105 ?_
  refine lv_bipush (v := (69:Int32)) hx hb dX6_takeRest_108 (by decide) ?_
  refine lv_iload_n hx hb dX6_takeRest_110 rfl (lv_at hl 1 rfl) ?_
  refine lv_iadd hx hb dX6_takeRest_111 ?_
  refine lv_iload_n hx hb dX6_takeRest_112 rfl (lv_at hl 2 rfl) ?_
  obtain ⟨h31, hf⟩ := gi_some hf
  obtain ⟨u32, eu32, hf⟩ := lt_some hf
  refine g_iast (gs' := [mdW G a0 u32]) hx hb hK hP hD hS 0 1 0 rfl rfl rfl h31 dX6_takeRest_113 (by rw [eu32]; rfl) (fun H locs hP hD hS => ?_)
  refine lv_aload_n hx hb dX6_takeRest_114 rfl (lv_at hl 0 rfl) ?_
  refine g_get (C := RX6) (T := TX6) (N := 15) hx hb hts iwX6_takeRest_X6 hown hK hP 0 0 rfl rfl rfl 1 (Nat.le_of_ble_eq_true rfl) (hts _ kX6_takeRest_0) (fun _ h9 => h9) rfl dX6_takeRest_115 ?_
  refine lv_bipush (v := (37:Int32)) hx hb dX6_takeRest_118 (by decide) ?_
  refine lv_iload_n hx hb dX6_takeRest_120 rfl (lv_at hl 1 rfl) ?_
  refine lv_iadd hx hb dX6_takeRest_121 ?_
  refine lv_iconst (v := (1:Int32)) hx hb dX6_takeRest_122 (by decide) ?_
  obtain ⟨h33, hf⟩ := gi_some hf
  obtain ⟨u34, eu34, hf⟩ := lt_some hf
  refine g_iast (gs' := [mdW G a0 u34]) hx hb hK hP hD hS 0 1 0 rfl rfl rfl h33 dX6_takeRest_123 (by rw [eu34]; rfl) (fun H locs hP hD hS => ?_)
  cases hf
  exact g_vret hx hb hr hlocks hP hS dX6_takeRest_124
theorem kX6_goMonth_0 : Cond.fieldLink RX6 65 "SavingsCircleModel" "potNow" "I" ∈ wsX6_goMonth := (List.mem_cons_of_mem _ (List.mem_append_left _ (List.mem_append_left _ (List.mem_of_getElem? (i := 0) rfl))))
theorem kX6_goMonth_1 : Cond.constant RX6 49 (-99999) ∈ wsX6_goMonth := (List.mem_cons_of_mem _ (List.mem_append_left _ (List.mem_append_left _ (List.mem_of_getElem? (i := 1) rfl))))
theorem kX6_goMonth_2 : Cond.fieldLink RX6 7 "SavingsCircleModel" "z" "[I" ∈ wsX6_goMonth := (List.mem_cons_of_mem _ (List.mem_append_left _ (List.mem_append_left _ (List.mem_of_getElem? (i := 2) rfl))))
theorem iwX6_goMonth_X6 : ∀ w ∈ wsX60, w ∈ wsX6_goMonth := fun w h => (List.mem_cons_of_mem _ (List.mem_append_right _ h))
set_option maxHeartbeats 4000000 in
set_option maxRecDepth 100000 in
theorem w_X6_goMonth_65 {p : Program} {l : Launch} {e : Env} {s : State} {m : MethodId} {args : Array Value} {below : List Frame} {meth : Method} {c : Code} {A : Nat → Prop} {Q : State → Prop} (S : Ev p s m args meth c cX6_goMonth 4 (some .int) yX6_goMonth.cls wsX6_goMonth) {G : uG} (hK : kK G s) (hA : ∀ q, s.heap.size ≤ q → A q) (_ : uG) (a0 : Nat → Nat) (p2 : Int32) : ∀ (n : Nat) (z : (Int32 × MdV)) (e1 : (Int32 × MdV)), lp (b_X6_goMonth_65 p2) n z = some e1 → ∀ (H : Heap) (locs : List Loc) (ls : Array Slot), gP G [mdW G a0 z.2] H → gD A [mdW G a0 z.2] → va_S A s.heap H locs → lv_has ls 4 [(0, .ref (a0 0)), (2, .int p2), (3, .int z.1)] → (∀ (H : Heap) (locs : List Loc) (ls : Array Slot), gP G [mdW G a0 e1.2] H → gD A [mdW G a0 e1.2] → va_S A s.heap H locs → lv_has ls 4 [(0, .ref (a0 0)), (2, .int p2), (3, .int e1.1)] → W p l e ({ frames := 2, cells := 0, slots := 0, locals := 47 } : Room) s m args below meth c H locs 0 0 Q (F0 m 97 ls [])) → W p l e ({ frames := 2, cells := 0, slots := 0, locals := 47 } : Room) s m args below meth c H locs 0 0 Q (F0 m 65 ls []) := by
  obtain ⟨hx, hb, hml, hown, hts, hr, hlocks⟩ := id S
  intro n
  induction n with
  | zero => intro z e1 h; cases h
  | succ n ih =>
    intro z e1 hlp H locs ls hP hD hS hl K
    obtain ⟨z9, hf, hz⟩ := lp_s hlp
    unfold b_X6_goMonth_65 at hf
    refine lv_iload_n hx hb dX6_goMonth_65 rfl (lv_at hl 2 rfl) ?_
    refine lv_bipush (v := (8:Int32)) hx hb dX6_goMonth_66 (by decide) ?_
    refine lv_icmp_ge (tgt := 97) hx hb dX6_goMonth_68 (by decide) (fun c10 => ?_) (fun c10 => ?_)
    · rw [if_pos c10] at hf
      have he := lz_r hf hz
      subst he
      exact K H locs ls hP hD hS (lv_sub hl [0, 1, 2] rfl)
    · rw [if_neg c10] at hf
      refine lv_aload_n hx hb dX6_goMonth_71 rfl (lv_at hl 0 rfl) ?_
      refine g_get (C := RX6) (T := TX6) (N := 15) hx hb hts iwX6_goMonth_X6 hown hK hP 0 0 rfl rfl rfl 1 (Nat.le_of_ble_eq_true rfl) (hts _ kX6_goMonth_2) (fun _ h9 => h9) rfl dX6_goMonth_72 ?_
      refine lv_bipush (v := (21:Int32)) hx hb dX6_goMonth_75 (by decide) ?_
      refine lv_iload_n hx hb dX6_goMonth_77 rfl (lv_at hl 2 rfl) ?_
      refine lv_iadd hx hb dX6_goMonth_78 ?_
      refine lv_iconst (v := (0:Int32)) hx hb dX6_goMonth_79 (by decide) ?_
      obtain ⟨h11, hf⟩ := gi_some hf
      obtain ⟨u12, eu12, hf⟩ := lt_some hf
      refine g_iast (gs' := [mdW G a0 u12]) hx hb hK hP hD hS 0 1 0 rfl rfl rfl h11 dX6_goMonth_80 (by rw [eu12]; rfl) (fun H locs hP hD hS => ?_)
      refine lv_aload_n hx hb dX6_goMonth_81 rfl (lv_at hl 0 rfl) ?_
      refine g_get (C := RX6) (T := TX6) (N := 15) hx hb hts iwX6_goMonth_X6 hown hK hP 0 0 rfl rfl rfl 1 (Nat.le_of_ble_eq_true rfl) (hts _ kX6_goMonth_2) (fun _ h9 => h9) rfl dX6_goMonth_82 ?_
      refine lv_bipush (v := (29:Int32)) hx hb dX6_goMonth_85 (by decide) ?_
      refine lv_iload_n hx hb dX6_goMonth_87 rfl (lv_at hl 2 rfl) ?_
      refine lv_iadd hx hb dX6_goMonth_88 ?_
      refine lv_iconst (v := (0:Int32)) hx hb dX6_goMonth_89 (by decide) ?_
      obtain ⟨h13, hf⟩ := gi_some hf
      obtain ⟨u14, eu14, hf⟩ := lt_some hf
      refine g_iast (gs' := [mdW G a0 u14]) hx hb hK hP hD hS 0 1 0 rfl rfl rfl h13 dX6_goMonth_90 (by rw [eu14]; rfl) (fun H locs hP hD hS => ?_)
      obtain ⟨x15, ex15, hf⟩ := lt_some hf
      refine lv_iinc (v := x15) (lv' := [(3, .int x15), (0, .ref (a0 0)), (2, .int p2)]) hx hb dX6_goMonth_91 hl (k := 2) rfl (by rw [ex15]; rfl) (by decide) rfl (fun ls hl => ?_)
      refine lv_goto (tgt := 65) hx hb dX6_goMonth_94 (by decide) ?_
      exact ih _ e1 (lz_l hf hz) H locs ls hP hD hS (lv_sub hl [1, 2, 0] rfl) K
set_option maxHeartbeats 4000000 in
set_option maxRecDepth 100000 in
theorem c_X6_goMonth (l : Launch) (G : uG) (a0 : Nat → Nat) (v0 : MdV) {q : Int32 × (MdV)} (hf : f_X6_goMonth v0 = some q) : mQ l yX6_goMonth wsX6_goMonth ({ frames := 2, cells := 0, slots := 0, locals := 47 } : Room) G [.ref (a0 0)] [mdW G a0 v0] [mdW G a0 q.2] (qI G [mdW G a0 q.2] q.1) := by
  unfold f_X6_goMonth at hf
  refine m_of (cc := cX6_goMonth) (maxL := 4) (ret := (some .int)) (by decide) rfl rfl (Nat.le_of_ble_eq_true rfl) ?_
  intro p e s m args below meth c A ls S hK hA hP hD hS hl
  obtain ⟨hx, hb, hml, hown, hts, hr, hlocks⟩ := id S
  have hl : lv_has ls 4 [(0, .ref (a0 0))] := hl
  refine lv_aload_n hx hb dX6_goMonth_0 rfl (lv_at hl 0 rfl) ?_
  obtain ⟨q1, hq1, hf⟩ := bd_some hf
  refine g_callVi S (As := []) (gs' := [mdW G a0 q1.2]) (c_X6_pay l G a0 v0 hq1) (cwV 0 hts gX6_goMonth_X6_pay rfl rfl rfl hd_X6_pay ⟨Nat.le_of_ble_eq_true rfl, Nat.le_of_ble_eq_true rfl⟩) hK hP hD hS hA (is := [0]) rfl rfl 0 rfl rfl rfl rfl hl.1 rfl (Nat.le_of_ble_eq_true rfl) dX6_goMonth_1 ⟨Nat.le_of_ble_eq_true rfl, Nat.le_of_ble_eq_true rfl⟩ rfl (fun H locs hP hD hS => ?_)
  refine lv_istore_n (lv' := [(1, .int q1.1), (0, .ref (a0 0))]) hx hb dX6_goMonth_4 rfl hl (by decide) rfl (fun ls hl => ?_)
  refine lv_iload_n hx hb dX6_goMonth_5 rfl (lv_at hl 0 rfl) ?_
  refine lv_aload_n hx hb dX6_goMonth_6 rfl (lv_at hl 1 rfl) ?_
  obtain ⟨q2, hq2, hf⟩ := bd_some hf
  refine g_callVi S (As := []) (gs' := [mdW G a0 q2.2]) (c_X6_payForOthers l G a0 q1.2 hq2) (cwV 0 hts gX6_goMonth_X6_payForOthers rfl rfl rfl hd_X6_payForOthers ⟨Nat.le_of_ble_eq_true rfl, Nat.le_of_ble_eq_true rfl⟩) hK hP hD hS hA (is := [0]) rfl rfl 0 rfl rfl rfl rfl hl.1 rfl (Nat.le_of_ble_eq_true rfl) dX6_goMonth_7 ⟨Nat.le_of_ble_eq_true rfl, Nat.le_of_ble_eq_true rfl⟩ rfl (fun H locs hP hD hS => ?_)
  refine lv_iadd hx hb dX6_goMonth_10 ?_
  obtain ⟨x3, ex3, hf⟩ := lt_some hf
  refine lv_nmi ex3 ?_
  refine lv_istore_n (lv' := [(1, .int x3), (0, .ref (a0 0))]) hx hb dX6_goMonth_11 rfl hl (by decide) rfl (fun ls hl => ?_)
  refine lv_aload_n hx hb dX6_goMonth_12 rfl (lv_at hl 1 rfl) ?_
  refine lv_iload_n hx hb dX6_goMonth_13 rfl (lv_at hl 0 rfl) ?_
  obtain ⟨u4, eu4, hf⟩ := lt_some hf
  refine g_put (ty := .int) (C := RX6) (T := TX6) (N := 15) (gs' := [mdW G a0 u4]) hx hb hts iwX6_goMonth_X6 tyX6 tyX6_ok nmX6 hown hK hP hD hS 0 0 rfl rfl rfl 11 (Nat.le_of_ble_eq_true rfl) (hts _ kX6_goMonth_0) (fun _ h9 => h9) rfl (by decide +kernel) rfl rfl (Nat.le_of_ble_eq_true rfl) dX6_goMonth_14 (by rw [eu4]; rfl) (fun H locs hP hD hS => ?_)
  refine lv_aload_n hx hb dX6_goMonth_17 rfl (lv_at hl 1 rfl) ?_
  refine lv_iload_n hx hb dX6_goMonth_18 rfl (lv_at hl 0 rfl) ?_
  obtain ⟨q5, hq5, hf⟩ := bd_some hf
  refine g_callVi S (As := [.int x3]) (gs' := [mdW G a0 u4]) (c_X6_taker l G a0 u4 x3 hq5) (cwV 1 hts gX6_goMonth_X6_taker rfl rfl rfl hd_X6_taker ⟨Nat.le_of_ble_eq_true rfl, Nat.le_of_ble_eq_true rfl⟩) hK hP hD hS hA (is := [0]) rfl rfl 0 rfl rfl rfl rfl hl.1 rfl (Nat.le_of_ble_eq_true rfl) dX6_goMonth_19 ⟨Nat.le_of_ble_eq_true rfl, Nat.le_of_ble_eq_true rfl⟩ rfl (fun H locs hP hD hS => ?_)
  refine lv_istore_n (lv' := [(2, .int q5.1), (1, .int x3), (0, .ref (a0 0))]) hx hb dX6_goMonth_22 rfl hl (by decide) rfl (fun ls hl => ?_)
  refine lv_iload_n hx hb dX6_goMonth_23 rfl (lv_at hl 0 rfl) ?_
  refine lv_ldc (v := (-99999:Int32)) hx hb hown (hts _ kX6_goMonth_1) dX6_goMonth_24 ?_
  refine lv_icmp_ne (tgt := 42) hx hb dX6_goMonth_26 (by decide) (fun c6 => ?_) (fun c6 => ?_)
  · rw [if_neg c6] at hf
    refine lv_aload_n hx hb dX6_goMonth_42 rfl (lv_at hl 2 rfl) ?_
    refine lv_iload_n hx hb dX6_goMonth_43 rfl (lv_at hl 0 rfl) ?_
    refine lv_iload_n hx hb dX6_goMonth_44 rfl (lv_at hl 1 rfl) ?_
    obtain ⟨q7, hq7, hf⟩ := bd_some hf
    refine g_callVi S (As := [.int q5.1, .int x3]) (gs' := [mdW G a0 u4]) (c_X6_bidOf l G a0 u4 q5.1 x3 hq7) (cwV 2 hts gX6_goMonth_X6_bidOf rfl rfl rfl hd_X6_bidOf ⟨Nat.le_of_ble_eq_true rfl, Nat.le_of_ble_eq_true rfl⟩) hK hP hD hS hA (is := [0]) rfl rfl 0 rfl rfl rfl rfl hl.1 rfl (Nat.le_of_ble_eq_true rfl) dX6_goMonth_45 ⟨Nat.le_of_ble_eq_true rfl, Nat.le_of_ble_eq_true rfl⟩ rfl (fun H locs hP hD hS => ?_)
    refine lv_istore_n (lv' := [(3, .int q7.1), (2, .int q5.1), (1, .int x3), (0, .ref (a0 0))]) hx hb dX6_goMonth_48 rfl hl (by decide) rfl (fun ls hl => ?_)
    refine lv_aload_n hx hb dX6_goMonth_49 rfl (lv_at hl 3 rfl) ?_
    refine lv_iload_n hx hb dX6_goMonth_50 rfl (lv_at hl 1 rfl) ?_
    refine lv_iload_n hx hb dX6_goMonth_51 rfl (lv_at hl 0 rfl) ?_
    obtain ⟨q8, hq8, hf⟩ := bd_some hf
    refine g_callVv S (As := [.int q5.1, .int q7.1]) (gs' := [mdW G a0 q8.2]) (c_X6_share l G a0 u4 q5.1 q7.1 hq8) (cwV 2 hts gX6_goMonth_X6_share rfl rfl rfl hd_X6_share ⟨Nat.le_of_ble_eq_true rfl, Nat.le_of_ble_eq_true rfl⟩) hK hP hD hS hA (is := [0]) rfl rfl 0 rfl rfl rfl rfl hl.1 rfl (Nat.le_of_ble_eq_true rfl) dX6_goMonth_52 ⟨Nat.le_of_ble_eq_true rfl, Nat.le_of_ble_eq_true rfl⟩ rfl (fun H locs hP hD hS => ?_)
    refine lv_aload_n hx hb dX6_goMonth_55 rfl (lv_at hl 3 rfl) ?_
    refine lv_iload_n hx hb dX6_goMonth_56 rfl (lv_at hl 1 rfl) ?_
    refine lv_iload_n hx hb dX6_goMonth_57 rfl (lv_at hl 2 rfl) ?_
    refine lv_iload_n hx hb dX6_goMonth_58 rfl (lv_at hl 0 rfl) ?_
    refine lv_isub hx hb dX6_goMonth_59 ?_
    obtain ⟨q9, hq9, hf⟩ := bd_some hf
    refine g_callVv S (As := [.int q5.1, .int (x3 - q7.1)]) (gs' := [mdW G a0 q9.2]) (c_X6_takeRest l G a0 q8.2 q5.1 (x3 - q7.1) hq9) (cwV 2 hts gX6_goMonth_X6_takeRest rfl rfl rfl hd_X6_takeRest ⟨Nat.le_of_ble_eq_true rfl, Nat.le_of_ble_eq_true rfl⟩) hK hP hD hS hA (is := [0]) rfl rfl 0 rfl rfl rfl rfl hl.1 rfl (Nat.le_of_ble_eq_true rfl) dX6_goMonth_60 ⟨Nat.le_of_ble_eq_true rfl, Nat.le_of_ble_eq_true rfl⟩ rfl (fun H locs hP hD hS => ?_)
    refine lv_iconst (v := (0:Int32)) hx hb dX6_goMonth_63 (by decide) ?_
    refine lv_istore_n (lv' := [(3, .int (0:Int32)), (2, .int q5.1), (1, .int x3), (0, .ref (a0 0))]) hx hb dX6_goMonth_64 rfl hl (by decide) rfl (fun ls hl => ?_)
    obtain ⟨e16, he16, hf⟩ := bd_some hf
    refine w_X6_goMonth_65 (Q := _) S hK hA G a0 q5.1 FU _ e16 he16 _ _ _ hP hD hS (lv_sub hl [3, 1, 0] rfl) (fun H locs ls hP hD hS hl => ?_)
    refine lv_aload_n hx hb dX6_goMonth_97 rfl (lv_at hl 0 rfl) ?_
    refine g_get (C := RX6) (T := TX6) (N := 15) hx hb hts iwX6_goMonth_X6 hown hK hP 0 0 rfl rfl rfl 1 (Nat.le_of_ble_eq_true rfl) (hts _ kX6_goMonth_2) (fun _ h9 => h9) rfl dX6_goMonth_98 ?_
    refine lv_iconst (v := (2:Int32)) hx hb dX6_goMonth_101 (by decide) ?_
    refine lv_dup2_11 hx hb dX6_goMonth_102 rfl rfl ?_
    obtain ⟨h17, hf⟩ := gi_some hf
    refine g_iald hx hb hK hP 0 1 0 rfl rfl rfl h17 dX6_goMonth_103 ?_
    refine lv_iconst (v := (1:Int32)) hx hb dX6_goMonth_104 (by decide) ?_
    refine lv_iadd hx hb dX6_goMonth_105 ?_
    obtain ⟨x18, ex18, hf⟩ := lt_some hf
    refine lv_nmi ex18 ?_
    obtain ⟨h19, hf⟩ := gi_some hf
    obtain ⟨u20, eu20, hf⟩ := lt_some hf
    refine g_iast (gs' := [mdW G a0 u20]) hx hb hK hP hD hS 0 1 0 rfl rfl rfl h19 dX6_goMonth_106 (by rw [eu20]; rfl) (fun H locs hP hD hS => ?_)
    refine lv_iload_n hx hb dX6_goMonth_107 rfl (lv_at hl 1 rfl) ?_
    cases hf
    exact g_iret hx hb hr hlocks hP hS dX6_goMonth_108
  · rw [if_pos c6] at hf
    refine lv_aload_n hx hb dX6_goMonth_29 rfl (lv_at hl 2 rfl) ?_
    refine g_get (C := RX6) (T := TX6) (N := 15) hx hb hts iwX6_goMonth_X6 hown hK hP 0 0 rfl rfl rfl 1 (Nat.le_of_ble_eq_true rfl) (hts _ kX6_goMonth_2) (fun _ h9 => h9) rfl dX6_goMonth_30 ?_
    refine lv_iconst (v := (3:Int32)) hx hb dX6_goMonth_33 (by decide) ?_
    refine lv_dup2_11 hx hb dX6_goMonth_34 rfl rfl ?_
    obtain ⟨h21, hf⟩ := gi_some hf
    refine g_iald hx hb hK hP 0 1 0 rfl rfl rfl h21 dX6_goMonth_35 ?_
    refine lv_iload_n hx hb dX6_goMonth_36 rfl (lv_at hl 1 rfl) ?_
    refine lv_iadd hx hb dX6_goMonth_37 ?_
    obtain ⟨h22, hf⟩ := gi_some hf
    obtain ⟨u23, eu23, hf⟩ := lt_some hf
    refine g_iast (gs' := [mdW G a0 u23]) hx hb hK hP hD hS 0 1 0 rfl rfl rfl h22 dX6_goMonth_38 (by rw [eu23]; rfl) (fun H locs hP hD hS => ?_)
    refine lv_goto (tgt := 63) hx hb dX6_goMonth_39 (by decide) ?_
    refine lv_iconst (v := (0:Int32)) hx hb dX6_goMonth_63 (by decide) ?_
    refine lv_istore_n (lv' := [(3, .int (0:Int32)), (2, .int q5.1), (1, .int x3), (0, .ref (a0 0))]) hx hb dX6_goMonth_64 rfl hl (by decide) rfl (fun ls hl => ?_)
    obtain ⟨e24, he24, hf⟩ := bd_some hf
    refine w_X6_goMonth_65 (Q := _) S hK hA G a0 q5.1 FU _ e24 he24 _ _ _ hP hD hS (lv_sub hl [3, 1, 0] rfl) (fun H locs ls hP hD hS hl => ?_)
    refine lv_aload_n hx hb dX6_goMonth_97 rfl (lv_at hl 0 rfl) ?_
    refine g_get (C := RX6) (T := TX6) (N := 15) hx hb hts iwX6_goMonth_X6 hown hK hP 0 0 rfl rfl rfl 1 (Nat.le_of_ble_eq_true rfl) (hts _ kX6_goMonth_2) (fun _ h9 => h9) rfl dX6_goMonth_98 ?_
    refine lv_iconst (v := (2:Int32)) hx hb dX6_goMonth_101 (by decide) ?_
    refine lv_dup2_11 hx hb dX6_goMonth_102 rfl rfl ?_
    obtain ⟨h25, hf⟩ := gi_some hf
    refine g_iald hx hb hK hP 0 1 0 rfl rfl rfl h25 dX6_goMonth_103 ?_
    refine lv_iconst (v := (1:Int32)) hx hb dX6_goMonth_104 (by decide) ?_
    refine lv_iadd hx hb dX6_goMonth_105 ?_
    obtain ⟨x26, ex26, hf⟩ := lt_some hf
    refine lv_nmi ex26 ?_
    obtain ⟨h27, hf⟩ := gi_some hf
    obtain ⟨u28, eu28, hf⟩ := lt_some hf
    refine g_iast (gs' := [mdW G a0 u28]) hx hb hK hP hD hS 0 1 0 rfl rfl rfl h27 dX6_goMonth_106 (by rw [eu28]; rfl) (fun H locs hP hD hS => ?_)
    refine lv_iload_n hx hb dX6_goMonth_107 rfl (lv_at hl 1 rfl) ?_
    cases hf
    exact g_iret hx hb hr hlocks hP hS dX6_goMonth_108
theorem kX6_insideMany_0 : Cond.fieldLink RX6 7 "SavingsCircleModel" "z" "[I" ∈ wsX6_insideMany := (List.mem_cons_of_mem _ (List.mem_append_left _ (List.mem_of_getElem? (i := 0) rfl)))
theorem iwX6_insideMany_X6 : ∀ w ∈ wsX60, w ∈ wsX6_insideMany := fun w h => (List.mem_cons_of_mem _ (List.mem_append_right _ h))
set_option maxHeartbeats 4000000 in
set_option maxRecDepth 100000 in
theorem w_X6_insideMany_4 {p : Program} {l : Launch} {e : Env} {s : State} {m : MethodId} {args : Array Value} {below : List Frame} {meth : Method} {c : Code} {A : Nat → Prop} {Q : State → Prop} (S : Ev p s m args meth c cX6_insideMany 3 (some .int) yX6_insideMany.cls wsX6_insideMany) {G : uG} (hK : kK G s) (hA : ∀ q, s.heap.size ≤ q → A q) (_ : uG) (a0 : Nat → Nat) (v0 : MdV) : ∀ (n : Nat) (z : (Int32 × Int32)) (e1 : (Int32 × Int32)), lp (b_X6_insideMany_4 v0) n z = some e1 → ∀ (H : Heap) (locs : List Loc) (ls : Array Slot), gP G [mdW G a0 v0] H → gD A [mdW G a0 v0] → va_S A s.heap H locs → lv_has ls 3 [(0, .ref (a0 0)), (1, .int z.1), (2, .int z.2)] → (∀ (H : Heap) (locs : List Loc) (ls : Array Slot), gP G [mdW G a0 v0] H → gD A [mdW G a0 v0] → va_S A s.heap H locs → lv_has ls 3 [(0, .ref (a0 0)), (1, .int e1.1), (2, .int e1.2)] → W p l e ({ frames := 0, cells := 0, slots := 0, locals := 0 } : Room) s m args below meth c H locs 0 0 Q (F0 m 32 ls [])) → W p l e ({ frames := 0, cells := 0, slots := 0, locals := 0 } : Room) s m args below meth c H locs 0 0 Q (F0 m 4 ls []) := by
  obtain ⟨hx, hb, hml, hown, hts, hr, hlocks⟩ := id S
  intro n
  induction n with
  | zero => intro z e1 h; cases h
  | succ n ih =>
    intro z e1 hlp H locs ls hP hD hS hl K
    obtain ⟨z9, hf, hz⟩ := lp_s hlp
    unfold b_X6_insideMany_4 at hf
    refine lv_iload_n hx hb dX6_insideMany_4 rfl (lv_at hl 2 rfl) ?_
    refine lv_aload_n hx hb dX6_insideMany_5 rfl (lv_at hl 0 rfl) ?_
    refine g_get (C := RX6) (T := TX6) (N := 15) hx hb hts iwX6_insideMany_X6 hown hK hP 0 0 rfl rfl rfl 1 (Nat.le_of_ble_eq_true rfl) (hts _ kX6_insideMany_0) (fun _ h9 => h9) rfl dX6_insideMany_6 ?_
    refine lv_iconst (v := (0:Int32)) hx hb dX6_insideMany_9 (by decide) ?_
    obtain ⟨h1, hf⟩ := gi_some hf
    refine g_iald hx hb hK hP 0 1 0 rfl rfl rfl h1 dX6_insideMany_10 ?_
    refine lv_icmp_ge (tgt := 32) hx hb dX6_insideMany_11 (by decide) (fun c2 => ?_) (fun c2 => ?_)
    · rw [if_pos c2] at hf
      have he := lz_r hf hz
      subst he
      exact K H locs ls hP hD hS (lv_sub hl [0, 1, 2] rfl)
    · rw [if_neg c2] at hf
      refine lv_iload_n hx hb dX6_insideMany_14 rfl (lv_at hl 1 rfl) ?_
      refine lv_aload_n hx hb dX6_insideMany_15 rfl (lv_at hl 0 rfl) ?_
      refine g_get (C := RX6) (T := TX6) (N := 15) hx hb hts iwX6_insideMany_X6 hown hK hP 0 0 rfl rfl rfl 1 (Nat.le_of_ble_eq_true rfl) (hts _ kX6_insideMany_0) (fun _ h9 => h9) rfl dX6_insideMany_16 ?_
      refine lv_bipush (v := (45:Int32)) hx hb dX6_insideMany_19 (by decide) ?_
      refine lv_iload_n hx hb dX6_insideMany_21 rfl (lv_at hl 2 rfl) ?_
      refine lv_iadd hx hb dX6_insideMany_22 ?_
      obtain ⟨h3, hf⟩ := gi_some hf
      refine g_iald hx hb hK hP 0 1 0 rfl rfl rfl h3 dX6_insideMany_23 ?_
      refine lv_iadd hx hb dX6_insideMany_24 ?_
      obtain ⟨x4, ex4, hf⟩ := lt_some hf
      refine lv_nmi ex4 ?_
      refine lv_istore_n (lv' := [(1, .int x4), (0, .ref (a0 0)), (2, .int z.2)]) hx hb dX6_insideMany_25 rfl hl (by decide) rfl (fun ls hl => ?_)
      obtain ⟨x5, ex5, hf⟩ := lt_some hf
      refine lv_iinc (v := x5) (lv' := [(2, .int x5), (1, .int x4), (0, .ref (a0 0))]) hx hb dX6_insideMany_26 hl (k := 2) rfl (by rw [ex5]; rfl) (by decide) rfl (fun ls hl => ?_)
      refine lv_goto (tgt := 4) hx hb dX6_insideMany_29 (by decide) ?_
      exact ih _ e1 (lz_l hf hz) H locs ls hP hD hS (lv_sub hl [2, 1, 0] rfl) K
set_option maxHeartbeats 4000000 in
set_option maxRecDepth 100000 in
theorem c_X6_insideMany (l : Launch) (G : uG) (a0 : Nat → Nat) (v0 : MdV) {q : Int32 × (Unit)} (hf : f_X6_insideMany v0 = some q) : mQ l yX6_insideMany wsX6_insideMany ({ frames := 0, cells := 0, slots := 0, locals := 0 } : Room) G [.ref (a0 0)] [mdW G a0 v0] [mdW G a0 v0] (qI G [mdW G a0 v0] q.1) := by
  unfold f_X6_insideMany at hf
  refine m_of (cc := cX6_insideMany) (maxL := 3) (ret := (some .int)) (by decide) rfl rfl (Nat.le_of_ble_eq_true rfl) ?_
  intro p e s m args below meth c A ls S hK hA hP hD hS hl
  obtain ⟨hx, hb, hml, hown, hts, hr, hlocks⟩ := id S
  have hl : lv_has ls 3 [(0, .ref (a0 0))] := hl
  refine lv_iconst (v := (0:Int32)) hx hb dX6_insideMany_0 (by decide) ?_
  refine lv_istore_n (lv' := [(1, .int (0:Int32)), (0, .ref (a0 0))]) hx hb dX6_insideMany_1 rfl hl (by decide) rfl (fun ls hl => ?_)
  refine lv_iconst (v := (0:Int32)) hx hb dX6_insideMany_2 (by decide) ?_
  refine lv_istore_n (lv' := [(2, .int (0:Int32)), (1, .int (0:Int32)), (0, .ref (a0 0))]) hx hb dX6_insideMany_3 rfl hl (by decide) rfl (fun ls hl => ?_)
  obtain ⟨e6, he6, hf⟩ := bd_some hf
  refine w_X6_insideMany_4 (Q := _) S hK hA G a0 v0 FU _ e6 he6 _ _ _ hP hD hS (lv_sub hl [2, 1, 0] rfl) (fun H locs ls hP hD hS hl => ?_)
  refine lv_iload_n hx hb dX6_insideMany_32 rfl (lv_at hl 1 rfl) ?_
  cases hf
  exact g_iret hx hb hr hlocks hP hS dX6_insideMany_33
theorem kX6_canGo_0 : Cond.fieldLink RX6 7 "SavingsCircleModel" "z" "[I" ∈ wsX6_canGo := (List.mem_cons_of_mem _ (List.mem_append_left _ (List.mem_of_getElem? (i := 0) rfl)))
theorem iwX6_canGo_X6 : ∀ w ∈ wsX60, w ∈ wsX6_canGo := fun w h => (List.mem_cons_of_mem _ (List.mem_append_right _ h))
set_option maxHeartbeats 4000000 in
set_option maxRecDepth 100000 in
theorem c_X6_canGo (l : Launch) (G : uG) (a0 : Nat → Nat) (v0 : MdV) {q : Int32 × (Unit)} (hf : f_X6_canGo v0 = some q) : mQ l yX6_canGo wsX6_canGo ({ frames := 1, cells := 0, slots := 0, locals := 22 } : Room) G [.ref (a0 0)] [mdW G a0 v0] [mdW G a0 v0] (qI G [mdW G a0 v0] q.1) := by
  unfold f_X6_canGo at hf
  refine m_of (cc := cX6_canGo) (maxL := 1) (ret := (some .boolean)) (by decide) rfl rfl (Nat.le_of_ble_eq_true rfl) ?_
  intro p e s m args below meth c A ls S hK hA hP hD hS hl
  obtain ⟨hx, hb, hml, hown, hts, hr, hlocks⟩ := id S
  have hl : lv_has ls 1 [(0, .ref (a0 0))] := hl
  refine lv_aload_n hx hb dX6_canGo_0 rfl (lv_at hl 0 rfl) ?_
  obtain ⟨q1, hq1, hf⟩ := bd_some hf
  refine g_callVi S (As := []) (gs' := [mdW G a0 v0]) (c_X6_insideMany l G a0 v0 hq1) (cwV 0 hts gX6_canGo_X6_insideMany rfl rfl rfl hd_X6_insideMany ⟨Nat.le_of_ble_eq_true rfl, Nat.le_of_ble_eq_true rfl⟩) hK hP hD hS hA (is := [0]) rfl rfl 0 rfl rfl rfl rfl hl.1 rfl (Nat.le_of_ble_eq_true rfl) dX6_canGo_1 ⟨Nat.le_of_ble_eq_true rfl, Nat.le_of_ble_eq_true rfl⟩ rfl (fun H locs hP hD hS => ?_)
  refine lv_if_le (tgt := 22) hx hb dX6_canGo_4 (by decide) (fun c2 => ?_) (fun c2 => ?_)
  · rw [if_pos c2] at hf
    refine lv_iconst (v := (0:Int32)) hx hb dX6_canGo_22 (by decide) ?_
    cases hf
    exact g_zret hx hb hr gz0 hlocks hP hS dX6_canGo_23
  · rw [if_neg c2] at hf
    refine lv_aload_n hx hb dX6_canGo_7 rfl (lv_at hl 0 rfl) ?_
    refine g_get (C := RX6) (T := TX6) (N := 15) hx hb hts iwX6_canGo_X6 hown hK hP 0 0 rfl rfl rfl 1 (Nat.le_of_ble_eq_true rfl) (hts _ kX6_canGo_0) (fun _ h9 => h9) rfl dX6_canGo_8 ?_
    refine lv_iconst (v := (2:Int32)) hx hb dX6_canGo_11 (by decide) ?_
    obtain ⟨h3, hf⟩ := gi_some hf
    refine g_iald hx hb hK hP 0 1 0 rfl rfl rfl h3 dX6_canGo_12 ?_
    refine lv_bipush (v := (99:Int32)) hx hb dX6_canGo_13 (by decide) ?_
    refine lv_icmp_ge (tgt := 22) hx hb dX6_canGo_15 (by decide) (fun c4 => ?_) (fun c4 => ?_)
    · rw [if_pos c4] at hf
      refine lv_iconst (v := (0:Int32)) hx hb dX6_canGo_22 (by decide) ?_
      cases hf
      exact g_zret hx hb hr gz0 hlocks hP hS dX6_canGo_23
    · rw [if_neg c4] at hf
      refine lv_iconst (v := (1:Int32)) hx hb dX6_canGo_18 (by decide) ?_
      refine lv_goto (tgt := 23) hx hb dX6_canGo_19 (by decide) ?_
      cases hf
      exact g_zret hx hb hr gz1 hlocks hP hS dX6_canGo_23
theorem kX6_remember_0 : Cond.fieldLink RX6 42 "SavingsCircleModel" "pastMany" "I" ∈ wsX6_remember := (List.mem_cons_of_mem _ (List.mem_append_left _ (List.mem_of_getElem? (i := 0) rfl)))
theorem kX6_remember_1 : Cond.fieldLink RX6 13 "SavingsCircleModel" "past" "[I" ∈ wsX6_remember := (List.mem_cons_of_mem _ (List.mem_append_left _ (List.mem_of_getElem? (i := 1) rfl)))
theorem kX6_remember_2 : Cond.fieldLink RX6 7 "SavingsCircleModel" "z" "[I" ∈ wsX6_remember := (List.mem_cons_of_mem _ (List.mem_append_left _ (List.mem_of_getElem? (i := 2) rfl)))
theorem iwX6_remember_X6 : ∀ w ∈ wsX60, w ∈ wsX6_remember := fun w h => (List.mem_cons_of_mem _ (List.mem_append_right _ h))
set_option maxHeartbeats 4000000 in
set_option maxRecDepth 100000 in
theorem w_X6_remember_52 {p : Program} {l : Launch} {e : Env} {s : State} {m : MethodId} {args : Array Value} {below : List Frame} {meth : Method} {c : Code} {A : Nat → Prop} {Q : State → Prop} (S : Ev p s m args meth c cX6_remember 2 none yX6_remember.cls wsX6_remember) {G : uG} (hK : kK G s) (hA : ∀ q, s.heap.size ≤ q → A q) (_ : uG) (a0 : Nat → Nat) : ∀ (n : Nat) (z : (Int32 × MdV)) (e1 : (Int32 × MdV)), lp (b_X6_remember_52) n z = some e1 → ∀ (H : Heap) (locs : List Loc) (ls : Array Slot), gP G [mdW G a0 z.2] H → gD A [mdW G a0 z.2] → va_S A s.heap H locs → lv_has ls 2 [(0, .ref (a0 0)), (1, .int z.1)] → (∀ (H : Heap) (locs : List Loc) (ls : Array Slot), gP G [mdW G a0 e1.2] H → gD A [mdW G a0 e1.2] → va_S A s.heap H locs → lv_has ls 2 [(0, .ref (a0 0)), (1, .int e1.1)] → W p l e ({ frames := 0, cells := 0, slots := 0, locals := 0 } : Room) s m args below meth c H locs 0 0 Q (F0 m 86 ls [])) → W p l e ({ frames := 0, cells := 0, slots := 0, locals := 0 } : Room) s m args below meth c H locs 0 0 Q (F0 m 52 ls []) := by
  obtain ⟨hx, hb, hml, hown, hts, hr, hlocks⟩ := id S
  intro n
  induction n with
  | zero => intro z e1 h; cases h
  | succ n ih =>
    intro z e1 hlp H locs ls hP hD hS hl K
    obtain ⟨z9, hf, hz⟩ := lp_s hlp
    unfold b_X6_remember_52 at hf
    refine lv_iload_n hx hb dX6_remember_52 rfl (lv_at hl 1 rfl) ?_
    refine lv_sipush (v := (157:Int32)) hx hb dX6_remember_53 (by decide) ?_
    refine lv_icmp_ge (tgt := 86) hx hb dX6_remember_56 (by decide) (fun c2 => ?_) (fun c2 => ?_)
    · rw [if_pos c2] at hf
      have he := lz_r hf hz
      subst he
      exact K H locs ls hP hD hS (lv_sub hl [0, 1] rfl)
    · rw [if_neg c2] at hf
      refine lv_aload_n hx hb dX6_remember_59 rfl (lv_at hl 0 rfl) ?_
      refine g_get (C := RX6) (T := TX6) (N := 15) hx hb hts iwX6_remember_X6 hown hK hP 0 0 rfl rfl rfl 2 (Nat.le_of_ble_eq_true rfl) (hts _ kX6_remember_1) (fun _ h9 => h9) rfl dX6_remember_60 ?_
      refine lv_aload_n hx hb dX6_remember_63 rfl (lv_at hl 0 rfl) ?_
      refine g_get (C := RX6) (T := TX6) (N := 15) hx hb hts iwX6_remember_X6 hown hK hP 0 0 rfl rfl rfl 3 (Nat.le_of_ble_eq_true rfl) (hts _ kX6_remember_0) (fun _ h9 => h9) rfl dX6_remember_64 ?_
      refine lv_sipush (v := (157:Int32)) hx hb dX6_remember_67 (by decide) ?_
      refine lv_imul hx hb dX6_remember_70 ?_
      refine lv_iload_n hx hb dX6_remember_71 rfl (lv_at hl 1 rfl) ?_
      refine lv_iadd hx hb dX6_remember_72 ?_
      refine lv_aload_n hx hb dX6_remember_73 rfl (lv_at hl 0 rfl) ?_
      refine g_get (C := RX6) (T := TX6) (N := 15) hx hb hts iwX6_remember_X6 hown hK hP 0 0 rfl rfl rfl 1 (Nat.le_of_ble_eq_true rfl) (hts _ kX6_remember_2) (fun _ h9 => h9) rfl dX6_remember_74 ?_
      refine lv_iload_n hx hb dX6_remember_77 rfl (lv_at hl 1 rfl) ?_
      obtain ⟨h3, hf⟩ := gi_some hf
      refine g_iald hx hb hK hP 0 1 0 rfl rfl rfl h3 dX6_remember_78 ?_
      obtain ⟨h4, hf⟩ := gi_some hf
      obtain ⟨u5, eu5, hf⟩ := lt_some hf
      refine g_iast (gs' := [mdW G a0 u5]) hx hb hK hP hD hS 0 2 0 rfl rfl rfl h4 dX6_remember_79 (by rw [eu5]; rfl) (fun H locs hP hD hS => ?_)
      obtain ⟨x6, ex6, hf⟩ := lt_some hf
      refine lv_iinc (v := x6) (lv' := [(1, .int x6), (0, .ref (a0 0))]) hx hb dX6_remember_80 hl (k := 1) rfl (by rw [ex6]; rfl) (by decide) rfl (fun ls hl => ?_)
      refine lv_goto (tgt := 52) hx hb dX6_remember_83 (by decide) ?_
      exact ih _ e1 (lz_l hf hz) H locs ls hP hD hS (lv_sub hl [1, 0] rfl) K
set_option maxHeartbeats 4000000 in
set_option maxRecDepth 100000 in
theorem w_X6_remember_11 {p : Program} {l : Launch} {e : Env} {s : State} {m : MethodId} {args : Array Value} {below : List Frame} {meth : Method} {c : Code} {A : Nat → Prop} {Q : State → Prop} (S : Ev p s m args meth c cX6_remember 2 none yX6_remember.cls wsX6_remember) {G : uG} (hK : kK G s) (hA : ∀ q, s.heap.size ≤ q → A q) (_ : uG) (a0 : Nat → Nat) : ∀ (n : Nat) (z : (Int32 × MdV)) (e1 : (Int32 × MdV)), lp (b_X6_remember_11) n z = some e1 → ∀ (H : Heap) (locs : List Loc) (ls : Array Slot), gP G [mdW G a0 z.2] H → gD A [mdW G a0 z.2] → va_S A s.heap H locs → lv_has ls 2 [(0, .ref (a0 0)), (1, .int z.1)] → (∀ (H : Heap) (locs : List Loc) (ls : Array Slot), gP G [mdW G a0 e1.2] H → gD A [mdW G a0 e1.2] → va_S A s.heap H locs → lv_has ls 2 [(0, .ref (a0 0)), (1, .int e1.1)] → W p l e ({ frames := 0, cells := 0, slots := 0, locals := 0 } : Room) s m args below meth c H locs 0 0 Q (F0 m 40 ls [])) → W p l e ({ frames := 0, cells := 0, slots := 0, locals := 0 } : Room) s m args below meth c H locs 0 0 Q (F0 m 11 ls []) := by
  obtain ⟨hx, hb, hml, hown, hts, hr, hlocks⟩ := id S
  intro n
  induction n with
  | zero => intro z e1 h; cases h
  | succ n ih =>
    intro z e1 hlp H locs ls hP hD hS hl K
    obtain ⟨z9, hf, hz⟩ := lp_s hlp
    unfold b_X6_remember_11 at hf
    refine lv_iload_n hx hb dX6_remember_11 rfl (lv_at hl 1 rfl) ?_
    refine lv_sipush (v := (2041:Int32)) hx hb dX6_remember_12 (by decide) ?_
    refine lv_icmp_ge (tgt := 40) hx hb dX6_remember_15 (by decide) (fun c9 => ?_) (fun c9 => ?_)
    · rw [if_pos c9] at hf
      have he := lz_r hf hz
      subst he
      exact K H locs ls hP hD hS (lv_sub hl [0, 1] rfl)
    · rw [if_neg c9] at hf
      refine lv_aload_n hx hb dX6_remember_18 rfl (lv_at hl 0 rfl) ?_
      refine g_get (C := RX6) (T := TX6) (N := 15) hx hb hts iwX6_remember_X6 hown hK hP 0 0 rfl rfl rfl 2 (Nat.le_of_ble_eq_true rfl) (hts _ kX6_remember_1) (fun _ h9 => h9) rfl dX6_remember_19 ?_
      refine lv_iload_n hx hb dX6_remember_22 rfl (lv_at hl 1 rfl) ?_
      refine lv_aload_n hx hb dX6_remember_23 rfl (lv_at hl 0 rfl) ?_
      refine g_get (C := RX6) (T := TX6) (N := 15) hx hb hts iwX6_remember_X6 hown hK hP 0 0 rfl rfl rfl 2 (Nat.le_of_ble_eq_true rfl) (hts _ kX6_remember_1) (fun _ h9 => h9) rfl dX6_remember_24 ?_
      refine lv_iload_n hx hb dX6_remember_27 rfl (lv_at hl 1 rfl) ?_
      refine lv_sipush (v := (157:Int32)) hx hb dX6_remember_28 (by decide) ?_
      refine lv_iadd hx hb dX6_remember_31 ?_
      obtain ⟨h10, hf⟩ := gi_some hf
      refine g_iald hx hb hK hP 0 2 0 rfl rfl rfl h10 dX6_remember_32 ?_
      obtain ⟨x11, ex11, hf⟩ := lt_some hf
      refine lv_nmi ex11 ?_
      obtain ⟨h12, hf⟩ := gi_some hf
      obtain ⟨u13, eu13, hf⟩ := lt_some hf
      refine g_iast (gs' := [mdW G a0 u13]) hx hb hK hP hD hS 0 2 0 rfl rfl rfl h12 dX6_remember_33 (by rw [eu13]; rfl) (fun H locs hP hD hS => ?_)
      obtain ⟨x14, ex14, hf⟩ := lt_some hf
      refine lv_iinc (v := x14) (lv' := [(1, .int x14), (0, .ref (a0 0))]) hx hb dX6_remember_34 hl (k := 1) rfl (by rw [ex14]; rfl) (by decide) rfl (fun ls hl => ?_)
      refine lv_goto (tgt := 11) hx hb dX6_remember_37 (by decide) ?_
      exact ih _ e1 (lz_l hf hz) H locs ls hP hD hS (lv_sub hl [1, 0] rfl) K
set_option maxHeartbeats 4000000 in
set_option maxRecDepth 100000 in
theorem c_X6_remember (l : Launch) (G : uG) (a0 : Nat → Nat) (v0 : MdV) {q : Unit × (MdV)} (hf : f_X6_remember v0 = some q) : mQ l yX6_remember wsX6_remember ({ frames := 0, cells := 0, slots := 0, locals := 0 } : Room) G [.ref (a0 0)] [mdW G a0 v0] [mdW G a0 q.2] (qV G [mdW G a0 q.2] q.1) := by
  unfold f_X6_remember at hf
  refine m_of (cc := cX6_remember) (maxL := 2) (ret := none) (by decide) rfl rfl (Nat.le_of_ble_eq_true rfl) ?_
  intro p e s m args below meth c A ls S hK hA hP hD hS hl
  obtain ⟨hx, hb, hml, hown, hts, hr, hlocks⟩ := id S
  have hl : lv_has ls 2 [(0, .ref (a0 0))] := hl
  refine lv_aload_n hx hb dX6_remember_0 rfl (lv_at hl 0 rfl) ?_
  refine g_get (C := RX6) (T := TX6) (N := 15) hx hb hts iwX6_remember_X6 hown hK hP 0 0 rfl rfl rfl 3 (Nat.le_of_ble_eq_true rfl) (hts _ kX6_remember_0) (fun _ h9 => h9) rfl dX6_remember_1 ?_
  refine lv_bipush (v := (14:Int32)) hx hb dX6_remember_4 (by decide) ?_
  refine lv_icmp_ne (tgt := 50) hx hb dX6_remember_6 (by decide) (fun c1 => ?_) (fun c1 => ?_)
  · rw [if_neg c1] at hf
    refine lv_iconst (v := (0:Int32)) hx hb dX6_remember_50 (by decide) ?_
    refine lv_istore_n (lv' := [(1, .int (0:Int32)), (0, .ref (a0 0))]) hx hb dX6_remember_51 rfl hl (by decide) rfl (fun ls hl => ?_)
    obtain ⟨e7, he7, hf⟩ := bd_some hf
    refine w_X6_remember_52 (Q := _) S hK hA G a0 FU _ e7 he7 _ _ _ hP hD hS (lv_sub hl [1, 0] rfl) (fun H locs ls hP hD hS hl => ?_)
    refine lv_aload_n hx hb dX6_remember_86 rfl (lv_at hl 0 rfl) ?_
    refine lv_dup hx hb dX6_remember_87 rfl ?_
    refine g_get (C := RX6) (T := TX6) (N := 15) hx hb hts iwX6_remember_X6 hown hK hP 0 0 rfl rfl rfl 3 (Nat.le_of_ble_eq_true rfl) (hts _ kX6_remember_0) (fun _ h9 => h9) rfl dX6_remember_88 ?_
    refine lv_iconst (v := (1:Int32)) hx hb dX6_remember_91 (by decide) ?_
    refine lv_iadd hx hb dX6_remember_92 ?_
    obtain ⟨u8, eu8, hf⟩ := lt_some hf
    refine g_put (ty := .int) (C := RX6) (T := TX6) (N := 15) (gs' := [mdW G a0 u8]) hx hb hts iwX6_remember_X6 tyX6 tyX6_ok nmX6 hown hK hP hD hS 0 0 rfl rfl rfl 3 (Nat.le_of_ble_eq_true rfl) (hts _ kX6_remember_0) (fun _ h9 => h9) rfl (by decide +kernel) rfl rfl (Nat.le_of_ble_eq_true rfl) dX6_remember_93 (by rw [eu8]; rfl) (fun H locs hP hD hS => ?_)
    cases hf
    exact g_vret hx hb hr hlocks hP hS dX6_remember_96
  · rw [if_pos c1] at hf
    refine lv_iconst (v := (0:Int32)) hx hb dX6_remember_9 (by decide) ?_
    refine lv_istore_n (lv' := [(1, .int (0:Int32)), (0, .ref (a0 0))]) hx hb dX6_remember_10 rfl hl (by decide) rfl (fun ls hl => ?_)
    obtain ⟨e15, he15, hf⟩ := bd_some hf
    refine w_X6_remember_11 (Q := _) S hK hA G a0 FU _ e15 he15 _ _ _ hP hD hS (lv_sub hl [1, 0] rfl) (fun H locs ls hP hD hS hl => ?_)
    refine lv_aload_n hx hb dX6_remember_40 rfl (lv_at hl 0 rfl) ?_
    refine lv_dup hx hb dX6_remember_41 rfl ?_
    refine g_get (C := RX6) (T := TX6) (N := 15) hx hb hts iwX6_remember_X6 hown hK hP 0 0 rfl rfl rfl 3 (Nat.le_of_ble_eq_true rfl) (hts _ kX6_remember_0) (fun _ h9 => h9) rfl dX6_remember_42 ?_
    refine lv_iconst (v := (1:Int32)) hx hb dX6_remember_45 (by decide) ?_
    refine lv_isub hx hb dX6_remember_46 ?_
    obtain ⟨u16, eu16, hf⟩ := lt_some hf
    refine g_put (ty := .int) (C := RX6) (T := TX6) (N := 15) (gs' := [mdW G a0 u16]) hx hb hts iwX6_remember_X6 tyX6 tyX6_ok nmX6 hown hK hP hD hS 0 0 rfl rfl rfl 3 (Nat.le_of_ble_eq_true rfl) (hts _ kX6_remember_0) (fun _ h9 => h9) rfl (by decide +kernel) rfl rfl (Nat.le_of_ble_eq_true rfl) dX6_remember_47 (by rw [eu16]; rfl) (fun H locs hP hD hS => ?_)
    refine lv_iconst (v := (0:Int32)) hx hb dX6_remember_50 (by decide) ?_
    refine lv_istore_n (lv' := [(1, .int (0:Int32)), (0, .ref (a0 0))]) hx hb dX6_remember_51 rfl hl (by decide) rfl (fun ls hl => ?_)
    obtain ⟨e17, he17, hf⟩ := bd_some hf
    refine w_X6_remember_52 (Q := _) S hK hA G a0 FU _ e17 he17 _ _ _ hP hD hS (lv_sub hl [1, 0] rfl) (fun H locs ls hP hD hS hl => ?_)
    refine lv_aload_n hx hb dX6_remember_86 rfl (lv_at hl 0 rfl) ?_
    refine lv_dup hx hb dX6_remember_87 rfl ?_
    refine g_get (C := RX6) (T := TX6) (N := 15) hx hb hts iwX6_remember_X6 hown hK hP 0 0 rfl rfl rfl 3 (Nat.le_of_ble_eq_true rfl) (hts _ kX6_remember_0) (fun _ h9 => h9) rfl dX6_remember_88 ?_
    refine lv_iconst (v := (1:Int32)) hx hb dX6_remember_91 (by decide) ?_
    refine lv_iadd hx hb dX6_remember_92 ?_
    obtain ⟨u18, eu18, hf⟩ := lt_some hf
    refine g_put (ty := .int) (C := RX6) (T := TX6) (N := 15) (gs' := [mdW G a0 u18]) hx hb hts iwX6_remember_X6 tyX6 tyX6_ok nmX6 hown hK hP hD hS 0 0 rfl rfl rfl 3 (Nat.le_of_ble_eq_true rfl) (hts _ kX6_remember_0) (fun _ h9 => h9) rfl (by decide +kernel) rfl rfl (Nat.le_of_ble_eq_true rfl) dX6_remember_93 (by rw [eu18]; rfl) (fun H locs hP hD hS => ?_)
    cases hf
    exact g_vret hx hb hr hlocks hP hS dX6_remember_96
theorem kX6_month_0 : Cond.fieldLink RX6 38 "SavingsCircleModel" "thrown" "I" ∈ wsX6_month := (List.mem_cons_of_mem _ (List.mem_append_left _ (List.mem_append_left _ (List.mem_of_getElem? (i := 0) rfl))))
theorem iwX6_month_X6 : ∀ w ∈ wsX60, w ∈ wsX6_month := fun w h => (List.mem_cons_of_mem _ (List.mem_append_right _ h))
set_option maxHeartbeats 4000000 in
set_option maxRecDepth 100000 in
theorem c_X6_month (l : Launch) (G : uG) (a0 : Nat → Nat) (v0 : MdV) {q : Int32 × (MdV)} (hf : f_X6_month v0 = some q) : mQ l yX6_month wsX6_month ({ frames := 3, cells := 0, slots := 0, locals := 70 } : Room) G [.ref (a0 0)] [mdW G a0 v0] [mdW G a0 q.2] (qI G [mdW G a0 q.2] q.1) := by
  unfold f_X6_month at hf
  refine m_of (cc := cX6_month) (maxL := 1) (ret := (some .int)) (by decide) rfl rfl (Nat.le_of_ble_eq_true rfl) ?_
  intro p e s m args below meth c A ls S hK hA hP hD hS hl
  obtain ⟨hx, hb, hml, hown, hts, hr, hlocks⟩ := id S
  have hl : lv_has ls 1 [(0, .ref (a0 0))] := hl
  refine lv_aload_n hx hb dX6_month_0 rfl (lv_at hl 0 rfl) ?_
  refine lv_aload_n hx hb dX6_month_1 rfl (lv_at hl 0 rfl) ?_
  obtain ⟨q1, hq1, hf⟩ := bd_some hf
  refine g_callVi S (As := []) (gs' := [mdW G a0 v0]) (c_X6_canGo l G a0 v0 hq1) (cwV 0 hts gX6_month_X6_canGo rfl rfl rfl hd_X6_canGo ⟨Nat.le_of_ble_eq_true rfl, Nat.le_of_ble_eq_true rfl⟩) hK hP hD hS hA (is := [0]) rfl rfl 0 rfl rfl rfl rfl hl.1 rfl (Nat.le_of_ble_eq_true rfl) dX6_month_2 ⟨Nat.le_of_ble_eq_true rfl, Nat.le_of_ble_eq_true rfl⟩ rfl (fun H locs hP hD hS => ?_)
  refine lv_if_eq (tgt := 12) hx hb dX6_month_5 (by decide) (fun c2 => ?_) (fun c2 => ?_)
  · rw [if_pos c2] at hf
    refine lv_iconst (v := (1:Int32)) hx hb dX6_month_12 (by decide) ?_
    obtain ⟨u3, eu3, hf⟩ := lt_some hf
    refine g_put (ty := .int) (C := RX6) (T := TX6) (N := 15) (gs' := [mdW G a0 u3]) hx hb hts iwX6_month_X6 tyX6 tyX6_ok nmX6 hown hK hP hD hS 0 0 rfl rfl rfl 0 (Nat.le_of_ble_eq_true rfl) (hts _ kX6_month_0) (fun _ h9 => h9) rfl (by decide +kernel) rfl rfl (Nat.le_of_ble_eq_true rfl) dX6_month_13 (by rw [eu3]; rfl) (fun H locs hP hD hS => ?_)
    refine lv_aload_n hx hb dX6_month_16 rfl (lv_at hl 0 rfl) ?_
    refine g_get (C := RX6) (T := TX6) (N := 15) hx hb hts iwX6_month_X6 hown hK hP 0 0 rfl rfl rfl 0 (Nat.le_of_ble_eq_true rfl) (hts _ kX6_month_0) (fun _ h9 => h9) rfl dX6_month_17 ?_
    refine lv_if_le (tgt := 25) hx hb dX6_month_20 (by decide) (fun c4 => ?_) (fun c4 => ?_)
    · rw [if_pos c4] at hf
      refine lv_aload_n hx hb dX6_month_25 rfl (lv_at hl 0 rfl) ?_
      obtain ⟨q5, hq5, hf⟩ := bd_some hf
      refine g_callVv S (As := []) (gs' := [mdW G a0 q5.2]) (c_X6_remember l G a0 u3 hq5) (cwV 0 hts gX6_month_X6_remember rfl rfl rfl hd_X6_remember ⟨Nat.le_of_ble_eq_true rfl, Nat.le_of_ble_eq_true rfl⟩) hK hP hD hS hA (is := [0]) rfl rfl 0 rfl rfl rfl rfl hl.1 rfl (Nat.le_of_ble_eq_true rfl) dX6_month_26 ⟨Nat.le_of_ble_eq_true rfl, Nat.le_of_ble_eq_true rfl⟩ rfl (fun H locs hP hD hS => ?_)
      refine lv_aload_n hx hb dX6_month_29 rfl (lv_at hl 0 rfl) ?_
      obtain ⟨q6, hq6, hf⟩ := bd_some hf
      refine g_callVi S (As := []) (gs' := [mdW G a0 q6.2]) (c_X6_goMonth l G a0 q5.2 hq6) (cwV 0 hts gX6_month_X6_goMonth rfl rfl rfl hd_X6_goMonth ⟨Nat.le_of_ble_eq_true rfl, Nat.le_of_ble_eq_true rfl⟩) hK hP hD hS hA (is := [0]) rfl rfl 0 rfl rfl rfl rfl hl.1 rfl (Nat.le_of_ble_eq_true rfl) dX6_month_30 ⟨Nat.le_of_ble_eq_true rfl, Nat.le_of_ble_eq_true rfl⟩ rfl (fun H locs hP hD hS => ?_)
      cases hf
      exact g_iret hx hb hr hlocks hP hS dX6_month_33
    · rw [if_neg c4] at hf
      refine lv_iconst (v := (0:Int32)) hx hb dX6_month_23 (by decide) ?_
      cases hf
      exact g_iret hx hb hr hlocks hP hS dX6_month_24
  · rw [if_neg c2] at hf
    refine lv_iconst (v := (0:Int32)) hx hb dX6_month_8 (by decide) ?_
    refine lv_goto (tgt := 13) hx hb dX6_month_9 (by decide) ?_
    obtain ⟨u7, eu7, hf⟩ := lt_some hf
    refine g_put (ty := .int) (C := RX6) (T := TX6) (N := 15) (gs' := [mdW G a0 u7]) hx hb hts iwX6_month_X6 tyX6 tyX6_ok nmX6 hown hK hP hD hS 0 0 rfl rfl rfl 0 (Nat.le_of_ble_eq_true rfl) (hts _ kX6_month_0) (fun _ h9 => h9) rfl (by decide +kernel) rfl rfl (Nat.le_of_ble_eq_true rfl) dX6_month_13 (by rw [eu7]; rfl) (fun H locs hP hD hS => ?_)
    refine lv_aload_n hx hb dX6_month_16 rfl (lv_at hl 0 rfl) ?_
    refine g_get (C := RX6) (T := TX6) (N := 15) hx hb hts iwX6_month_X6 hown hK hP 0 0 rfl rfl rfl 0 (Nat.le_of_ble_eq_true rfl) (hts _ kX6_month_0) (fun _ h9 => h9) rfl dX6_month_17 ?_
    refine lv_if_le (tgt := 25) hx hb dX6_month_20 (by decide) (fun c8 => ?_) (fun c8 => ?_)
    · rw [if_pos c8] at hf
      refine lv_aload_n hx hb dX6_month_25 rfl (lv_at hl 0 rfl) ?_
      obtain ⟨q9, hq9, hf⟩ := bd_some hf
      refine g_callVv S (As := []) (gs' := [mdW G a0 q9.2]) (c_X6_remember l G a0 u7 hq9) (cwV 0 hts gX6_month_X6_remember rfl rfl rfl hd_X6_remember ⟨Nat.le_of_ble_eq_true rfl, Nat.le_of_ble_eq_true rfl⟩) hK hP hD hS hA (is := [0]) rfl rfl 0 rfl rfl rfl rfl hl.1 rfl (Nat.le_of_ble_eq_true rfl) dX6_month_26 ⟨Nat.le_of_ble_eq_true rfl, Nat.le_of_ble_eq_true rfl⟩ rfl (fun H locs hP hD hS => ?_)
      refine lv_aload_n hx hb dX6_month_29 rfl (lv_at hl 0 rfl) ?_
      obtain ⟨q10, hq10, hf⟩ := bd_some hf
      refine g_callVi S (As := []) (gs' := [mdW G a0 q10.2]) (c_X6_goMonth l G a0 q9.2 hq10) (cwV 0 hts gX6_month_X6_goMonth rfl rfl rfl hd_X6_goMonth ⟨Nat.le_of_ble_eq_true rfl, Nat.le_of_ble_eq_true rfl⟩) hK hP hD hS hA (is := [0]) rfl rfl 0 rfl rfl rfl rfl hl.1 rfl (Nat.le_of_ble_eq_true rfl) dX6_month_30 ⟨Nat.le_of_ble_eq_true rfl, Nat.le_of_ble_eq_true rfl⟩ rfl (fun H locs hP hD hS => ?_)
      cases hf
      exact g_iret hx hb hr hlocks hP hS dX6_month_33
    · rw [if_neg c8] at hf
      refine lv_iconst (v := (0:Int32)) hx hb dX6_month_23 (by decide) ?_
      cases hf
      exact g_iret hx hb hr hlocks hP hS dX6_month_24
