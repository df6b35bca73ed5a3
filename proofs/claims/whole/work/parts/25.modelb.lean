theorem hd_X6_bitsOf : yX6_bitsOf.cls = RX6 ∧ yX6_bitsOf.cls ≠ "java/lang/invoke/MethodHandle" ∧ yX6_bitsOf.cls ≠ "java/lang/invoke/VarHandle" ∧ (parseMethodDescriptor yX6_bitsOf.desc).map (fun d => d.parameters.length) = some 1 := by decide +kernel
theorem hd_X6_getsAtLeave : yX6_getsAtLeave.cls = RX6 ∧ yX6_getsAtLeave.cls ≠ "java/lang/invoke/MethodHandle" ∧ yX6_getsAtLeave.cls ≠ "java/lang/invoke/VarHandle" ∧ (parseMethodDescriptor yX6_getsAtLeave.desc).map (fun d => d.parameters.length) = some 1 := by decide +kernel
theorem hd_X6_goAway : yX6_goAway.cls = RX6 ∧ yX6_goAway.cls ≠ "java/lang/invoke/MethodHandle" ∧ yX6_goAway.cls ≠ "java/lang/invoke/VarHandle" ∧ (parseMethodDescriptor yX6_goAway.desc).map (fun d => d.parameters.length) = some 1 := by decide +kernel
theorem hd_X6_isMember : yX6_isMember.cls = RX6 ∧ yX6_isMember.cls ≠ "java/lang/invoke/MethodHandle" ∧ yX6_isMember.cls ≠ "java/lang/invoke/VarHandle" ∧ (parseMethodDescriptor yX6_isMember.desc).map (fun d => d.parameters.length) = some 1 := by decide +kernel
theorem hd_X6_letter : yX6_letter.cls = RX6 ∧ yX6_letter.cls ≠ "java/lang/invoke/MethodHandle" ∧ yX6_letter.cls ≠ "java/lang/invoke/VarHandle" ∧ (parseMethodDescriptor yX6_letter.desc).map (fun d => d.parameters.length) = some 1 := by decide +kernel
theorem hd_X6_putInto : yX6_putInto.cls = RX6 ∧ yX6_putInto.cls ≠ "java/lang/invoke/MethodHandle" ∧ yX6_putInto.cls ≠ "java/lang/invoke/VarHandle" ∧ (parseMethodDescriptor yX6_putInto.desc).map (fun d => d.parameters.length) = some 2 := by decide +kernel
theorem hd_X6_readBid : yX6_readBid.cls = RX6 ∧ yX6_readBid.cls ≠ "java/lang/invoke/MethodHandle" ∧ yX6_readBid.cls ≠ "java/lang/invoke/VarHandle" ∧ (parseMethodDescriptor yX6_readBid.desc).map (fun d => d.parameters.length) = some 0 := by decide +kernel
theorem hd_X6_readContribution : yX6_readContribution.cls = RX6 ∧ yX6_readContribution.cls ≠ "java/lang/invoke/MethodHandle" ∧ yX6_readContribution.cls ≠ "java/lang/invoke/VarHandle" ∧ (parseMethodDescriptor yX6_readContribution.desc).map (fun d => d.parameters.length) = some 0 := by decide +kernel
theorem hd_X6_readGuarantor : yX6_readGuarantor.cls = RX6 ∧ yX6_readGuarantor.cls ≠ "java/lang/invoke/MethodHandle" ∧ yX6_readGuarantor.cls ≠ "java/lang/invoke/VarHandle" ∧ (parseMethodDescriptor yX6_readGuarantor.desc).map (fun d => d.parameters.length) = some 0 := by decide +kernel
theorem hd_X6_readMember : yX6_readMember.cls = RX6 ∧ yX6_readMember.cls ≠ "java/lang/invoke/MethodHandle" ∧ yX6_readMember.cls ≠ "java/lang/invoke/VarHandle" ∧ (parseMethodDescriptor yX6_readMember.desc).map (fun d => d.parameters.length) = some 0 := by decide +kernel
theorem hd_X6_readText : yX6_readText.cls = RX6 ∧ yX6_readText.cls ≠ "java/lang/invoke/MethodHandle" ∧ yX6_readText.cls ≠ "java/lang/invoke/VarHandle" ∧ (parseMethodDescriptor yX6_readText.desc).map (fun d => d.parameters.length) = some 0 := by decide +kernel
theorem hd_X6_sumOf : yX6_sumOf.cls = RX6 ∧ yX6_sumOf.cls ≠ "java/lang/invoke/MethodHandle" ∧ yX6_sumOf.cls ≠ "java/lang/invoke/VarHandle" ∧ (parseMethodDescriptor yX6_sumOf.desc).map (fun d => d.parameters.length) = some 2 := by decide +kernel
theorem hd_X6_takes : yX6_takes.cls = RX6 ∧ yX6_takes.cls ≠ "java/lang/invoke/MethodHandle" ∧ yX6_takes.cls ≠ "java/lang/invoke/VarHandle" ∧ (parseMethodDescriptor yX6_takes.desc).map (fun d => d.parameters.length) = some 2 := by decide +kernel
theorem hd_X6_takesThree : yX6_takesThree.cls = RX6 ∧ yX6_takesThree.cls ≠ "java/lang/invoke/MethodHandle" ∧ yX6_takesThree.cls ≠ "java/lang/invoke/VarHandle" ∧ (parseMethodDescriptor yX6_takesThree.desc).map (fun d => d.parameters.length) = some 0 := by decide +kernel
theorem hd_X6_waiting : yX6_waiting.cls = RX6 ∧ yX6_waiting.cls ≠ "java/lang/invoke/MethodHandle" ∧ yX6_waiting.cls ≠ "java/lang/invoke/VarHandle" ∧ (parseMethodDescriptor yX6_waiting.desc).map (fun d => d.parameters.length) = some 0 := by decide +kernel
theorem hd_X6_whyNotBid : yX6_whyNotBid.cls = RX6 ∧ yX6_whyNotBid.cls ≠ "java/lang/invoke/MethodHandle" ∧ yX6_whyNotBid.cls ≠ "java/lang/invoke/VarHandle" ∧ (parseMethodDescriptor yX6_whyNotBid.desc).map (fun d => d.parameters.length) = some 2 := by decide +kernel
theorem hd_X6_whyNotGive : yX6_whyNotGive.cls = RX6 ∧ yX6_whyNotGive.cls ≠ "java/lang/invoke/MethodHandle" ∧ yX6_whyNotGive.cls ≠ "java/lang/invoke/VarHandle" ∧ (parseMethodDescriptor yX6_whyNotGive.desc).map (fun d => d.parameters.length) = some 2 := by decide +kernel
theorem hd_X6_whyNotLeave : yX6_whyNotLeave.cls = RX6 ∧ yX6_whyNotLeave.cls ≠ "java/lang/invoke/MethodHandle" ∧ yX6_whyNotLeave.cls ≠ "java/lang/invoke/VarHandle" ∧ (parseMethodDescriptor yX6_whyNotLeave.desc).map (fun d => d.parameters.length) = some 1 := by decide +kernel
theorem hd_X6_whyNotTwo : yX6_whyNotTwo.cls = RX6 ∧ yX6_whyNotTwo.cls ≠ "java/lang/invoke/MethodHandle" ∧ yX6_whyNotTwo.cls ≠ "java/lang/invoke/VarHandle" ∧ (parseMethodDescriptor yX6_whyNotTwo.desc).map (fun d => d.parameters.length) = some 2 := by decide +kernel
theorem kX6_thrown_0 : Cond.fieldLink RX6 38 "SavingsCircleModel" "thrown" "I" ∈ wsX6_thrown := (List.mem_cons_of_mem _ (List.mem_append_left _ (List.mem_of_getElem? (i := 0) rfl)))
theorem iwX6_thrown_X6 : ∀ w ∈ wsX60, w ∈ wsX6_thrown := fun w h => (List.mem_cons_of_mem _ (List.mem_append_right _ h))
set_option maxHeartbeats 4000000 in
set_option maxRecDepth 100000 in
theorem c_X6_thrown (l : Launch) (G : uG) (a0 : Nat → Nat) (v0 : MdV) {q : Int32 × (Unit)} (hf : f_X6_thrown v0 = some q) : mQ l yX6_thrown wsX6_thrown ({ frames := 0, cells := 0, slots := 0, locals := 0 } : Room) G [.ref (a0 0)] [mdW G a0 v0] [mdW G a0 v0] (qI G [mdW G a0 v0] q.1) := by
  unfold f_X6_thrown at hf
  refine m_of (cc := cX6_thrown) (maxL := 1) (ret := (some .int)) (by decide) rfl rfl (Nat.le_of_ble_eq_true rfl) ?_
  intro p e s m args below meth c A ls S hK hA hP hD hS hl
  obtain ⟨hx, hb, hml, hown, hts, hr, hlocks⟩ := id S
  have hl : lv_has ls 1 [(0, .ref (a0 0))] := hl
  refine lv_aload_n hx hb dX6_thrown_0 rfl (lv_at hl 0 rfl) ?_
  refine g_get (C := RX6) (T := TX6) (N := 15) hx hb hts iwX6_thrown_X6 hown hK hP 0 0 rfl rfl rfl 0 (Nat.le_of_ble_eq_true rfl) (hts _ kX6_thrown_0) (fun _ h9 => h9) rfl dX6_thrown_1 ?_
  cases hf
  exact g_iret hx hb hr hlocks hP hS dX6_thrown_4
theorem kX6_append_0 : Cond.fieldLink RX6 92 "SavingsCircleModel" "typed" "I" ∈ wsX6_append := (List.mem_cons_of_mem _ (List.mem_append_left _ (List.mem_of_getElem? (i := 0) rfl)))
theorem kX6_append_1 : Cond.fieldLink RX6 38 "SavingsCircleModel" "thrown" "I" ∈ wsX6_append := (List.mem_cons_of_mem _ (List.mem_append_left _ (List.mem_of_getElem? (i := 1) rfl)))
theorem kX6_append_2 : Cond.fieldLink RX6 26 "SavingsCircleModel" "text" "[I" ∈ wsX6_append := (List.mem_cons_of_mem _ (List.mem_append_left _ (List.mem_of_getElem? (i := 2) rfl)))
theorem iwX6_append_X6 : ∀ w ∈ wsX60, w ∈ wsX6_append := fun w h => (List.mem_cons_of_mem _ (List.mem_append_right _ h))
set_option maxHeartbeats 4000000 in
set_option maxRecDepth 100000 in
theorem c_X6_append (l : Launch) (G : uG) (a0 : Nat → Nat) (v0 : MdV) (i1 : Int32) {q : Int32 × (MdV)} (hf : f_X6_append v0 i1 = some q) : mQ l yX6_append wsX6_append ({ frames := 1, cells := 0, slots := 0, locals := 22 } : Room) G [.ref (a0 0), .int i1] [mdW G a0 v0] [mdW G a0 q.2] (qI G [mdW G a0 q.2] q.1) := by
  unfold f_X6_append at hf
  refine m_of (cc := cX6_append) (maxL := 2) (ret := (some .int)) (by decide) rfl rfl (Nat.le_of_ble_eq_true rfl) ?_
  intro p e s m args below meth c A ls S hK hA hP hD hS hl
  obtain ⟨hx, hb, hml, hown, hts, hr, hlocks⟩ := id S
  have hl : lv_has ls 2 [(0, .ref (a0 0)), (1, .int i1)] := hl
  refine lv_aload_n hx hb dX6_append_0 rfl (lv_at hl 0 rfl) ?_
  refine lv_iload_n hx hb dX6_append_1 rfl (lv_at hl 1 rfl) ?_
  refine lv_iconst (v := (0:Int32)) hx hb dX6_append_2 (by decide) ?_
  refine lv_sipush (v := (255:Int32)) hx hb dX6_append_3 (by decide) ?_
  obtain ⟨q1, hq1, hf⟩ := bd_some hf
  refine g_callSi S (As := [.int i1, .int (0:Int32), .int (255:Int32)]) (gs' := [mdW G a0 v0]) (c_X6_in l G i1 (0:Int32) (255:Int32) hq1) (va_cwS 3 hts gX6_append_X6_in rfl rfl rfl hd_X6_in.2 ⟨Nat.le_of_ble_eq_true rfl, Nat.le_of_ble_eq_true rfl⟩) hK hP hD hS hA (is := []) rfl rfl rfl hl.1 rfl (Nat.le_of_ble_eq_true rfl) dX6_append_6 ⟨Nat.le_of_ble_eq_true rfl, Nat.le_of_ble_eq_true rfl⟩ rfl (fun H locs hP hD hS => ?_)
  refine lv_if_ne (tgt := 16) hx hb dX6_append_9 (by decide) (fun c2 => ?_) (fun c2 => ?_)
  · rw [if_neg c2] at hf
    refine lv_aload_n hx hb dX6_append_16 rfl (lv_at hl 0 rfl) ?_
    refine g_get (C := RX6) (T := TX6) (N := 15) hx hb hts iwX6_append_X6 hown hK hP 0 0 rfl rfl rfl 8 (Nat.le_of_ble_eq_true rfl) (hts _ kX6_append_0) (fun _ h9 => h9) rfl dX6_append_17 ?_
    refine lv_bipush (v := (100:Int32)) hx hb dX6_append_20 (by decide) ?_
    refine lv_icmp_ne (tgt := 29) hx hb dX6_append_22 (by decide) (fun c3 => ?_) (fun c3 => ?_)
    · rw [if_neg c3] at hf
      refine lv_iconst (v := (0:Int32)) hx hb dX6_append_29 (by decide) ?_
      obtain ⟨u4, eu4, hf⟩ := lt_some hf
      refine g_put (ty := .int) (C := RX6) (T := TX6) (N := 15) (gs' := [mdW G a0 u4]) hx hb hts iwX6_append_X6 tyX6 tyX6_ok nmX6 hown hK hP hD hS 0 0 rfl rfl rfl 0 (Nat.le_of_ble_eq_true rfl) (hts _ kX6_append_1) (fun _ h9 => h9) rfl (by decide +kernel) rfl rfl (Nat.le_of_ble_eq_true rfl) dX6_append_30 (by rw [eu4]; rfl) (fun H locs hP hD hS => ?_)
      refine lv_aload_n hx hb dX6_append_33 rfl (lv_at hl 0 rfl) ?_
      refine g_get (C := RX6) (T := TX6) (N := 15) hx hb hts iwX6_append_X6 hown hK hP 0 0 rfl rfl rfl 0 (Nat.le_of_ble_eq_true rfl) (hts _ kX6_append_1) (fun _ h9 => h9) rfl dX6_append_34 ?_
      refine lv_if_le (tgt := 42) hx hb dX6_append_37 (by decide) (fun c5 => ?_) (fun c5 => ?_)
      · rw [if_pos c5] at hf
        refine lv_aload_n hx hb dX6_append_42 rfl (lv_at hl 0 rfl) ?_
        refine g_get (C := RX6) (T := TX6) (N := 15) hx hb hts iwX6_append_X6 hown hK hP 0 0 rfl rfl rfl 7 (Nat.le_of_ble_eq_true rfl) (hts _ kX6_append_2) (fun _ h9 => h9) rfl dX6_append_43 ?_
        refine lv_aload_n hx hb dX6_append_46 rfl (lv_at hl 0 rfl) ?_
        refine g_get (C := RX6) (T := TX6) (N := 15) hx hb hts iwX6_append_X6 hown hK hP 0 0 rfl rfl rfl 8 (Nat.le_of_ble_eq_true rfl) (hts _ kX6_append_0) (fun _ h9 => h9) rfl dX6_append_47 ?_
        refine lv_iload_n hx hb dX6_append_50 rfl (lv_at hl 1 rfl) ?_
        obtain ⟨h6, hf⟩ := gi_some hf
        obtain ⟨u7, eu7, hf⟩ := lt_some hf
        refine g_iast (gs' := [mdW G a0 u7]) hx hb hK hP hD hS 0 6 0 rfl rfl rfl h6 dX6_append_51 (by rw [eu7]; rfl) (fun H locs hP hD hS => ?_)
        refine lv_aload_n hx hb dX6_append_52 rfl (lv_at hl 0 rfl) ?_
        refine lv_dup hx hb dX6_append_53 rfl ?_
        refine g_get (C := RX6) (T := TX6) (N := 15) hx hb hts iwX6_append_X6 hown hK hP 0 0 rfl rfl rfl 8 (Nat.le_of_ble_eq_true rfl) (hts _ kX6_append_0) (fun _ h9 => h9) rfl dX6_append_54 ?_
        refine lv_iconst (v := (1:Int32)) hx hb dX6_append_57 (by decide) ?_
        refine lv_iadd hx hb dX6_append_58 ?_
        obtain ⟨u8, eu8, hf⟩ := lt_some hf
        refine g_put (ty := .int) (C := RX6) (T := TX6) (N := 15) (gs' := [mdW G a0 u8]) hx hb hts iwX6_append_X6 tyX6 tyX6_ok nmX6 hown hK hP hD hS 0 0 rfl rfl rfl 8 (Nat.le_of_ble_eq_true rfl) (hts _ kX6_append_0) (fun _ h9 => h9) rfl (by decide +kernel) rfl rfl (Nat.le_of_ble_eq_true rfl) dX6_append_59 (by rw [eu8]; rfl) (fun H locs hP hD hS => ?_)
        refine lv_aload_n hx hb dX6_append_62 rfl (lv_at hl 0 rfl) ?_
        refine g_get (C := RX6) (T := TX6) (N := 15) hx hb hts iwX6_append_X6 hown hK hP 0 0 rfl rfl rfl 8 (Nat.le_of_ble_eq_true rfl) (hts _ kX6_append_0) (fun _ h9 => h9) rfl dX6_append_63 ?_
        cases hf
        exact g_iret hx hb hr hlocks hP hS dX6_append_66
      · rw [if_neg c5] at hf
        refine lv_iconst (v := (0:Int32)) hx hb dX6_append_40 (by decide) ?_
        cases hf
        exact g_iret hx hb hr hlocks hP hS dX6_append_41
    · rw [if_pos c3] at hf
      refine lv_iconst (v := (2:Int32)) hx hb dX6_append_25 (by decide) ?_
      refine lv_goto (tgt := 30) hx hb dX6_append_26 (by decide) ?_
      obtain ⟨u9, eu9, hf⟩ := lt_some hf
      refine g_put (ty := .int) (C := RX6) (T := TX6) (N := 15) (gs' := [mdW G a0 u9]) hx hb hts iwX6_append_X6 tyX6 tyX6_ok nmX6 hown hK hP hD hS 0 0 rfl rfl rfl 0 (Nat.le_of_ble_eq_true rfl) (hts _ kX6_append_1) (fun _ h9 => h9) rfl (by decide +kernel) rfl rfl (Nat.le_of_ble_eq_true rfl) dX6_append_30 (by rw [eu9]; rfl) (fun H locs hP hD hS => ?_)
      refine lv_aload_n hx hb dX6_append_33 rfl (lv_at hl 0 rfl) ?_
      refine g_get (C := RX6) (T := TX6) (N := 15) hx hb hts iwX6_append_X6 hown hK hP 0 0 rfl rfl rfl 0 (Nat.le_of_ble_eq_true rfl) (hts _ kX6_append_1) (fun _ h9 => h9) rfl dX6_append_34 ?_
      refine lv_if_le (tgt := 42) hx hb dX6_append_37 (by decide) (fun c10 => ?_) (fun c10 => ?_)
      · rw [if_pos c10] at hf
        refine lv_aload_n hx hb dX6_append_42 rfl (lv_at hl 0 rfl) ?_
        refine g_get (C := RX6) (T := TX6) (N := 15) hx hb hts iwX6_append_X6 hown hK hP 0 0 rfl rfl rfl 7 (Nat.le_of_ble_eq_true rfl) (hts _ kX6_append_2) (fun _ h9 => h9) rfl dX6_append_43 ?_
        refine lv_aload_n hx hb dX6_append_46 rfl (lv_at hl 0 rfl) ?_
        refine g_get (C := RX6) (T := TX6) (N := 15) hx hb hts iwX6_append_X6 hown hK hP 0 0 rfl rfl rfl 8 (Nat.le_of_ble_eq_true rfl) (hts _ kX6_append_0) (fun _ h9 => h9) rfl dX6_append_47 ?_
        refine lv_iload_n hx hb dX6_append_50 rfl (lv_at hl 1 rfl) ?_
        obtain ⟨h11, hf⟩ := gi_some hf
        obtain ⟨u12, eu12, hf⟩ := lt_some hf
        refine g_iast (gs' := [mdW G a0 u12]) hx hb hK hP hD hS 0 6 0 rfl rfl rfl h11 dX6_append_51 (by rw [eu12]; rfl) (fun H locs hP hD hS => ?_)
        refine lv_aload_n hx hb dX6_append_52 rfl (lv_at hl 0 rfl) ?_
        refine lv_dup hx hb dX6_append_53 rfl ?_
        refine g_get (C := RX6) (T := TX6) (N := 15) hx hb hts iwX6_append_X6 hown hK hP 0 0 rfl rfl rfl 8 (Nat.le_of_ble_eq_true rfl) (hts _ kX6_append_0) (fun _ h9 => h9) rfl dX6_append_54 ?_
        refine lv_iconst (v := (1:Int32)) hx hb dX6_append_57 (by decide) ?_
        refine lv_iadd hx hb dX6_append_58 ?_
        obtain ⟨u13, eu13, hf⟩ := lt_some hf
        refine g_put (ty := .int) (C := RX6) (T := TX6) (N := 15) (gs' := [mdW G a0 u13]) hx hb hts iwX6_append_X6 tyX6 tyX6_ok nmX6 hown hK hP hD hS 0 0 rfl rfl rfl 8 (Nat.le_of_ble_eq_true rfl) (hts _ kX6_append_0) (fun _ h9 => h9) rfl (by decide +kernel) rfl rfl (Nat.le_of_ble_eq_true rfl) dX6_append_59 (by rw [eu13]; rfl) (fun H locs hP hD hS => ?_)
        refine lv_aload_n hx hb dX6_append_62 rfl (lv_at hl 0 rfl) ?_
        refine g_get (C := RX6) (T := TX6) (N := 15) hx hb hts iwX6_append_X6 hown hK hP 0 0 rfl rfl rfl 8 (Nat.le_of_ble_eq_true rfl) (hts _ kX6_append_0) (fun _ h9 => h9) rfl dX6_append_63 ?_
        cases hf
        exact g_iret hx hb hr hlocks hP hS dX6_append_66
      · rw [if_neg c10] at hf
        refine lv_iconst (v := (0:Int32)) hx hb dX6_append_40 (by decide) ?_
        cases hf
        exact g_iret hx hb hr hlocks hP hS dX6_append_41
  · rw [if_pos c2] at hf
    refine lv_iconst (v := (1:Int32)) hx hb dX6_append_12 (by decide) ?_
    refine lv_goto (tgt := 30) hx hb dX6_append_13 (by decide) ?_
    obtain ⟨u14, eu14, hf⟩ := lt_some hf
    refine g_put (ty := .int) (C := RX6) (T := TX6) (N := 15) (gs' := [mdW G a0 u14]) hx hb hts iwX6_append_X6 tyX6 tyX6_ok nmX6 hown hK hP hD hS 0 0 rfl rfl rfl 0 (Nat.le_of_ble_eq_true rfl) (hts _ kX6_append_1) (fun _ h9 => h9) rfl (by decide +kernel) rfl rfl (Nat.le_of_ble_eq_true rfl) dX6_append_30 (by rw [eu14]; rfl) (fun H locs hP hD hS => ?_)
    refine lv_aload_n hx hb dX6_append_33 rfl (lv_at hl 0 rfl) ?_
    refine g_get (C := RX6) (T := TX6) (N := 15) hx hb hts iwX6_append_X6 hown hK hP 0 0 rfl rfl rfl 0 (Nat.le_of_ble_eq_true rfl) (hts _ kX6_append_1) (fun _ h9 => h9) rfl dX6_append_34 ?_
    refine lv_if_le (tgt := 42) hx hb dX6_append_37 (by decide) (fun c15 => ?_) (fun c15 => ?_)
    · rw [if_pos c15] at hf
      refine lv_aload_n hx hb dX6_append_42 rfl (lv_at hl 0 rfl) ?_
      refine g_get (C := RX6) (T := TX6) (N := 15) hx hb hts iwX6_append_X6 hown hK hP 0 0 rfl rfl rfl 7 (Nat.le_of_ble_eq_true rfl) (hts _ kX6_append_2) (fun _ h9 => h9) rfl dX6_append_43 ?_
      refine lv_aload_n hx hb dX6_append_46 rfl (lv_at hl 0 rfl) ?_
      refine g_get (C := RX6) (T := TX6) (N := 15) hx hb hts iwX6_append_X6 hown hK hP 0 0 rfl rfl rfl 8 (Nat.le_of_ble_eq_true rfl) (hts _ kX6_append_0) (fun _ h9 => h9) rfl dX6_append_47 ?_
      refine lv_iload_n hx hb dX6_append_50 rfl (lv_at hl 1 rfl) ?_
      obtain ⟨h16, hf⟩ := gi_some hf
      obtain ⟨u17, eu17, hf⟩ := lt_some hf
      refine g_iast (gs' := [mdW G a0 u17]) hx hb hK hP hD hS 0 6 0 rfl rfl rfl h16 dX6_append_51 (by rw [eu17]; rfl) (fun H locs hP hD hS => ?_)
      refine lv_aload_n hx hb dX6_append_52 rfl (lv_at hl 0 rfl) ?_
      refine lv_dup hx hb dX6_append_53 rfl ?_
      refine g_get (C := RX6) (T := TX6) (N := 15) hx hb hts iwX6_append_X6 hown hK hP 0 0 rfl rfl rfl 8 (Nat.le_of_ble_eq_true rfl) (hts _ kX6_append_0) (fun _ h9 => h9) rfl dX6_append_54 ?_
      refine lv_iconst (v := (1:Int32)) hx hb dX6_append_57 (by decide) ?_
      refine lv_iadd hx hb dX6_append_58 ?_
      obtain ⟨u18, eu18, hf⟩ := lt_some hf
      refine g_put (ty := .int) (C := RX6) (T := TX6) (N := 15) (gs' := [mdW G a0 u18]) hx hb hts iwX6_append_X6 tyX6 tyX6_ok nmX6 hown hK hP hD hS 0 0 rfl rfl rfl 8 (Nat.le_of_ble_eq_true rfl) (hts _ kX6_append_0) (fun _ h9 => h9) rfl (by decide +kernel) rfl rfl (Nat.le_of_ble_eq_true rfl) dX6_append_59 (by rw [eu18]; rfl) (fun H locs hP hD hS => ?_)
      refine lv_aload_n hx hb dX6_append_62 rfl (lv_at hl 0 rfl) ?_
      refine g_get (C := RX6) (T := TX6) (N := 15) hx hb hts iwX6_append_X6 hown hK hP 0 0 rfl rfl rfl 8 (Nat.le_of_ble_eq_true rfl) (hts _ kX6_append_0) (fun _ h9 => h9) rfl dX6_append_63 ?_
      cases hf
      exact g_iret hx hb hr hlocks hP hS dX6_append_66
    · rw [if_neg c15] at hf
      refine lv_iconst (v := (0:Int32)) hx hb dX6_append_40 (by decide) ?_
      cases hf
      exact g_iret hx hb hr hlocks hP hS dX6_append_41
theorem kX6_clearText_0 : Cond.fieldLink RX6 38 "SavingsCircleModel" "thrown" "I" ∈ wsX6_clearText := (List.mem_cons_of_mem _ (List.mem_append_left _ (List.mem_of_getElem? (i := 0) rfl)))
theorem kX6_clearText_1 : Cond.fieldLink RX6 92 "SavingsCircleModel" "typed" "I" ∈ wsX6_clearText := (List.mem_cons_of_mem _ (List.mem_append_left _ (List.mem_of_getElem? (i := 1) rfl)))
theorem iwX6_clearText_X6 : ∀ w ∈ wsX60, w ∈ wsX6_clearText := fun w h => (List.mem_cons_of_mem _ (List.mem_append_right _ h))
set_option maxHeartbeats 4000000 in
set_option maxRecDepth 100000 in
theorem c_X6_clearText (l : Launch) (G : uG) (a0 : Nat → Nat) (v0 : MdV) {q : Int32 × (MdV)} (hf : f_X6_clearText v0 = some q) : mQ l yX6_clearText wsX6_clearText ({ frames := 0, cells := 0, slots := 0, locals := 0 } : Room) G [.ref (a0 0)] [mdW G a0 v0] [mdW G a0 q.2] (qI G [mdW G a0 q.2] q.1) := by
  unfold f_X6_clearText at hf
  refine m_of (cc := cX6_clearText) (maxL := 2) (ret := (some .int)) (by decide) rfl rfl (Nat.le_of_ble_eq_true rfl) ?_
  intro p e s m args below meth c A ls S hK hA hP hD hS hl
  obtain ⟨hx, hb, hml, hown, hts, hr, hlocks⟩ := id S
  have hl : lv_has ls 2 [(0, .ref (a0 0))] := hl
  refine lv_aload_n hx hb dX6_clearText_0 rfl (lv_at hl 0 rfl) ?_
  refine lv_iconst (v := (0:Int32)) hx hb dX6_clearText_1 (by decide) ?_
  obtain ⟨u1, eu1, hf⟩ := lt_some hf
  refine g_put (ty := .int) (C := RX6) (T := TX6) (N := 15) (gs' := [mdW G a0 u1]) hx hb hts iwX6_clearText_X6 tyX6 tyX6_ok nmX6 hown hK hP hD hS 0 0 rfl rfl rfl 0 (Nat.le_of_ble_eq_true rfl) (hts _ kX6_clearText_0) (fun _ h9 => h9) rfl (by decide +kernel) rfl rfl (Nat.le_of_ble_eq_true rfl) dX6_clearText_2 (by rw [eu1]; rfl) (fun H locs hP hD hS => ?_)
  refine lv_aload_n hx hb dX6_clearText_5 rfl (lv_at hl 0 rfl) ?_
  refine g_get (C := RX6) (T := TX6) (N := 15) hx hb hts iwX6_clearText_X6 hown hK hP 0 0 rfl rfl rfl 8 (Nat.le_of_ble_eq_true rfl) (hts _ kX6_clearText_1) (fun _ h9 => h9) rfl dX6_clearText_6 ?_
  obtain ⟨x2, ex2, hf⟩ := lt_some hf
  refine lv_nmi ex2 ?_
  refine lv_istore_n (lv' := [(1, .int x2), (0, .ref (a0 0))]) hx hb dX6_clearText_9 rfl hl (by decide) rfl (fun ls hl => ?_)
  refine lv_aload_n hx hb dX6_clearText_10 rfl (lv_at hl 1 rfl) ?_
  refine lv_iconst (v := (0:Int32)) hx hb dX6_clearText_11 (by decide) ?_
  obtain ⟨u3, eu3, hf⟩ := lt_some hf
  refine g_put (ty := .int) (C := RX6) (T := TX6) (N := 15) (gs' := [mdW G a0 u3]) hx hb hts iwX6_clearText_X6 tyX6 tyX6_ok nmX6 hown hK hP hD hS 0 0 rfl rfl rfl 8 (Nat.le_of_ble_eq_true rfl) (hts _ kX6_clearText_1) (fun _ h9 => h9) rfl (by decide +kernel) rfl rfl (Nat.le_of_ble_eq_true rfl) dX6_clearText_12 (by rw [eu3]; rfl) (fun H locs hP hD hS => ?_)
  refine lv_iload_n hx hb dX6_clearText_15 rfl (lv_at hl 0 rfl) ?_
  cases hf
  exact g_iret hx hb hr hlocks hP hS dX6_clearText_16
theorem kX6_letter_0 : Cond.fieldLink RX6 92 "SavingsCircleModel" "typed" "I" ∈ wsX6_letter := (List.mem_cons_of_mem _ (List.mem_append_left _ (List.mem_of_getElem? (i := 0) rfl)))
theorem kX6_letter_1 : Cond.fieldLink RX6 26 "SavingsCircleModel" "text" "[I" ∈ wsX6_letter := (List.mem_cons_of_mem _ (List.mem_append_left _ (List.mem_of_getElem? (i := 1) rfl)))
theorem iwX6_letter_X6 : ∀ w ∈ wsX60, w ∈ wsX6_letter := fun w h => (List.mem_cons_of_mem _ (List.mem_append_right _ h))
set_option maxHeartbeats 4000000 in
set_option maxRecDepth 100000 in
theorem c_X6_letter (l : Launch) (G : uG) (a0 : Nat → Nat) (v0 : MdV) (i1 : Int32) {q : Int32 × (Unit)} (hf : f_X6_letter v0 i1 = some q) : mQ l yX6_letter wsX6_letter ({ frames := 0, cells := 0, slots := 0, locals := 0 } : Room) G [.ref (a0 0), .int i1] [mdW G a0 v0] [mdW G a0 v0] (qI G [mdW G a0 v0] q.1) := by
  unfold f_X6_letter at hf
  refine m_of (cc := cX6_letter) (maxL := 2) (ret := (some .int)) (by decide) rfl rfl (Nat.le_of_ble_eq_true rfl) ?_
  intro p e s m args below meth c A ls S hK hA hP hD hS hl
  obtain ⟨hx, hb, hml, hown, hts, hr, hlocks⟩ := id S
  have hl : lv_has ls 2 [(0, .ref (a0 0)), (1, .int i1)] := hl
  refine lv_iload_n hx hb dX6_letter_0 rfl (lv_at hl 1 rfl) ?_
  refine lv_aload_n hx hb dX6_letter_1 rfl (lv_at hl 0 rfl) ?_
  refine g_get (C := RX6) (T := TX6) (N := 15) hx hb hts iwX6_letter_X6 hown hK hP 0 0 rfl rfl rfl 8 (Nat.le_of_ble_eq_true rfl) (hts _ kX6_letter_0) (fun _ h9 => h9) rfl dX6_letter_2 ?_
  refine lv_icmp_ge (tgt := 17) hx hb dX6_letter_5 (by decide) (fun c1 => ?_) (fun c1 => ?_)
  · rw [if_pos c1] at hf
    refine lv_iconst (v := (-1:Int32)) hx hb dX6_letter_17 (by decide) ?_
    cases hf
    exact g_iret hx hb hr hlocks hP hS dX6_letter_18
  · rw [if_neg c1] at hf
    refine lv_aload_n hx hb dX6_letter_8 rfl (lv_at hl 0 rfl) ?_
    refine g_get (C := RX6) (T := TX6) (N := 15) hx hb hts iwX6_letter_X6 hown hK hP 0 0 rfl rfl rfl 7 (Nat.le_of_ble_eq_true rfl) (hts _ kX6_letter_1) (fun _ h9 => h9) rfl dX6_letter_9 ?_
    refine lv_iload_n hx hb dX6_letter_12 rfl (lv_at hl 1 rfl) ?_
    obtain ⟨h2, hf⟩ := gi_some hf
    refine g_iald hx hb hK hP 0 6 0 rfl rfl rfl h2 dX6_letter_13 ?_
    refine lv_goto (tgt := 18) hx hb dX6_letter_14 (by decide) ?_
    cases hf
    exact g_iret hx hb hr hlocks hP hS dX6_letter_18
theorem kX6_takes_0 : Cond.fieldLink RX6 95 "SavingsCircleModel" "spot" "I" ∈ wsX6_takes := (List.mem_cons_of_mem _ (List.mem_append_left _ (List.mem_of_getElem? (i := 0) rfl)))
theorem kX6_takes_1 : Cond.fieldLink RX6 101 "SavingsCircleModel" "wrong" "I" ∈ wsX6_takes := (List.mem_cons_of_mem _ (List.mem_append_left _ (List.mem_of_getElem? (i := 1) rfl)))
theorem kX6_takes_2 : Cond.constant RX6 49 (-99999) ∈ wsX6_takes := (List.mem_cons_of_mem _ (List.mem_append_left _ (List.mem_of_getElem? (i := 2) rfl)))
theorem iwX6_takes_X6 : ∀ w ∈ wsX60, w ∈ wsX6_takes := fun w h => (List.mem_cons_of_mem _ (List.mem_append_right _ h))
set_option maxHeartbeats 4000000 in
set_option maxRecDepth 100000 in
theorem c_X6_takes (l : Launch) (G : uG) (a0 : Nat → Nat) (v0 : MdV) (i1 : Int32) (i2 : Int32) {q : Int32 × (MdV)} (hf : f_X6_takes v0 i1 i2 = some q) : mQ l yX6_takes wsX6_takes ({ frames := 1, cells := 0, slots := 0, locals := 22 } : Room) G [.ref (a0 0), .int i1, .int i2] [mdW G a0 v0] [mdW G a0 q.2] (qI G [mdW G a0 q.2] q.1) := by
  unfold f_X6_takes at hf
  refine m_of (cc := cX6_takes) (maxL := 4) (ret := (some .int)) (by decide) rfl rfl (Nat.le_of_ble_eq_true rfl) ?_
  intro p e s m args below meth c A ls S hK hA hP hD hS hl
  obtain ⟨hx, hb, hml, hown, hts, hr, hlocks⟩ := id S
  have hl : lv_has ls 4 [(0, .ref (a0 0)), (1, .int i1), (2, .int i2)] := hl
  refine lv_aload_n hx hb dX6_takes_0 rfl (lv_at hl 0 rfl) ?_
  refine lv_aload_n hx hb dX6_takes_1 rfl (lv_at hl 0 rfl) ?_
  refine g_get (C := RX6) (T := TX6) (N := 15) hx hb hts iwX6_takes_X6 hown hK hP 0 0 rfl rfl rfl 13 (Nat.le_of_ble_eq_true rfl) (hts _ kX6_takes_0) (fun _ h9 => h9) rfl dX6_takes_2 ?_
  obtain ⟨q1, hq1, hf⟩ := bd_some hf
  refine g_callVi S (As := [.int (Md_spot v0)]) (gs' := [mdW G a0 v0]) (c_X6_letter l G a0 v0 (Md_spot v0) hq1) (cwV 1 hts gX6_takes_X6_letter rfl rfl rfl hd_X6_letter ⟨Nat.le_of_ble_eq_true rfl, Nat.le_of_ble_eq_true rfl⟩) hK hP hD hS hA (is := [0]) rfl rfl 0 rfl rfl rfl rfl hl.1 rfl (Nat.le_of_ble_eq_true rfl) dX6_takes_5 ⟨Nat.le_of_ble_eq_true rfl, Nat.le_of_ble_eq_true rfl⟩ rfl (fun H locs hP hD hS => ?_)
  refine lv_istore_n (lv' := [(3, .int q1.1), (0, .ref (a0 0)), (1, .int i1), (2, .int i2)]) hx hb dX6_takes_8 rfl hl (by decide) rfl (fun ls hl => ?_)
  refine lv_aload_n hx hb dX6_takes_9 rfl (lv_at hl 1 rfl) ?_
  refine g_get (C := RX6) (T := TX6) (N := 15) hx hb hts iwX6_takes_X6 hown hK hP 0 0 rfl rfl rfl 14 (Nat.le_of_ble_eq_true rfl) (hts _ kX6_takes_1) (fun _ h9 => h9) rfl dX6_takes_10 ?_
  refine lv_ldc (v := (-99999:Int32)) hx hb hown (hts _ kX6_takes_2) dX6_takes_13 ?_
  refine lv_icmp_ne (tgt := 41) hx hb dX6_takes_15 (by decide) (fun c2 => ?_) (fun c2 => ?_)
  · rw [if_neg c2] at hf
    refine lv_aload_n hx hb dX6_takes_41 rfl (lv_at hl 1 rfl) ?_
    refine lv_dup hx hb dX6_takes_42 rfl ?_
    refine g_get (C := RX6) (T := TX6) (N := 15) hx hb hts iwX6_takes_X6 hown hK hP 0 0 rfl rfl rfl 13 (Nat.le_of_ble_eq_true rfl) (hts _ kX6_takes_0) (fun _ h9 => h9) rfl dX6_takes_43 ?_
    refine lv_iconst (v := (1:Int32)) hx hb dX6_takes_46 (by decide) ?_
    refine lv_iadd hx hb dX6_takes_47 ?_
    obtain ⟨u3, eu3, hf⟩ := lt_some hf
    refine g_put (ty := .int) (C := RX6) (T := TX6) (N := 15) (gs' := [mdW G a0 u3]) hx hb hts iwX6_takes_X6 tyX6 tyX6_ok nmX6 hown hK hP hD hS 0 0 rfl rfl rfl 13 (Nat.le_of_ble_eq_true rfl) (hts _ kX6_takes_0) (fun _ h9 => h9) rfl (by decide +kernel) rfl rfl (Nat.le_of_ble_eq_true rfl) dX6_takes_48 (by rw [eu3]; rfl) (fun H locs hP hD hS => ?_)
    refine lv_iload_n hx hb dX6_takes_51 rfl (lv_at hl 0 rfl) ?_
    refine lv_bipush (v := (48:Int32)) hx hb dX6_takes_52 (by decide) ?_
    refine lv_isub hx hb dX6_takes_54 ?_
    cases hf
    exact g_iret hx hb hr hlocks hP hS dX6_takes_55
  · rw [if_pos c2] at hf
    refine lv_iload_n hx hb dX6_takes_18 rfl (lv_at hl 0 rfl) ?_
    refine lv_bipush (v := (48:Int32)) hx hb dX6_takes_19 (by decide) ?_
    refine lv_iload_n hx hb dX6_takes_21 rfl (lv_at hl 2 rfl) ?_
    refine lv_iadd hx hb dX6_takes_22 ?_
    refine lv_bipush (v := (48:Int32)) hx hb dX6_takes_23 (by decide) ?_
    refine lv_iload_n hx hb dX6_takes_25 rfl (lv_at hl 3 rfl) ?_
    refine lv_iadd hx hb dX6_takes_26 ?_
    obtain ⟨q4, hq4, hf⟩ := bd_some hf
    refine g_callSi S (As := [.int q1.1, .int ((48:Int32) + i1), .int ((48:Int32) + i2)]) (gs' := [mdW G a0 v0]) (c_X6_in l G q1.1 ((48:Int32) + i1) ((48:Int32) + i2) hq4) (va_cwS 3 hts gX6_takes_X6_in rfl rfl rfl hd_X6_in.2 ⟨Nat.le_of_ble_eq_true rfl, Nat.le_of_ble_eq_true rfl⟩) hK hP hD hS hA (is := []) rfl rfl rfl hl.1 rfl (Nat.le_of_ble_eq_true rfl) dX6_takes_27 ⟨Nat.le_of_ble_eq_true rfl, Nat.le_of_ble_eq_true rfl⟩ rfl (fun H locs hP hD hS => ?_)
    refine lv_if_ne (tgt := 41) hx hb dX6_takes_30 (by decide) (fun c5 => ?_) (fun c5 => ?_)
    · rw [if_neg c5] at hf
      refine lv_aload_n hx hb dX6_takes_41 rfl (lv_at hl 1 rfl) ?_
      refine lv_dup hx hb dX6_takes_42 rfl ?_
      refine g_get (C := RX6) (T := TX6) (N := 15) hx hb hts iwX6_takes_X6 hown hK hP 0 0 rfl rfl rfl 13 (Nat.le_of_ble_eq_true rfl) (hts _ kX6_takes_0) (fun _ h9 => h9) rfl dX6_takes_43 ?_
      refine lv_iconst (v := (1:Int32)) hx hb dX6_takes_46 (by decide) ?_
      refine lv_iadd hx hb dX6_takes_47 ?_
      obtain ⟨u6, eu6, hf⟩ := lt_some hf
      refine g_put (ty := .int) (C := RX6) (T := TX6) (N := 15) (gs' := [mdW G a0 u6]) hx hb hts iwX6_takes_X6 tyX6 tyX6_ok nmX6 hown hK hP hD hS 0 0 rfl rfl rfl 13 (Nat.le_of_ble_eq_true rfl) (hts _ kX6_takes_0) (fun _ h9 => h9) rfl (by decide +kernel) rfl rfl (Nat.le_of_ble_eq_true rfl) dX6_takes_48 (by rw [eu6]; rfl) (fun H locs hP hD hS => ?_)
      refine lv_iload_n hx hb dX6_takes_51 rfl (lv_at hl 0 rfl) ?_
      refine lv_bipush (v := (48:Int32)) hx hb dX6_takes_52 (by decide) ?_
      refine lv_isub hx hb dX6_takes_54 ?_
      cases hf
      exact g_iret hx hb hr hlocks hP hS dX6_takes_55
    · rw [if_pos c5] at hf
      refine lv_aload_n hx hb dX6_takes_33 rfl (lv_at hl 1 rfl) ?_
      refine lv_aload_n hx hb dX6_takes_34 rfl (lv_at hl 1 rfl) ?_
      refine g_get (C := RX6) (T := TX6) (N := 15) hx hb hts iwX6_takes_X6 hown hK hP 0 0 rfl rfl rfl 13 (Nat.le_of_ble_eq_true rfl) (hts _ kX6_takes_0) (fun _ h9 => h9) rfl dX6_takes_35 ?_
      obtain ⟨u7, eu7, hf⟩ := lt_some hf
      refine g_put (ty := .int) (C := RX6) (T := TX6) (N := 15) (gs' := [mdW G a0 u7]) hx hb hts iwX6_takes_X6 tyX6 tyX6_ok nmX6 hown hK hP hD hS 0 0 rfl rfl rfl 14 (Nat.le_of_ble_eq_true rfl) (hts _ kX6_takes_1) (fun _ h9 => h9) rfl (by decide +kernel) rfl rfl (Nat.le_of_ble_eq_true rfl) dX6_takes_38 (by rw [eu7]; rfl) (fun H locs hP hD hS => ?_)
      refine lv_aload_n hx hb dX6_takes_41 rfl (lv_at hl 1 rfl) ?_
      refine lv_dup hx hb dX6_takes_42 rfl ?_
      refine g_get (C := RX6) (T := TX6) (N := 15) hx hb hts iwX6_takes_X6 hown hK hP 0 0 rfl rfl rfl 13 (Nat.le_of_ble_eq_true rfl) (hts _ kX6_takes_0) (fun _ h9 => h9) rfl dX6_takes_43 ?_
      refine lv_iconst (v := (1:Int32)) hx hb dX6_takes_46 (by decide) ?_
      refine lv_iadd hx hb dX6_takes_47 ?_
      obtain ⟨u8, eu8, hf⟩ := lt_some hf
      refine g_put (ty := .int) (C := RX6) (T := TX6) (N := 15) (gs' := [mdW G a0 u8]) hx hb hts iwX6_takes_X6 tyX6 tyX6_ok nmX6 hown hK hP hD hS 0 0 rfl rfl rfl 13 (Nat.le_of_ble_eq_true rfl) (hts _ kX6_takes_0) (fun _ h9 => h9) rfl (by decide +kernel) rfl rfl (Nat.le_of_ble_eq_true rfl) dX6_takes_48 (by rw [eu8]; rfl) (fun H locs hP hD hS => ?_)
      refine lv_iload_n hx hb dX6_takes_51 rfl (lv_at hl 0 rfl) ?_
      refine lv_bipush (v := (48:Int32)) hx hb dX6_takes_52 (by decide) ?_
      refine lv_isub hx hb dX6_takes_54 ?_
      cases hf
      exact g_iret hx hb hr hlocks hP hS dX6_takes_55
theorem kX6_readContribution_0 : Cond.fieldLink RX6 95 "SavingsCircleModel" "spot" "I" ∈ wsX6_readContribution := (List.mem_cons_of_mem _ (List.mem_append_left _ (List.mem_of_getElem? (i := 1) rfl)))
theorem kX6_readContribution_1 : Cond.fieldLink RX6 101 "SavingsCircleModel" "wrong" "I" ∈ wsX6_readContribution := (List.mem_cons_of_mem _ (List.mem_append_left _ (List.mem_of_getElem? (i := 0) rfl)))
theorem kX6_readContribution_2 : Cond.constant RX6 49 (-99999) ∈ wsX6_readContribution := (List.mem_cons_of_mem _ (List.mem_append_left _ (List.mem_of_getElem? (i := 2) rfl)))
theorem kX6_readContribution_3 : Cond.fieldLink RX6 35 "SavingsCircleModel" "read" "[I" ∈ wsX6_readContribution := (List.mem_cons_of_mem _ (List.mem_append_left _ (List.mem_of_getElem? (i := 3) rfl)))
theorem iwX6_readContribution_X6 : ∀ w ∈ wsX60, w ∈ wsX6_readContribution := fun w h => (List.mem_cons_of_mem _ (List.mem_append_right _ h))
set_option maxHeartbeats 4000000 in
set_option maxRecDepth 100000 in
theorem c_X6_readContribution (l : Launch) (G : uG) (a0 : Nat → Nat) (v0 : MdV) {q : Unit × (MdV)} (hf : f_X6_readContribution v0 = some q) : mQ l yX6_readContribution wsX6_readContribution ({ frames := 2, cells := 0, slots := 0, locals := 45 } : Room) G [.ref (a0 0)] [mdW G a0 v0] [mdW G a0 q.2] (qV G [mdW G a0 q.2] q.1) := by
  unfold f_X6_readContribution at hf
  refine m_of (cc := cX6_readContribution) (maxL := 3) (ret := none) (by decide) rfl rfl (Nat.le_of_ble_eq_true rfl) ?_
  intro p e s m args below meth c A ls S hK hA hP hD hS hl
  obtain ⟨hx, hb, hml, hown, hts, hr, hlocks⟩ := id S
  have hl : lv_has ls 3 [(0, .ref (a0 0))] := hl
  refine lv_aload_n hx hb dX6_readContribution_0 rfl (lv_at hl 0 rfl) ?_
  refine lv_iconst (v := (0:Int32)) hx hb dX6_readContribution_1 (by decide) ?_
  obtain ⟨q1, hq1, hf⟩ := bd_some hf
  refine g_callVi S (As := [.int (0:Int32)]) (gs' := [mdW G a0 v0]) (c_X6_letter l G a0 v0 (0:Int32) hq1) (cwV 1 hts gX6_readContribution_X6_letter rfl rfl rfl hd_X6_letter ⟨Nat.le_of_ble_eq_true rfl, Nat.le_of_ble_eq_true rfl⟩) hK hP hD hS hA (is := [0]) rfl rfl 0 rfl rfl rfl rfl hl.1 rfl (Nat.le_of_ble_eq_true rfl) dX6_readContribution_2 ⟨Nat.le_of_ble_eq_true rfl, Nat.le_of_ble_eq_true rfl⟩ rfl (fun H locs hP hD hS => ?_)
  refine lv_bipush (v := (67:Int32)) hx hb dX6_readContribution_5 (by decide) ?_
  refine lv_icmp_eq (tgt := 15) hx hb dX6_readContribution_7 (by decide) (fun c2 => ?_) (fun c2 => ?_)
  · rw [if_pos c2] at hf
    refine lv_aload_n hx hb dX6_readContribution_15 rfl (lv_at hl 0 rfl) ?_
    refine lv_iconst (v := (1:Int32)) hx hb dX6_readContribution_16 (by decide) ?_
    obtain ⟨u3, eu3, hf⟩ := lt_some hf
    refine g_put (ty := .int) (C := RX6) (T := TX6) (N := 15) (gs' := [mdW G a0 u3]) hx hb hts iwX6_readContribution_X6 tyX6 tyX6_ok nmX6 hown hK hP hD hS 0 0 rfl rfl rfl 13 (Nat.le_of_ble_eq_true rfl) (hts _ kX6_readContribution_0) (fun _ h9 => h9) rfl (by decide +kernel) rfl rfl (Nat.le_of_ble_eq_true rfl) dX6_readContribution_17 (by rw [eu3]; rfl) (fun H locs hP hD hS => ?_)
    refine lv_aload_n hx hb dX6_readContribution_20 rfl (lv_at hl 0 rfl) ?_
    refine g_get (C := RX6) (T := TX6) (N := 15) hx hb hts iwX6_readContribution_X6 hown hK hP 0 0 rfl rfl rfl 14 (Nat.le_of_ble_eq_true rfl) (hts _ kX6_readContribution_1) (fun _ h9 => h9) rfl dX6_readContribution_21 ?_
    refine lv_ldc (v := (-99999:Int32)) hx hb hown (hts _ kX6_readContribution_2) dX6_readContribution_24 ?_
    refine lv_icmp_ne (tgt := 38) hx hb dX6_readContribution_26 (by decide) (fun c4 => ?_) (fun c4 => ?_)
    · rw [if_neg c4] at hf
      refine lv_iconst (v := (0:Int32)) hx hb dX6_readContribution_38 (by decide) ?_
      refine lv_istore_n (lv' := [(1, .int (0:Int32)), (0, .ref (a0 0))]) hx hb dX6_readContribution_39 rfl hl (by decide) rfl (fun ls hl => ?_)
      refine lv_aload_n hx hb dX6_readContribution_40 rfl (lv_at hl 1 rfl) ?_
      refine g_get (C := RX6) (T := TX6) (N := 15) hx hb hts iwX6_readContribution_X6 hown hK hP 0 0 rfl rfl rfl 14 (Nat.le_of_ble_eq_true rfl) (hts _ kX6_readContribution_1) (fun _ h9 => h9) rfl dX6_readContribution_41 ?_
      refine lv_ldc (v := (-99999:Int32)) hx hb hown (hts _ kX6_readContribution_2) dX6_readContribution_44 ?_
      refine lv_icmp_ne (tgt := 76) hx hb dX6_readContribution_46 (by decide) (fun c5 => ?_) (fun c5 => ?_)
      · rw [if_neg c5] at hf
        refine lv_iconst (v := (0:Int32)) hx hb dX6_readContribution_76 (by decide) ?_
        refine lv_istore_n (lv' := [(2, .int (0:Int32)), (1, .int (0:Int32)), (0, .ref (a0 0))]) hx hb dX6_readContribution_77 rfl hl (by decide) rfl (fun ls hl => ?_)
        refine lv_aload_n hx hb dX6_readContribution_78 rfl (lv_at hl 2 rfl) ?_
        refine g_get (C := RX6) (T := TX6) (N := 15) hx hb hts iwX6_readContribution_X6 hown hK hP 0 0 rfl rfl rfl 12 (Nat.le_of_ble_eq_true rfl) (hts _ kX6_readContribution_3) (fun _ h9 => h9) rfl dX6_readContribution_79 ?_
        refine lv_iconst (v := (1:Int32)) hx hb dX6_readContribution_82 (by decide) ?_
        refine lv_bipush (v := (10:Int32)) hx hb dX6_readContribution_83 (by decide) ?_
        refine lv_iload_n hx hb dX6_readContribution_85 rfl (lv_at hl 1 rfl) ?_
        refine lv_imul hx hb dX6_readContribution_86 ?_
        refine lv_iload_n hx hb dX6_readContribution_87 rfl (lv_at hl 0 rfl) ?_
        refine lv_iadd hx hb dX6_readContribution_88 ?_
        obtain ⟨h6, hf⟩ := gi_some hf
        obtain ⟨u7, eu7, hf⟩ := lt_some hf
        refine g_iast (gs' := [mdW G a0 u7]) hx hb hK hP hD hS 0 9 0 rfl rfl rfl h6 dX6_readContribution_89 (by rw [eu7]; rfl) (fun H locs hP hD hS => ?_)
        cases hf
        exact g_vret hx hb hr hlocks hP hS dX6_readContribution_90
      · rw [if_pos c5] at hf
        refine lv_aload_n hx hb dX6_readContribution_49 rfl (lv_at hl 1 rfl) ?_
        refine lv_iload_n hx hb dX6_readContribution_50 rfl (lv_at hl 0 rfl) ?_
        refine lv_if_ne (tgt := 58) hx hb dX6_readContribution_51 (by decide) (fun c8 => ?_) (fun c8 => ?_)
        · rw [if_neg c8] at hf
          refine lv_iconst (v := (0:Int32)) hx hb dX6_readContribution_58 (by decide) ?_
          refine lv_iload_n hx hb dX6_readContribution_59 rfl (lv_at hl 0 rfl) ?_
          refine lv_iconst (v := (5:Int32)) hx hb dX6_readContribution_60 (by decide) ?_
          refine lv_icmp_ne (tgt := 68) hx hb dX6_readContribution_61 (by decide) (fun c9 => ?_) (fun c9 => ?_)
          · rw [if_neg c9] at hf
            refine lv_bipush (v := (9:Int32)) hx hb dX6_readContribution_68 (by decide) ?_
            obtain ⟨q10, hq10, hf⟩ := bd_some hf
            refine g_callVi S (As := [.int (0:Int32), .int (9:Int32)]) (gs' := [mdW G a0 q10.2]) (c_X6_takes l G a0 u3 (0:Int32) (9:Int32) hq10) (cwV 2 hts gX6_readContribution_X6_takes rfl rfl rfl hd_X6_takes ⟨Nat.le_of_ble_eq_true rfl, Nat.le_of_ble_eq_true rfl⟩) hK hP hD hS hA (is := [0]) rfl rfl 0 rfl rfl rfl rfl hl.1 rfl (Nat.le_of_ble_eq_true rfl) dX6_readContribution_70 ⟨Nat.le_of_ble_eq_true rfl, Nat.le_of_ble_eq_true rfl⟩ rfl (fun H locs hP hD hS => ?_)
            refine lv_goto (tgt := 77) hx hb dX6_readContribution_73 (by decide) ?_
            refine lv_istore_n (lv' := [(2, .int q10.1), (1, .int (0:Int32)), (0, .ref (a0 0))]) hx hb dX6_readContribution_77 rfl hl (by decide) rfl (fun ls hl => ?_)
            refine lv_aload_n hx hb dX6_readContribution_78 rfl (lv_at hl 2 rfl) ?_
            refine g_get (C := RX6) (T := TX6) (N := 15) hx hb hts iwX6_readContribution_X6 hown hK hP 0 0 rfl rfl rfl 12 (Nat.le_of_ble_eq_true rfl) (hts _ kX6_readContribution_3) (fun _ h9 => h9) rfl dX6_readContribution_79 ?_
            refine lv_iconst (v := (1:Int32)) hx hb dX6_readContribution_82 (by decide) ?_
            refine lv_bipush (v := (10:Int32)) hx hb dX6_readContribution_83 (by decide) ?_
            refine lv_iload_n hx hb dX6_readContribution_85 rfl (lv_at hl 1 rfl) ?_
            refine lv_imul hx hb dX6_readContribution_86 ?_
            refine lv_iload_n hx hb dX6_readContribution_87 rfl (lv_at hl 0 rfl) ?_
            refine lv_iadd hx hb dX6_readContribution_88 ?_
            obtain ⟨h11, hf⟩ := gi_some hf
            obtain ⟨u12, eu12, hf⟩ := lt_some hf
            refine g_iast (gs' := [mdW G a0 u12]) hx hb hK hP hD hS 0 9 0 rfl rfl rfl h11 dX6_readContribution_89 (by rw [eu12]; rfl) (fun H locs hP hD hS => ?_)
            cases hf
            exact g_vret hx hb hr hlocks hP hS dX6_readContribution_90
          · rw [if_pos c9] at hf
            refine lv_iconst (v := (0:Int32)) hx hb dX6_readContribution_64 (by decide) ?_
            refine lv_goto (tgt := 70) hx hb dX6_readContribution_65 (by decide) ?_
            obtain ⟨q13, hq13, hf⟩ := bd_some hf
            refine g_callVi S (As := [.int (0:Int32), .int (0:Int32)]) (gs' := [mdW G a0 q13.2]) (c_X6_takes l G a0 u3 (0:Int32) (0:Int32) hq13) (cwV 2 hts gX6_readContribution_X6_takes rfl rfl rfl hd_X6_takes ⟨Nat.le_of_ble_eq_true rfl, Nat.le_of_ble_eq_true rfl⟩) hK hP hD hS hA (is := [0]) rfl rfl 0 rfl rfl rfl rfl hl.1 rfl (Nat.le_of_ble_eq_true rfl) dX6_readContribution_70 ⟨Nat.le_of_ble_eq_true rfl, Nat.le_of_ble_eq_true rfl⟩ rfl (fun H locs hP hD hS => ?_)
            refine lv_goto (tgt := 77) hx hb dX6_readContribution_73 (by decide) ?_
            refine lv_istore_n (lv' := [(2, .int q13.1), (1, .int (0:Int32)), (0, .ref (a0 0))]) hx hb dX6_readContribution_77 rfl hl (by decide) rfl (fun ls hl => ?_)
            refine lv_aload_n hx hb dX6_readContribution_78 rfl (lv_at hl 2 rfl) ?_
            refine g_get (C := RX6) (T := TX6) (N := 15) hx hb hts iwX6_readContribution_X6 hown hK hP 0 0 rfl rfl rfl 12 (Nat.le_of_ble_eq_true rfl) (hts _ kX6_readContribution_3) (fun _ h9 => h9) rfl dX6_readContribution_79 ?_
            refine lv_iconst (v := (1:Int32)) hx hb dX6_readContribution_82 (by decide) ?_
            refine lv_bipush (v := (10:Int32)) hx hb dX6_readContribution_83 (by decide) ?_
            refine lv_iload_n hx hb dX6_readContribution_85 rfl (lv_at hl 1 rfl) ?_
            refine lv_imul hx hb dX6_readContribution_86 ?_
            refine lv_iload_n hx hb dX6_readContribution_87 rfl (lv_at hl 0 rfl) ?_
            refine lv_iadd hx hb dX6_readContribution_88 ?_
            obtain ⟨h14, hf⟩ := gi_some hf
            obtain ⟨u15, eu15, hf⟩ := lt_some hf
            refine g_iast (gs' := [mdW G a0 u15]) hx hb hK hP hD hS 0 9 0 rfl rfl rfl h14 dX6_readContribution_89 (by rw [eu15]; rfl) (fun H locs hP hD hS => ?_)
            cases hf
            exact g_vret hx hb hr hlocks hP hS dX6_readContribution_90
        · rw [if_pos c8] at hf
          refine lv_iconst (v := (1:Int32)) hx hb dX6_readContribution_54 (by decide) ?_
          refine lv_goto (tgt := 59) hx hb dX6_readContribution_55 (by decide) ?_
          refine lv_iload_n hx hb dX6_readContribution_59 rfl (lv_at hl 0 rfl) ?_
          refine lv_iconst (v := (5:Int32)) hx hb dX6_readContribution_60 (by decide) ?_
          refine lv_icmp_ne (tgt := 68) hx hb dX6_readContribution_61 (by decide) (fun c16 => ?_) (fun c16 => ?_)
          · rw [if_neg c16] at hf
            refine lv_bipush (v := (9:Int32)) hx hb dX6_readContribution_68 (by decide) ?_
            obtain ⟨q17, hq17, hf⟩ := bd_some hf
            refine g_callVi S (As := [.int (1:Int32), .int (9:Int32)]) (gs' := [mdW G a0 q17.2]) (c_X6_takes l G a0 u3 (1:Int32) (9:Int32) hq17) (cwV 2 hts gX6_readContribution_X6_takes rfl rfl rfl hd_X6_takes ⟨Nat.le_of_ble_eq_true rfl, Nat.le_of_ble_eq_true rfl⟩) hK hP hD hS hA (is := [0]) rfl rfl 0 rfl rfl rfl rfl hl.1 rfl (Nat.le_of_ble_eq_true rfl) dX6_readContribution_70 ⟨Nat.le_of_ble_eq_true rfl, Nat.le_of_ble_eq_true rfl⟩ rfl (fun H locs hP hD hS => ?_)
            refine lv_goto (tgt := 77) hx hb dX6_readContribution_73 (by decide) ?_
            refine lv_istore_n (lv' := [(2, .int q17.1), (1, .int (0:Int32)), (0, .ref (a0 0))]) hx hb dX6_readContribution_77 rfl hl (by decide) rfl (fun ls hl => ?_)
            refine lv_aload_n hx hb dX6_readContribution_78 rfl (lv_at hl 2 rfl) ?_
            refine g_get (C := RX6) (T := TX6) (N := 15) hx hb hts iwX6_readContribution_X6 hown hK hP 0 0 rfl rfl rfl 12 (Nat.le_of_ble_eq_true rfl) (hts _ kX6_readContribution_3) (fun _ h9 => h9) rfl dX6_readContribution_79 ?_
            refine lv_iconst (v := (1:Int32)) hx hb dX6_readContribution_82 (by decide) ?_
            refine lv_bipush (v := (10:Int32)) hx hb dX6_readContribution_83 (by decide) ?_
            refine lv_iload_n hx hb dX6_readContribution_85 rfl (lv_at hl 1 rfl) ?_
            refine lv_imul hx hb dX6_readContribution_86 ?_
            refine lv_iload_n hx hb dX6_readContribution_87 rfl (lv_at hl 0 rfl) ?_
            refine lv_iadd hx hb dX6_readContribution_88 ?_
            obtain ⟨h18, hf⟩ := gi_some hf
            obtain ⟨u19, eu19, hf⟩ := lt_some hf
            refine g_iast (gs' := [mdW G a0 u19]) hx hb hK hP hD hS 0 9 0 rfl rfl rfl h18 dX6_readContribution_89 (by rw [eu19]; rfl) (fun H locs hP hD hS => ?_)
            cases hf
            exact g_vret hx hb hr hlocks hP hS dX6_readContribution_90
          · rw [if_pos c16] at hf
            refine lv_iconst (v := (0:Int32)) hx hb dX6_readContribution_64 (by decide) ?_
            refine lv_goto (tgt := 70) hx hb dX6_readContribution_65 (by decide) ?_
            obtain ⟨q20, hq20, hf⟩ := bd_some hf
            refine g_callVi S (As := [.int (1:Int32), .int (0:Int32)]) (gs' := [mdW G a0 q20.2]) (c_X6_takes l G a0 u3 (1:Int32) (0:Int32) hq20) (cwV 2 hts gX6_readContribution_X6_takes rfl rfl rfl hd_X6_takes ⟨Nat.le_of_ble_eq_true rfl, Nat.le_of_ble_eq_true rfl⟩) hK hP hD hS hA (is := [0]) rfl rfl 0 rfl rfl rfl rfl hl.1 rfl (Nat.le_of_ble_eq_true rfl) dX6_readContribution_70 ⟨Nat.le_of_ble_eq_true rfl, Nat.le_of_ble_eq_true rfl⟩ rfl (fun H locs hP hD hS => ?_)
            refine lv_goto (tgt := 77) hx hb dX6_readContribution_73 (by decide) ?_
            refine lv_istore_n (lv' := [(2, .int q20.1), (1, .int (0:Int32)), (0, .ref (a0 0))]) hx hb dX6_readContribution_77 rfl hl (by decide) rfl (fun ls hl => ?_)
            refine lv_aload_n hx hb dX6_readContribution_78 rfl (lv_at hl 2 rfl) ?_
            refine g_get (C := RX6) (T := TX6) (N := 15) hx hb hts iwX6_readContribution_X6 hown hK hP 0 0 rfl rfl rfl 12 (Nat.le_of_ble_eq_true rfl) (hts _ kX6_readContribution_3) (fun _ h9 => h9) rfl dX6_readContribution_79 ?_
            refine lv_iconst (v := (1:Int32)) hx hb dX6_readContribution_82 (by decide) ?_
            refine lv_bipush (v := (10:Int32)) hx hb dX6_readContribution_83 (by decide) ?_
            refine lv_iload_n hx hb dX6_readContribution_85 rfl (lv_at hl 1 rfl) ?_
            refine lv_imul hx hb dX6_readContribution_86 ?_
            refine lv_iload_n hx hb dX6_readContribution_87 rfl (lv_at hl 0 rfl) ?_
            refine lv_iadd hx hb dX6_readContribution_88 ?_
            obtain ⟨h21, hf⟩ := gi_some hf
            obtain ⟨u22, eu22, hf⟩ := lt_some hf
            refine g_iast (gs' := [mdW G a0 u22]) hx hb hK hP hD hS 0 9 0 rfl rfl rfl h21 dX6_readContribution_89 (by rw [eu22]; rfl) (fun H locs hP hD hS => ?_)
            cases hf
            exact g_vret hx hb hr hlocks hP hS dX6_readContribution_90
    · rw [if_pos c4] at hf
      refine lv_aload_n hx hb dX6_readContribution_29 rfl (lv_at hl 0 rfl) ?_
      refine lv_iconst (v := (0:Int32)) hx hb dX6_readContribution_30 (by decide) ?_
      refine lv_iconst (v := (5:Int32)) hx hb dX6_readContribution_31 (by decide) ?_
      obtain ⟨q23, hq23, hf⟩ := bd_some hf
      refine g_callVi S (As := [.int (0:Int32), .int (5:Int32)]) (gs' := [mdW G a0 q23.2]) (c_X6_takes l G a0 u3 (0:Int32) (5:Int32) hq23) (cwV 2 hts gX6_readContribution_X6_takes rfl rfl rfl hd_X6_takes ⟨Nat.le_of_ble_eq_true rfl, Nat.le_of_ble_eq_true rfl⟩) hK hP hD hS hA (is := [0]) rfl rfl 0 rfl rfl rfl rfl hl.1 rfl (Nat.le_of_ble_eq_true rfl) dX6_readContribution_32 ⟨Nat.le_of_ble_eq_true rfl, Nat.le_of_ble_eq_true rfl⟩ rfl (fun H locs hP hD hS => ?_)
      refine lv_goto (tgt := 39) hx hb dX6_readContribution_35 (by decide) ?_
      refine lv_istore_n (lv' := [(1, .int q23.1), (0, .ref (a0 0))]) hx hb dX6_readContribution_39 rfl hl (by decide) rfl (fun ls hl => ?_)
      refine lv_aload_n hx hb dX6_readContribution_40 rfl (lv_at hl 1 rfl) ?_
      refine g_get (C := RX6) (T := TX6) (N := 15) hx hb hts iwX6_readContribution_X6 hown hK hP 0 0 rfl rfl rfl 14 (Nat.le_of_ble_eq_true rfl) (hts _ kX6_readContribution_1) (fun _ h9 => h9) rfl dX6_readContribution_41 ?_
      refine lv_ldc (v := (-99999:Int32)) hx hb hown (hts _ kX6_readContribution_2) dX6_readContribution_44 ?_
      refine lv_icmp_ne (tgt := 76) hx hb dX6_readContribution_46 (by decide) (fun c24 => ?_) (fun c24 => ?_)
      · rw [if_neg c24] at hf
        refine lv_iconst (v := (0:Int32)) hx hb dX6_readContribution_76 (by decide) ?_
        refine lv_istore_n (lv' := [(2, .int (0:Int32)), (1, .int q23.1), (0, .ref (a0 0))]) hx hb dX6_readContribution_77 rfl hl (by decide) rfl (fun ls hl => ?_)
        refine lv_aload_n hx hb dX6_readContribution_78 rfl (lv_at hl 2 rfl) ?_
        refine g_get (C := RX6) (T := TX6) (N := 15) hx hb hts iwX6_readContribution_X6 hown hK hP 0 0 rfl rfl rfl 12 (Nat.le_of_ble_eq_true rfl) (hts _ kX6_readContribution_3) (fun _ h9 => h9) rfl dX6_readContribution_79 ?_
        refine lv_iconst (v := (1:Int32)) hx hb dX6_readContribution_82 (by decide) ?_
        refine lv_bipush (v := (10:Int32)) hx hb dX6_readContribution_83 (by decide) ?_
        refine lv_iload_n hx hb dX6_readContribution_85 rfl (lv_at hl 1 rfl) ?_
        refine lv_imul hx hb dX6_readContribution_86 ?_
        refine lv_iload_n hx hb dX6_readContribution_87 rfl (lv_at hl 0 rfl) ?_
        refine lv_iadd hx hb dX6_readContribution_88 ?_
        obtain ⟨h25, hf⟩ := gi_some hf
        obtain ⟨u26, eu26, hf⟩ := lt_some hf
        refine g_iast (gs' := [mdW G a0 u26]) hx hb hK hP hD hS 0 9 0 rfl rfl rfl h25 dX6_readContribution_89 (by rw [eu26]; rfl) (fun H locs hP hD hS => ?_)
        cases hf
        exact g_vret hx hb hr hlocks hP hS dX6_readContribution_90
      · rw [if_pos c24] at hf
        refine lv_aload_n hx hb dX6_readContribution_49 rfl (lv_at hl 1 rfl) ?_
        refine lv_iload_n hx hb dX6_readContribution_50 rfl (lv_at hl 0 rfl) ?_
        refine lv_if_ne (tgt := 58) hx hb dX6_readContribution_51 (by decide) (fun c27 => ?_) (fun c27 => ?_)
        · rw [if_neg c27] at hf
          refine lv_iconst (v := (0:Int32)) hx hb dX6_readContribution_58 (by decide) ?_
          refine lv_iload_n hx hb dX6_readContribution_59 rfl (lv_at hl 0 rfl) ?_
          refine lv_iconst (v := (5:Int32)) hx hb dX6_readContribution_60 (by decide) ?_
          refine lv_icmp_ne (tgt := 68) hx hb dX6_readContribution_61 (by decide) (fun c28 => ?_) (fun c28 => ?_)
          · rw [if_neg c28] at hf
            refine lv_bipush (v := (9:Int32)) hx hb dX6_readContribution_68 (by decide) ?_
            obtain ⟨q29, hq29, hf⟩ := bd_some hf
            refine g_callVi S (As := [.int (0:Int32), .int (9:Int32)]) (gs' := [mdW G a0 q29.2]) (c_X6_takes l G a0 q23.2 (0:Int32) (9:Int32) hq29) (cwV 2 hts gX6_readContribution_X6_takes rfl rfl rfl hd_X6_takes ⟨Nat.le_of_ble_eq_true rfl, Nat.le_of_ble_eq_true rfl⟩) hK hP hD hS hA (is := [0]) rfl rfl 0 rfl rfl rfl rfl hl.1 rfl (Nat.le_of_ble_eq_true rfl) dX6_readContribution_70 ⟨Nat.le_of_ble_eq_true rfl, Nat.le_of_ble_eq_true rfl⟩ rfl (fun H locs hP hD hS => ?_)
            refine lv_goto (tgt := 77) hx hb dX6_readContribution_73 (by decide) ?_
            refine lv_istore_n (lv' := [(2, .int q29.1), (1, .int q23.1), (0, .ref (a0 0))]) hx hb dX6_readContribution_77 rfl hl (by decide) rfl (fun ls hl => ?_)
            refine lv_aload_n hx hb dX6_readContribution_78 rfl (lv_at hl 2 rfl) ?_
            refine g_get (C := RX6) (T := TX6) (N := 15) hx hb hts iwX6_readContribution_X6 hown hK hP 0 0 rfl rfl rfl 12 (Nat.le_of_ble_eq_true rfl) (hts _ kX6_readContribution_3) (fun _ h9 => h9) rfl dX6_readContribution_79 ?_
            refine lv_iconst (v := (1:Int32)) hx hb dX6_readContribution_82 (by decide) ?_
            refine lv_bipush (v := (10:Int32)) hx hb dX6_readContribution_83 (by decide) ?_
            refine lv_iload_n hx hb dX6_readContribution_85 rfl (lv_at hl 1 rfl) ?_
            refine lv_imul hx hb dX6_readContribution_86 ?_
            refine lv_iload_n hx hb dX6_readContribution_87 rfl (lv_at hl 0 rfl) ?_
            refine lv_iadd hx hb dX6_readContribution_88 ?_
            obtain ⟨h30, hf⟩ := gi_some hf
            obtain ⟨u31, eu31, hf⟩ := lt_some hf
            refine g_iast (gs' := [mdW G a0 u31]) hx hb hK hP hD hS 0 9 0 rfl rfl rfl h30 dX6_readContribution_89 (by rw [eu31]; rfl) (fun H locs hP hD hS => ?_)
            cases hf
            exact g_vret hx hb hr hlocks hP hS dX6_readContribution_90
          · rw [if_pos c28] at hf
            refine lv_iconst (v := (0:Int32)) hx hb dX6_readContribution_64 (by decide) ?_
            refine lv_goto (tgt := 70) hx hb dX6_readContribution_65 (by decide) ?_
            obtain ⟨q32, hq32, hf⟩ := bd_some hf
            refine g_callVi S (As := [.int (0:Int32), .int (0:Int32)]) (gs' := [mdW G a0 q32.2]) (c_X6_takes l G a0 q23.2 (0:Int32) (0:Int32) hq32) (cwV 2 hts gX6_readContribution_X6_takes rfl rfl rfl hd_X6_takes ⟨Nat.le_of_ble_eq_true rfl, Nat.le_of_ble_eq_true rfl⟩) hK hP hD hS hA (is := [0]) rfl rfl 0 rfl rfl rfl rfl hl.1 rfl (Nat.le_of_ble_eq_true rfl) dX6_readContribution_70 ⟨Nat.le_of_ble_eq_true rfl, Nat.le_of_ble_eq_true rfl⟩ rfl (fun H locs hP hD hS => ?_)
            refine lv_goto (tgt := 77) hx hb dX6_readContribution_73 (by decide) ?_
            refine lv_istore_n (lv' := [(2, .int q32.1), (1, .int q23.1), (0, .ref (a0 0))]) hx hb dX6_readContribution_77 rfl hl (by decide) rfl (fun ls hl => ?_)
            refine lv_aload_n hx hb dX6_readContribution_78 rfl (lv_at hl 2 rfl) ?_
            refine g_get (C := RX6) (T := TX6) (N := 15) hx hb hts iwX6_readContribution_X6 hown hK hP 0 0 rfl rfl rfl 12 (Nat.le_of_ble_eq_true rfl) (hts _ kX6_readContribution_3) (fun _ h9 => h9) rfl dX6_readContribution_79 ?_
            refine lv_iconst (v := (1:Int32)) hx hb dX6_readContribution_82 (by decide) ?_
            refine lv_bipush (v := (10:Int32)) hx hb dX6_readContribution_83 (by decide) ?_
            refine lv_iload_n hx hb dX6_readContribution_85 rfl (lv_at hl 1 rfl) ?_
            refine lv_imul hx hb dX6_readContribution_86 ?_
            refine lv_iload_n hx hb dX6_readContribution_87 rfl (lv_at hl 0 rfl) ?_
            refine lv_iadd hx hb dX6_readContribution_88 ?_
            obtain ⟨h33, hf⟩ := gi_some hf
            obtain ⟨u34, eu34, hf⟩ := lt_some hf
            refine g_iast (gs' := [mdW G a0 u34]) hx hb hK hP hD hS 0 9 0 rfl rfl rfl h33 dX6_readContribution_89 (by rw [eu34]; rfl) (fun H locs hP hD hS => ?_)
            cases hf
            exact g_vret hx hb hr hlocks hP hS dX6_readContribution_90
        · rw [if_pos c27] at hf
          refine lv_iconst (v := (1:Int32)) hx hb dX6_readContribution_54 (by decide) ?_
          refine lv_goto (tgt := 59) hx hb dX6_readContribution_55 (by decide) ?_
          refine lv_iload_n hx hb dX6_readContribution_59 rfl (lv_at hl 0 rfl) ?_
          refine lv_iconst (v := (5:Int32)) hx hb dX6_readContribution_60 (by decide) ?_
          refine lv_icmp_ne (tgt := 68) hx hb dX6_readContribution_61 (by decide) (fun c35 => ?_) (fun c35 => ?_)
          · rw [if_neg c35] at hf
            refine lv_bipush (v := (9:Int32)) hx hb dX6_readContribution_68 (by decide) ?_
            obtain ⟨q36, hq36, hf⟩ := bd_some hf
            refine g_callVi S (As := [.int (1:Int32), .int (9:Int32)]) (gs' := [mdW G a0 q36.2]) (c_X6_takes l G a0 q23.2 (1:Int32) (9:Int32) hq36) (cwV 2 hts gX6_readContribution_X6_takes rfl rfl rfl hd_X6_takes ⟨Nat.le_of_ble_eq_true rfl, Nat.le_of_ble_eq_true rfl⟩) hK hP hD hS hA (is := [0]) rfl rfl 0 rfl rfl rfl rfl hl.1 rfl (Nat.le_of_ble_eq_true rfl) dX6_readContribution_70 ⟨Nat.le_of_ble_eq_true rfl, Nat.le_of_ble_eq_true rfl⟩ rfl (fun H locs hP hD hS => ?_)
            refine lv_goto (tgt := 77) hx hb dX6_readContribution_73 (by decide) ?_
            refine lv_istore_n (lv' := [(2, .int q36.1), (1, .int q23.1), (0, .ref (a0 0))]) hx hb dX6_readContribution_77 rfl hl (by decide) rfl (fun ls hl => ?_)
            refine lv_aload_n hx hb dX6_readContribution_78 rfl (lv_at hl 2 rfl) ?_
            refine g_get (C := RX6) (T := TX6) (N := 15) hx hb hts iwX6_readContribution_X6 hown hK hP 0 0 rfl rfl rfl 12 (Nat.le_of_ble_eq_true rfl) (hts _ kX6_readContribution_3) (fun _ h9 => h9) rfl dX6_readContribution_79 ?_
            refine lv_iconst (v := (1:Int32)) hx hb dX6_readContribution_82 (by decide) ?_
            refine lv_bipush (v := (10:Int32)) hx hb dX6_readContribution_83 (by decide) ?_
            refine lv_iload_n hx hb dX6_readContribution_85 rfl (lv_at hl 1 rfl) ?_
            refine lv_imul hx hb dX6_readContribution_86 ?_
            refine lv_iload_n hx hb dX6_readContribution_87 rfl (lv_at hl 0 rfl) ?_
            refine lv_iadd hx hb dX6_readContribution_88 ?_
            obtain ⟨h37, hf⟩ := gi_some hf
            obtain ⟨u38, eu38, hf⟩ := lt_some hf
            refine g_iast (gs' := [mdW G a0 u38]) hx hb hK hP hD hS 0 9 0 rfl rfl rfl h37 dX6_readContribution_89 (by rw [eu38]; rfl) (fun H locs hP hD hS => ?_)
            cases hf
            exact g_vret hx hb hr hlocks hP hS dX6_readContribution_90
          · rw [if_pos c35] at hf
            refine lv_iconst (v := (0:Int32)) hx hb dX6_readContribution_64 (by decide) ?_
            refine lv_goto (tgt := 70) hx hb dX6_readContribution_65 (by decide) ?_
            obtain ⟨q39, hq39, hf⟩ := bd_some hf
            refine g_callVi S (As := [.int (1:Int32), .int (0:Int32)]) (gs' := [mdW G a0 q39.2]) (c_X6_takes l G a0 q23.2 (1:Int32) (0:Int32) hq39) (cwV 2 hts gX6_readContribution_X6_takes rfl rfl rfl hd_X6_takes ⟨Nat.le_of_ble_eq_true rfl, Nat.le_of_ble_eq_true rfl⟩) hK hP hD hS hA (is := [0]) rfl rfl 0 rfl rfl rfl rfl hl.1 rfl (Nat.le_of_ble_eq_true rfl) dX6_readContribution_70 ⟨Nat.le_of_ble_eq_true rfl, Nat.le_of_ble_eq_true rfl⟩ rfl (fun H locs hP hD hS => ?_)
            refine lv_goto (tgt := 77) hx hb dX6_readContribution_73 (by decide) ?_
            refine lv_istore_n (lv' := [(2, .int q39.1), (1, .int q23.1), (0, .ref (a0 0))]) hx hb dX6_readContribution_77 rfl hl (by decide) rfl (fun ls hl => ?_)
            refine lv_aload_n hx hb dX6_readContribution_78 rfl (lv_at hl 2 rfl) ?_
            refine g_get (C := RX6) (T := TX6) (N := 15) hx hb hts iwX6_readContribution_X6 hown hK hP 0 0 rfl rfl rfl 12 (Nat.le_of_ble_eq_true rfl) (hts _ kX6_readContribution_3) (fun _ h9 => h9) rfl dX6_readContribution_79 ?_
            refine lv_iconst (v := (1:Int32)) hx hb dX6_readContribution_82 (by decide) ?_
            refine lv_bipush (v := (10:Int32)) hx hb dX6_readContribution_83 (by decide) ?_
            refine lv_iload_n hx hb dX6_readContribution_85 rfl (lv_at hl 1 rfl) ?_
            refine lv_imul hx hb dX6_readContribution_86 ?_
            refine lv_iload_n hx hb dX6_readContribution_87 rfl (lv_at hl 0 rfl) ?_
            refine lv_iadd hx hb dX6_readContribution_88 ?_
            obtain ⟨h40, hf⟩ := gi_some hf
            obtain ⟨u41, eu41, hf⟩ := lt_some hf
            refine g_iast (gs' := [mdW G a0 u41]) hx hb hK hP hD hS 0 9 0 rfl rfl rfl h40 dX6_readContribution_89 (by rw [eu41]; rfl) (fun H locs hP hD hS => ?_)
            cases hf
            exact g_vret hx hb hr hlocks hP hS dX6_readContribution_90
  · rw [if_neg c2] at hf
    refine lv_aload_n hx hb dX6_readContribution_10 rfl (lv_at hl 0 rfl) ?_
    refine lv_iconst (v := (0:Int32)) hx hb dX6_readContribution_11 (by decide) ?_
    obtain ⟨u42, eu42, hf⟩ := lt_some hf
    refine g_put (ty := .int) (C := RX6) (T := TX6) (N := 15) (gs' := [mdW G a0 u42]) hx hb hts iwX6_readContribution_X6 tyX6 tyX6_ok nmX6 hown hK hP hD hS 0 0 rfl rfl rfl 14 (Nat.le_of_ble_eq_true rfl) (hts _ kX6_readContribution_1) (fun _ h9 => h9) rfl (by decide +kernel) rfl rfl (Nat.le_of_ble_eq_true rfl) dX6_readContribution_12 (by rw [eu42]; rfl) (fun H locs hP hD hS => ?_)
    refine lv_aload_n hx hb dX6_readContribution_15 rfl (lv_at hl 0 rfl) ?_
    refine lv_iconst (v := (1:Int32)) hx hb dX6_readContribution_16 (by decide) ?_
    obtain ⟨u43, eu43, hf⟩ := lt_some hf
    refine g_put (ty := .int) (C := RX6) (T := TX6) (N := 15) (gs' := [mdW G a0 u43]) hx hb hts iwX6_readContribution_X6 tyX6 tyX6_ok nmX6 hown hK hP hD hS 0 0 rfl rfl rfl 13 (Nat.le_of_ble_eq_true rfl) (hts _ kX6_readContribution_0) (fun _ h9 => h9) rfl (by decide +kernel) rfl rfl (Nat.le_of_ble_eq_true rfl) dX6_readContribution_17 (by rw [eu43]; rfl) (fun H locs hP hD hS => ?_)
    refine lv_aload_n hx hb dX6_readContribution_20 rfl (lv_at hl 0 rfl) ?_
    refine g_get (C := RX6) (T := TX6) (N := 15) hx hb hts iwX6_readContribution_X6 hown hK hP 0 0 rfl rfl rfl 14 (Nat.le_of_ble_eq_true rfl) (hts _ kX6_readContribution_1) (fun _ h9 => h9) rfl dX6_readContribution_21 ?_
    refine lv_ldc (v := (-99999:Int32)) hx hb hown (hts _ kX6_readContribution_2) dX6_readContribution_24 ?_
    refine lv_icmp_ne (tgt := 38) hx hb dX6_readContribution_26 (by decide) (fun c44 => ?_) (fun c44 => ?_)
    · rw [if_neg c44] at hf
      refine lv_iconst (v := (0:Int32)) hx hb dX6_readContribution_38 (by decide) ?_
      refine lv_istore_n (lv' := [(1, .int (0:Int32)), (0, .ref (a0 0))]) hx hb dX6_readContribution_39 rfl hl (by decide) rfl (fun ls hl => ?_)
      refine lv_aload_n hx hb dX6_readContribution_40 rfl (lv_at hl 1 rfl) ?_
      refine g_get (C := RX6) (T := TX6) (N := 15) hx hb hts iwX6_readContribution_X6 hown hK hP 0 0 rfl rfl rfl 14 (Nat.le_of_ble_eq_true rfl) (hts _ kX6_readContribution_1) (fun _ h9 => h9) rfl dX6_readContribution_41 ?_
      refine lv_ldc (v := (-99999:Int32)) hx hb hown (hts _ kX6_readContribution_2) dX6_readContribution_44 ?_
      refine lv_icmp_ne (tgt := 76) hx hb dX6_readContribution_46 (by decide) (fun c45 => ?_) (fun c45 => ?_)
      · rw [if_neg c45] at hf
        refine lv_iconst (v := (0:Int32)) hx hb dX6_readContribution_76 (by decide) ?_
        refine lv_istore_n (lv' := [(2, .int (0:Int32)), (1, .int (0:Int32)), (0, .ref (a0 0))]) hx hb dX6_readContribution_77 rfl hl (by decide) rfl (fun ls hl => ?_)
        refine lv_aload_n hx hb dX6_readContribution_78 rfl (lv_at hl 2 rfl) ?_
        refine g_get (C := RX6) (T := TX6) (N := 15) hx hb hts iwX6_readContribution_X6 hown hK hP 0 0 rfl rfl rfl 12 (Nat.le_of_ble_eq_true rfl) (hts _ kX6_readContribution_3) (fun _ h9 => h9) rfl dX6_readContribution_79 ?_
        refine lv_iconst (v := (1:Int32)) hx hb dX6_readContribution_82 (by decide) ?_
        refine lv_bipush (v := (10:Int32)) hx hb dX6_readContribution_83 (by decide) ?_
        refine lv_iload_n hx hb dX6_readContribution_85 rfl (lv_at hl 1 rfl) ?_
        refine lv_imul hx hb dX6_readContribution_86 ?_
        refine lv_iload_n hx hb dX6_readContribution_87 rfl (lv_at hl 0 rfl) ?_
        refine lv_iadd hx hb dX6_readContribution_88 ?_
        obtain ⟨h46, hf⟩ := gi_some hf
        obtain ⟨u47, eu47, hf⟩ := lt_some hf
        refine g_iast (gs' := [mdW G a0 u47]) hx hb hK hP hD hS 0 9 0 rfl rfl rfl h46 dX6_readContribution_89 (by rw [eu47]; rfl) (fun H locs hP hD hS => ?_)
        cases hf
        exact g_vret hx hb hr hlocks hP hS dX6_readContribution_90
      · rw [if_pos c45] at hf
        refine lv_aload_n hx hb dX6_readContribution_49 rfl (lv_at hl 1 rfl) ?_
        refine lv_iload_n hx hb dX6_readContribution_50 rfl (lv_at hl 0 rfl) ?_
        refine lv_if_ne (tgt := 58) hx hb dX6_readContribution_51 (by decide) (fun c48 => ?_) (fun c48 => ?_)
        · rw [if_neg c48] at hf
          refine lv_iconst (v := (0:Int32)) hx hb dX6_readContribution_58 (by decide) ?_
          refine lv_iload_n hx hb dX6_readContribution_59 rfl (lv_at hl 0 rfl) ?_
          refine lv_iconst (v := (5:Int32)) hx hb dX6_readContribution_60 (by decide) ?_
          refine lv_icmp_ne (tgt := 68) hx hb dX6_readContribution_61 (by decide) (fun c49 => ?_) (fun c49 => ?_)
          · rw [if_neg c49] at hf
            refine lv_bipush (v := (9:Int32)) hx hb dX6_readContribution_68 (by decide) ?_
            obtain ⟨q50, hq50, hf⟩ := bd_some hf
            refine g_callVi S (As := [.int (0:Int32), .int (9:Int32)]) (gs' := [mdW G a0 q50.2]) (c_X6_takes l G a0 u43 (0:Int32) (9:Int32) hq50) (cwV 2 hts gX6_readContribution_X6_takes rfl rfl rfl hd_X6_takes ⟨Nat.le_of_ble_eq_true rfl, Nat.le_of_ble_eq_true rfl⟩) hK hP hD hS hA (is := [0]) rfl rfl 0 rfl rfl rfl rfl hl.1 rfl (Nat.le_of_ble_eq_true rfl) dX6_readContribution_70 ⟨Nat.le_of_ble_eq_true rfl, Nat.le_of_ble_eq_true rfl⟩ rfl (fun H locs hP hD hS => ?_)
            refine lv_goto (tgt := 77) hx hb dX6_readContribution_73 (by decide) ?_
            refine lv_istore_n (lv' := [(2, .int q50.1), (1, .int (0:Int32)), (0, .ref (a0 0))]) hx hb dX6_readContribution_77 rfl hl (by decide) rfl (fun ls hl => ?_)
            refine lv_aload_n hx hb dX6_readContribution_78 rfl (lv_at hl 2 rfl) ?_
            refine g_get (C := RX6) (T := TX6) (N := 15) hx hb hts iwX6_readContribution_X6 hown hK hP 0 0 rfl rfl rfl 12 (Nat.le_of_ble_eq_true rfl) (hts _ kX6_readContribution_3) (fun _ h9 => h9) rfl dX6_readContribution_79 ?_
            refine lv_iconst (v := (1:Int32)) hx hb dX6_readContribution_82 (by decide) ?_
            refine lv_bipush (v := (10:Int32)) hx hb dX6_readContribution_83 (by decide) ?_
            refine lv_iload_n hx hb dX6_readContribution_85 rfl (lv_at hl 1 rfl) ?_
            refine lv_imul hx hb dX6_readContribution_86 ?_
            refine lv_iload_n hx hb dX6_readContribution_87 rfl (lv_at hl 0 rfl) ?_
            refine lv_iadd hx hb dX6_readContribution_88 ?_
            obtain ⟨h51, hf⟩ := gi_some hf
            obtain ⟨u52, eu52, hf⟩ := lt_some hf
            refine g_iast (gs' := [mdW G a0 u52]) hx hb hK hP hD hS 0 9 0 rfl rfl rfl h51 dX6_readContribution_89 (by rw [eu52]; rfl) (fun H locs hP hD hS => ?_)
            cases hf
            exact g_vret hx hb hr hlocks hP hS dX6_readContribution_90
          · rw [if_pos c49] at hf
            refine lv_iconst (v := (0:Int32)) hx hb dX6_readContribution_64 (by decide) ?_
            refine lv_goto (tgt := 70) hx hb dX6_readContribution_65 (by decide) ?_
            obtain ⟨q53, hq53, hf⟩ := bd_some hf
            refine g_callVi S (As := [.int (0:Int32), .int (0:Int32)]) (gs' := [mdW G a0 q53.2]) (c_X6_takes l G a0 u43 (0:Int32) (0:Int32) hq53) (cwV 2 hts gX6_readContribution_X6_takes rfl rfl rfl hd_X6_takes ⟨Nat.le_of_ble_eq_true rfl, Nat.le_of_ble_eq_true rfl⟩) hK hP hD hS hA (is := [0]) rfl rfl 0 rfl rfl rfl rfl hl.1 rfl (Nat.le_of_ble_eq_true rfl) dX6_readContribution_70 ⟨Nat.le_of_ble_eq_true rfl, Nat.le_of_ble_eq_true rfl⟩ rfl (fun H locs hP hD hS => ?_)
            refine lv_goto (tgt := 77) hx hb dX6_readContribution_73 (by decide) ?_
            refine lv_istore_n (lv' := [(2, .int q53.1), (1, .int (0:Int32)), (0, .ref (a0 0))]) hx hb dX6_readContribution_77 rfl hl (by decide) rfl (fun ls hl => ?_)
            refine lv_aload_n hx hb dX6_readContribution_78 rfl (lv_at hl 2 rfl) ?_
            refine g_get (C := RX6) (T := TX6) (N := 15) hx hb hts iwX6_readContribution_X6 hown hK hP 0 0 rfl rfl rfl 12 (Nat.le_of_ble_eq_true rfl) (hts _ kX6_readContribution_3) (fun _ h9 => h9) rfl dX6_readContribution_79 ?_
            refine lv_iconst (v := (1:Int32)) hx hb dX6_readContribution_82 (by decide) ?_
            refine lv_bipush (v := (10:Int32)) hx hb dX6_readContribution_83 (by decide) ?_
            refine lv_iload_n hx hb dX6_readContribution_85 rfl (lv_at hl 1 rfl) ?_
            refine lv_imul hx hb dX6_readContribution_86 ?_
            refine lv_iload_n hx hb dX6_readContribution_87 rfl (lv_at hl 0 rfl) ?_
            refine lv_iadd hx hb dX6_readContribution_88 ?_
            obtain ⟨h54, hf⟩ := gi_some hf
            obtain ⟨u55, eu55, hf⟩ := lt_some hf
            refine g_iast (gs' := [mdW G a0 u55]) hx hb hK hP hD hS 0 9 0 rfl rfl rfl h54 dX6_readContribution_89 (by rw [eu55]; rfl) (fun H locs hP hD hS => ?_)
            cases hf
            exact g_vret hx hb hr hlocks hP hS dX6_readContribution_90
        · rw [if_pos c48] at hf
          refine lv_iconst (v := (1:Int32)) hx hb dX6_readContribution_54 (by decide) ?_
          refine lv_goto (tgt := 59) hx hb dX6_readContribution_55 (by decide) ?_
          refine lv_iload_n hx hb dX6_readContribution_59 rfl (lv_at hl 0 rfl) ?_
          refine lv_iconst (v := (5:Int32)) hx hb dX6_readContribution_60 (by decide) ?_
          refine lv_icmp_ne (tgt := 68) hx hb dX6_readContribution_61 (by decide) (fun c56 => ?_) (fun c56 => ?_)
          · rw [if_neg c56] at hf
            refine lv_bipush (v := (9:Int32)) hx hb dX6_readContribution_68 (by decide) ?_
            obtain ⟨q57, hq57, hf⟩ := bd_some hf
            refine g_callVi S (As := [.int (1:Int32), .int (9:Int32)]) (gs' := [mdW G a0 q57.2]) (c_X6_takes l G a0 u43 (1:Int32) (9:Int32) hq57) (cwV 2 hts gX6_readContribution_X6_takes rfl rfl rfl hd_X6_takes ⟨Nat.le_of_ble_eq_true rfl, Nat.le_of_ble_eq_true rfl⟩) hK hP hD hS hA (is := [0]) rfl rfl 0 rfl rfl rfl rfl hl.1 rfl (Nat.le_of_ble_eq_true rfl) dX6_readContribution_70 ⟨Nat.le_of_ble_eq_true rfl, Nat.le_of_ble_eq_true rfl⟩ rfl (fun H locs hP hD hS => ?_)
            refine lv_goto (tgt := 77) hx hb dX6_readContribution_73 (by decide) ?_
            refine lv_istore_n (lv' := [(2, .int q57.1), (1, .int (0:Int32)), (0, .ref (a0 0))]) hx hb dX6_readContribution_77 rfl hl (by decide) rfl (fun ls hl => ?_)
            refine lv_aload_n hx hb dX6_readContribution_78 rfl (lv_at hl 2 rfl) ?_
            refine g_get (C := RX6) (T := TX6) (N := 15) hx hb hts iwX6_readContribution_X6 hown hK hP 0 0 rfl rfl rfl 12 (Nat.le_of_ble_eq_true rfl) (hts _ kX6_readContribution_3) (fun _ h9 => h9) rfl dX6_readContribution_79 ?_
            refine lv_iconst (v := (1:Int32)) hx hb dX6_readContribution_82 (by decide) ?_
            refine lv_bipush (v := (10:Int32)) hx hb dX6_readContribution_83 (by decide) ?_
            refine lv_iload_n hx hb dX6_readContribution_85 rfl (lv_at hl 1 rfl) ?_
            refine lv_imul hx hb dX6_readContribution_86 ?_
            refine lv_iload_n hx hb dX6_readContribution_87 rfl (lv_at hl 0 rfl) ?_
            refine lv_iadd hx hb dX6_readContribution_88 ?_
            obtain ⟨h58, hf⟩ := gi_some hf
            obtain ⟨u59, eu59, hf⟩ := lt_some hf
            refine g_iast (gs' := [mdW G a0 u59]) hx hb hK hP hD hS 0 9 0 rfl rfl rfl h58 dX6_readContribution_89 (by rw [eu59]; rfl) (fun H locs hP hD hS => ?_)
            cases hf
            exact g_vret hx hb hr hlocks hP hS dX6_readContribution_90
          · rw [if_pos c56] at hf
            refine lv_iconst (v := (0:Int32)) hx hb dX6_readContribution_64 (by decide) ?_
            refine lv_goto (tgt := 70) hx hb dX6_readContribution_65 (by decide) ?_
            obtain ⟨q60, hq60, hf⟩ := bd_some hf
            refine g_callVi S (As := [.int (1:Int32), .int (0:Int32)]) (gs' := [mdW G a0 q60.2]) (c_X6_takes l G a0 u43 (1:Int32) (0:Int32) hq60) (cwV 2 hts gX6_readContribution_X6_takes rfl rfl rfl hd_X6_takes ⟨Nat.le_of_ble_eq_true rfl, Nat.le_of_ble_eq_true rfl⟩) hK hP hD hS hA (is := [0]) rfl rfl 0 rfl rfl rfl rfl hl.1 rfl (Nat.le_of_ble_eq_true rfl) dX6_readContribution_70 ⟨Nat.le_of_ble_eq_true rfl, Nat.le_of_ble_eq_true rfl⟩ rfl (fun H locs hP hD hS => ?_)
            refine lv_goto (tgt := 77) hx hb dX6_readContribution_73 (by decide) ?_
            refine lv_istore_n (lv' := [(2, .int q60.1), (1, .int (0:Int32)), (0, .ref (a0 0))]) hx hb dX6_readContribution_77 rfl hl (by decide) rfl (fun ls hl => ?_)
            refine lv_aload_n hx hb dX6_readContribution_78 rfl (lv_at hl 2 rfl) ?_
            refine g_get (C := RX6) (T := TX6) (N := 15) hx hb hts iwX6_readContribution_X6 hown hK hP 0 0 rfl rfl rfl 12 (Nat.le_of_ble_eq_true rfl) (hts _ kX6_readContribution_3) (fun _ h9 => h9) rfl dX6_readContribution_79 ?_
            refine lv_iconst (v := (1:Int32)) hx hb dX6_readContribution_82 (by decide) ?_
            refine lv_bipush (v := (10:Int32)) hx hb dX6_readContribution_83 (by decide) ?_
            refine lv_iload_n hx hb dX6_readContribution_85 rfl (lv_at hl 1 rfl) ?_
            refine lv_imul hx hb dX6_readContribution_86 ?_
            refine lv_iload_n hx hb dX6_readContribution_87 rfl (lv_at hl 0 rfl) ?_
            refine lv_iadd hx hb dX6_readContribution_88 ?_
            obtain ⟨h61, hf⟩ := gi_some hf
            obtain ⟨u62, eu62, hf⟩ := lt_some hf
            refine g_iast (gs' := [mdW G a0 u62]) hx hb hK hP hD hS 0 9 0 rfl rfl rfl h61 dX6_readContribution_89 (by rw [eu62]; rfl) (fun H locs hP hD hS => ?_)
            cases hf
            exact g_vret hx hb hr hlocks hP hS dX6_readContribution_90
    · rw [if_pos c44] at hf
      refine lv_aload_n hx hb dX6_readContribution_29 rfl (lv_at hl 0 rfl) ?_
      refine lv_iconst (v := (0:Int32)) hx hb dX6_readContribution_30 (by decide) ?_
      refine lv_iconst (v := (5:Int32)) hx hb dX6_readContribution_31 (by decide) ?_
      obtain ⟨q63, hq63, hf⟩ := bd_some hf
      refine g_callVi S (As := [.int (0:Int32), .int (5:Int32)]) (gs' := [mdW G a0 q63.2]) (c_X6_takes l G a0 u43 (0:Int32) (5:Int32) hq63) (cwV 2 hts gX6_readContribution_X6_takes rfl rfl rfl hd_X6_takes ⟨Nat.le_of_ble_eq_true rfl, Nat.le_of_ble_eq_true rfl⟩) hK hP hD hS hA (is := [0]) rfl rfl 0 rfl rfl rfl rfl hl.1 rfl (Nat.le_of_ble_eq_true rfl) dX6_readContribution_32 ⟨Nat.le_of_ble_eq_true rfl, Nat.le_of_ble_eq_true rfl⟩ rfl (fun H locs hP hD hS => ?_)
      refine lv_goto (tgt := 39) hx hb dX6_readContribution_35 (by decide) ?_
      refine lv_istore_n (lv' := [(1, .int q63.1), (0, .ref (a0 0))]) hx hb dX6_readContribution_39 rfl hl (by decide) rfl (fun ls hl => ?_)
      refine lv_aload_n hx hb dX6_readContribution_40 rfl (lv_at hl 1 rfl) ?_
      refine g_get (C := RX6) (T := TX6) (N := 15) hx hb hts iwX6_readContribution_X6 hown hK hP 0 0 rfl rfl rfl 14 (Nat.le_of_ble_eq_true rfl) (hts _ kX6_readContribution_1) (fun _ h9 => h9) rfl dX6_readContribution_41 ?_
      refine lv_ldc (v := (-99999:Int32)) hx hb hown (hts _ kX6_readContribution_2) dX6_readContribution_44 ?_
      refine lv_icmp_ne (tgt := 76) hx hb dX6_readContribution_46 (by decide) (fun c64 => ?_) (fun c64 => ?_)
      · rw [if_neg c64] at hf
        refine lv_iconst (v := (0:Int32)) hx hb dX6_readContribution_76 (by decide) ?_
        refine lv_istore_n (lv' := [(2, .int (0:Int32)), (1, .int q63.1), (0, .ref (a0 0))]) hx hb dX6_readContribution_77 rfl hl (by decide) rfl (fun ls hl => ?_)
        refine lv_aload_n hx hb dX6_readContribution_78 rfl (lv_at hl 2 rfl) ?_
        refine g_get (C := RX6) (T := TX6) (N := 15) hx hb hts iwX6_readContribution_X6 hown hK hP 0 0 rfl rfl rfl 12 (Nat.le_of_ble_eq_true rfl) (hts _ kX6_readContribution_3) (fun _ h9 => h9) rfl dX6_readContribution_79 ?_
        refine lv_iconst (v := (1:Int32)) hx hb dX6_readContribution_82 (by decide) ?_
        refine lv_bipush (v := (10:Int32)) hx hb dX6_readContribution_83 (by decide) ?_
        refine lv_iload_n hx hb dX6_readContribution_85 rfl (lv_at hl 1 rfl) ?_
        refine lv_imul hx hb dX6_readContribution_86 ?_
        refine lv_iload_n hx hb dX6_readContribution_87 rfl (lv_at hl 0 rfl) ?_
        refine lv_iadd hx hb dX6_readContribution_88 ?_
        obtain ⟨h65, hf⟩ := gi_some hf
        obtain ⟨u66, eu66, hf⟩ := lt_some hf
        refine g_iast (gs' := [mdW G a0 u66]) hx hb hK hP hD hS 0 9 0 rfl rfl rfl h65 dX6_readContribution_89 (by rw [eu66]; rfl) (fun H locs hP hD hS => ?_)
        cases hf
        exact g_vret hx hb hr hlocks hP hS dX6_readContribution_90
      · rw [if_pos c64] at hf
        refine lv_aload_n hx hb dX6_readContribution_49 rfl (lv_at hl 1 rfl) ?_
        refine lv_iload_n hx hb dX6_readContribution_50 rfl (lv_at hl 0 rfl) ?_
        refine lv_if_ne (tgt := 58) hx hb dX6_readContribution_51 (by decide) (fun c67 => ?_) (fun c67 => ?_)
        · rw [if_neg c67] at hf
          refine lv_iconst (v := (0:Int32)) hx hb dX6_readContribution_58 (by decide) ?_
          refine lv_iload_n hx hb dX6_readContribution_59 rfl (lv_at hl 0 rfl) ?_
          refine lv_iconst (v := (5:Int32)) hx hb dX6_readContribution_60 (by decide) ?_
          refine lv_icmp_ne (tgt := 68) hx hb dX6_readContribution_61 (by decide) (fun c68 => ?_) (fun c68 => ?_)
          · rw [if_neg c68] at hf
            refine lv_bipush (v := (9:Int32)) hx hb dX6_readContribution_68 (by decide) ?_
            obtain ⟨q69, hq69, hf⟩ := bd_some hf
            refine g_callVi S (As := [.int (0:Int32), .int (9:Int32)]) (gs' := [mdW G a0 q69.2]) (c_X6_takes l G a0 q63.2 (0:Int32) (9:Int32) hq69) (cwV 2 hts gX6_readContribution_X6_takes rfl rfl rfl hd_X6_takes ⟨Nat.le_of_ble_eq_true rfl, Nat.le_of_ble_eq_true rfl⟩) hK hP hD hS hA (is := [0]) rfl rfl 0 rfl rfl rfl rfl hl.1 rfl (Nat.le_of_ble_eq_true rfl) dX6_readContribution_70 ⟨Nat.le_of_ble_eq_true rfl, Nat.le_of_ble_eq_true rfl⟩ rfl (fun H locs hP hD hS => ?_)
            refine lv_goto (tgt := 77) hx hb dX6_readContribution_73 (by decide) ?_
            refine lv_istore_n (lv' := [(2, .int q69.1), (1, .int q63.1), (0, .ref (a0 0))]) hx hb dX6_readContribution_77 rfl hl (by decide) rfl (fun ls hl => ?_)
            refine lv_aload_n hx hb dX6_readContribution_78 rfl (lv_at hl 2 rfl) ?_
            refine g_get (C := RX6) (T := TX6) (N := 15) hx hb hts iwX6_readContribution_X6 hown hK hP 0 0 rfl rfl rfl 12 (Nat.le_of_ble_eq_true rfl) (hts _ kX6_readContribution_3) (fun _ h9 => h9) rfl dX6_readContribution_79 ?_
            refine lv_iconst (v := (1:Int32)) hx hb dX6_readContribution_82 (by decide) ?_
            refine lv_bipush (v := (10:Int32)) hx hb dX6_readContribution_83 (by decide) ?_
            refine lv_iload_n hx hb dX6_readContribution_85 rfl (lv_at hl 1 rfl) ?_
            refine lv_imul hx hb dX6_readContribution_86 ?_
            refine lv_iload_n hx hb dX6_readContribution_87 rfl (lv_at hl 0 rfl) ?_
            refine lv_iadd hx hb dX6_readContribution_88 ?_
            obtain ⟨h70, hf⟩ := gi_some hf
            obtain ⟨u71, eu71, hf⟩ := lt_some hf
            refine g_iast (gs' := [mdW G a0 u71]) hx hb hK hP hD hS 0 9 0 rfl rfl rfl h70 dX6_readContribution_89 (by rw [eu71]; rfl) (fun H locs hP hD hS => ?_)
            cases hf
            exact g_vret hx hb hr hlocks hP hS dX6_readContribution_90
          · rw [if_pos c68] at hf
            refine lv_iconst (v := (0:Int32)) hx hb dX6_readContribution_64 (by decide) ?_
            refine lv_goto (tgt := 70) hx hb dX6_readContribution_65 (by decide) ?_
            obtain ⟨q72, hq72, hf⟩ := bd_some hf
            refine g_callVi S (As := [.int (0:Int32), .int (0:Int32)]) (gs' := [mdW G a0 q72.2]) (c_X6_takes l G a0 q63.2 (0:Int32) (0:Int32) hq72) (cwV 2 hts gX6_readContribution_X6_takes rfl rfl rfl hd_X6_takes ⟨Nat.le_of_ble_eq_true rfl, Nat.le_of_ble_eq_true rfl⟩) hK hP hD hS hA (is := [0]) rfl rfl 0 rfl rfl rfl rfl hl.1 rfl (Nat.le_of_ble_eq_true rfl) dX6_readContribution_70 ⟨Nat.le_of_ble_eq_true rfl, Nat.le_of_ble_eq_true rfl⟩ rfl (fun H locs hP hD hS => ?_)
            refine lv_goto (tgt := 77) hx hb dX6_readContribution_73 (by decide) ?_
            refine lv_istore_n (lv' := [(2, .int q72.1), (1, .int q63.1), (0, .ref (a0 0))]) hx hb dX6_readContribution_77 rfl hl (by decide) rfl (fun ls hl => ?_)
            refine lv_aload_n hx hb dX6_readContribution_78 rfl (lv_at hl 2 rfl) ?_
            refine g_get (C := RX6) (T := TX6) (N := 15) hx hb hts iwX6_readContribution_X6 hown hK hP 0 0 rfl rfl rfl 12 (Nat.le_of_ble_eq_true rfl) (hts _ kX6_readContribution_3) (fun _ h9 => h9) rfl dX6_readContribution_79 ?_
            refine lv_iconst (v := (1:Int32)) hx hb dX6_readContribution_82 (by decide) ?_
            refine lv_bipush (v := (10:Int32)) hx hb dX6_readContribution_83 (by decide) ?_
            refine lv_iload_n hx hb dX6_readContribution_85 rfl (lv_at hl 1 rfl) ?_
            refine lv_imul hx hb dX6_readContribution_86 ?_
            refine lv_iload_n hx hb dX6_readContribution_87 rfl (lv_at hl 0 rfl) ?_
            refine lv_iadd hx hb dX6_readContribution_88 ?_
            obtain ⟨h73, hf⟩ := gi_some hf
            obtain ⟨u74, eu74, hf⟩ := lt_some hf
            refine g_iast (gs' := [mdW G a0 u74]) hx hb hK hP hD hS 0 9 0 rfl rfl rfl h73 dX6_readContribution_89 (by rw [eu74]; rfl) (fun H locs hP hD hS => ?_)
            cases hf
            exact g_vret hx hb hr hlocks hP hS dX6_readContribution_90
        · rw [if_pos c67] at hf
          refine lv_iconst (v := (1:Int32)) hx hb dX6_readContribution_54 (by decide) ?_
          refine lv_goto (tgt := 59) hx hb dX6_readContribution_55 (by decide) ?_
          refine lv_iload_n hx hb dX6_readContribution_59 rfl (lv_at hl 0 rfl) ?_
          refine lv_iconst (v := (5:Int32)) hx hb dX6_readContribution_60 (by decide) ?_
          refine lv_icmp_ne (tgt := 68) hx hb dX6_readContribution_61 (by decide) (fun c75 => ?_) (fun c75 => ?_)
          · rw [if_neg c75] at hf
            refine lv_bipush (v := (9:Int32)) hx hb dX6_readContribution_68 (by decide) ?_
            obtain ⟨q76, hq76, hf⟩ := bd_some hf
            refine g_callVi S (As := [.int (1:Int32), .int (9:Int32)]) (gs' := [mdW G a0 q76.2]) (c_X6_takes l G a0 q63.2 (1:Int32) (9:Int32) hq76) (cwV 2 hts gX6_readContribution_X6_takes rfl rfl rfl hd_X6_takes ⟨Nat.le_of_ble_eq_true rfl, Nat.le_of_ble_eq_true rfl⟩) hK hP hD hS hA (is := [0]) rfl rfl 0 rfl rfl rfl rfl hl.1 rfl (Nat.le_of_ble_eq_true rfl) dX6_readContribution_70 ⟨Nat.le_of_ble_eq_true rfl, Nat.le_of_ble_eq_true rfl⟩ rfl (fun H locs hP hD hS => ?_)
            refine lv_goto (tgt := 77) hx hb dX6_readContribution_73 (by decide) ?_
            refine lv_istore_n (lv' := [(2, .int q76.1), (1, .int q63.1), (0, .ref (a0 0))]) hx hb dX6_readContribution_77 rfl hl (by decide) rfl (fun ls hl => ?_)
            refine lv_aload_n hx hb dX6_readContribution_78 rfl (lv_at hl 2 rfl) ?_
            refine g_get (C := RX6) (T := TX6) (N := 15) hx hb hts iwX6_readContribution_X6 hown hK hP 0 0 rfl rfl rfl 12 (Nat.le_of_ble_eq_true rfl) (hts _ kX6_readContribution_3) (fun _ h9 => h9) rfl dX6_readContribution_79 ?_
            refine lv_iconst (v := (1:Int32)) hx hb dX6_readContribution_82 (by decide) ?_
            refine lv_bipush (v := (10:Int32)) hx hb dX6_readContribution_83 (by decide) ?_
            refine lv_iload_n hx hb dX6_readContribution_85 rfl (lv_at hl 1 rfl) ?_
            refine lv_imul hx hb dX6_readContribution_86 ?_
            refine lv_iload_n hx hb dX6_readContribution_87 rfl (lv_at hl 0 rfl) ?_
            refine lv_iadd hx hb dX6_readContribution_88 ?_
            obtain ⟨h77, hf⟩ := gi_some hf
            obtain ⟨u78, eu78, hf⟩ := lt_some hf
            refine g_iast (gs' := [mdW G a0 u78]) hx hb hK hP hD hS 0 9 0 rfl rfl rfl h77 dX6_readContribution_89 (by rw [eu78]; rfl) (fun H locs hP hD hS => ?_)
            cases hf
            exact g_vret hx hb hr hlocks hP hS dX6_readContribution_90
          · rw [if_pos c75] at hf
            refine lv_iconst (v := (0:Int32)) hx hb dX6_readContribution_64 (by decide) ?_
            refine lv_goto (tgt := 70) hx hb dX6_readContribution_65 (by decide) ?_
            obtain ⟨q79, hq79, hf⟩ := bd_some hf
            refine g_callVi S (As := [.int (1:Int32), .int (0:Int32)]) (gs' := [mdW G a0 q79.2]) (c_X6_takes l G a0 q63.2 (1:Int32) (0:Int32) hq79) (cwV 2 hts gX6_readContribution_X6_takes rfl rfl rfl hd_X6_takes ⟨Nat.le_of_ble_eq_true rfl, Nat.le_of_ble_eq_true rfl⟩) hK hP hD hS hA (is := [0]) rfl rfl 0 rfl rfl rfl rfl hl.1 rfl (Nat.le_of_ble_eq_true rfl) dX6_readContribution_70 ⟨Nat.le_of_ble_eq_true rfl, Nat.le_of_ble_eq_true rfl⟩ rfl (fun H locs hP hD hS => ?_)
            refine lv_goto (tgt := 77) hx hb dX6_readContribution_73 (by decide) ?_
            refine lv_istore_n (lv' := [(2, .int q79.1), (1, .int q63.1), (0, .ref (a0 0))]) hx hb dX6_readContribution_77 rfl hl (by decide) rfl (fun ls hl => ?_)
            refine lv_aload_n hx hb dX6_readContribution_78 rfl (lv_at hl 2 rfl) ?_
            refine g_get (C := RX6) (T := TX6) (N := 15) hx hb hts iwX6_readContribution_X6 hown hK hP 0 0 rfl rfl rfl 12 (Nat.le_of_ble_eq_true rfl) (hts _ kX6_readContribution_3) (fun _ h9 => h9) rfl dX6_readContribution_79 ?_
            refine lv_iconst (v := (1:Int32)) hx hb dX6_readContribution_82 (by decide) ?_
            refine lv_bipush (v := (10:Int32)) hx hb dX6_readContribution_83 (by decide) ?_
            refine lv_iload_n hx hb dX6_readContribution_85 rfl (lv_at hl 1 rfl) ?_
            refine lv_imul hx hb dX6_readContribution_86 ?_
            refine lv_iload_n hx hb dX6_readContribution_87 rfl (lv_at hl 0 rfl) ?_
            refine lv_iadd hx hb dX6_readContribution_88 ?_
            obtain ⟨h80, hf⟩ := gi_some hf
            obtain ⟨u81, eu81, hf⟩ := lt_some hf
            refine g_iast (gs' := [mdW G a0 u81]) hx hb hK hP hD hS 0 9 0 rfl rfl rfl h80 dX6_readContribution_89 (by rw [eu81]; rfl) (fun H locs hP hD hS => ?_)
            cases hf
            exact g_vret hx hb hr hlocks hP hS dX6_readContribution_90
set_option maxHeartbeats 4000000 in
set_option maxRecDepth 100000 in
theorem c_X6_takesThree (l : Launch) (G : uG) (a0 : Nat → Nat) (v0 : MdV) {q : Int32 × (MdV)} (hf : f_X6_takesThree v0 = some q) : mQ l yX6_takesThree wsX6_takesThree ({ frames := 2, cells := 0, slots := 0, locals := 45 } : Room) G [.ref (a0 0)] [mdW G a0 v0] [mdW G a0 q.2] (qI G [mdW G a0 q.2] q.1) := by
  unfold f_X6_takesThree at hf
  refine m_of (cc := cX6_takesThree) (maxL := 3) (ret := (some .int)) (by decide) rfl rfl (Nat.le_of_ble_eq_true rfl) ?_
  intro p e s m args below meth c A ls S hK hA hP hD hS hl
  obtain ⟨hx, hb, hml, hown, hts, hr, hlocks⟩ := id S
  have hl : lv_has ls 3 [(0, .ref (a0 0))] := hl
  refine lv_aload_n hx hb dX6_takesThree_0 rfl (lv_at hl 0 rfl) ?_
  refine lv_iconst (v := (0:Int32)) hx hb dX6_takesThree_1 (by decide) ?_
  refine lv_bipush (v := (9:Int32)) hx hb dX6_takesThree_2 (by decide) ?_
  obtain ⟨q1, hq1, hf⟩ := bd_some hf
  refine g_callVi S (As := [.int (0:Int32), .int (9:Int32)]) (gs' := [mdW G a0 q1.2]) (c_X6_takes l G a0 v0 (0:Int32) (9:Int32) hq1) (cwV 2 hts gX6_takesThree_X6_takes rfl rfl rfl hd_X6_takes ⟨Nat.le_of_ble_eq_true rfl, Nat.le_of_ble_eq_true rfl⟩) hK hP hD hS hA (is := [0]) rfl rfl 0 rfl rfl rfl rfl hl.1 rfl (Nat.le_of_ble_eq_true rfl) dX6_takesThree_4 ⟨Nat.le_of_ble_eq_true rfl, Nat.le_of_ble_eq_true rfl⟩ rfl (fun H locs hP hD hS => ?_)
  refine lv_istore_n (lv' := [(1, .int q1.1), (0, .ref (a0 0))]) hx hb dX6_takesThree_7 rfl hl (by decide) rfl (fun ls hl => ?_)
  refine lv_aload_n hx hb dX6_takesThree_8 rfl (lv_at hl 1 rfl) ?_
  refine lv_iconst (v := (0:Int32)) hx hb dX6_takesThree_9 (by decide) ?_
  refine lv_bipush (v := (9:Int32)) hx hb dX6_takesThree_10 (by decide) ?_
  obtain ⟨q2, hq2, hf⟩ := bd_some hf
  refine g_callVi S (As := [.int (0:Int32), .int (9:Int32)]) (gs' := [mdW G a0 q2.2]) (c_X6_takes l G a0 q1.2 (0:Int32) (9:Int32) hq2) (cwV 2 hts gX6_takesThree_X6_takes rfl rfl rfl hd_X6_takes ⟨Nat.le_of_ble_eq_true rfl, Nat.le_of_ble_eq_true rfl⟩) hK hP hD hS hA (is := [0]) rfl rfl 0 rfl rfl rfl rfl hl.1 rfl (Nat.le_of_ble_eq_true rfl) dX6_takesThree_12 ⟨Nat.le_of_ble_eq_true rfl, Nat.le_of_ble_eq_true rfl⟩ rfl (fun H locs hP hD hS => ?_)
  refine lv_istore_n (lv' := [(2, .int q2.1), (1, .int q1.1), (0, .ref (a0 0))]) hx hb dX6_takesThree_15 rfl hl (by decide) rfl (fun ls hl => ?_)
  refine lv_bipush (v := (100:Int32)) hx hb dX6_takesThree_16 (by decide) ?_
  refine lv_iload_n hx hb dX6_takesThree_18 rfl (lv_at hl 1 rfl) ?_
  refine lv_imul hx hb dX6_takesThree_19 ?_
  refine lv_bipush (v := (10:Int32)) hx hb dX6_takesThree_20 (by decide) ?_
  refine lv_iload_n hx hb dX6_takesThree_22 rfl (lv_at hl 0 rfl) ?_
  refine lv_imul hx hb dX6_takesThree_23 ?_
  refine lv_iadd hx hb dX6_takesThree_24 ?_
  refine lv_aload_n hx hb dX6_takesThree_25 rfl (lv_at hl 2 rfl) ?_
  refine lv_iconst (v := (0:Int32)) hx hb dX6_takesThree_26 (by decide) ?_
  refine lv_bipush (v := (9:Int32)) hx hb dX6_takesThree_27 (by decide) ?_
  obtain ⟨q3, hq3, hf⟩ := bd_some hf
  refine g_callVi S (As := [.int (0:Int32), .int (9:Int32)]) (gs' := [mdW G a0 q3.2]) (c_X6_takes l G a0 q2.2 (0:Int32) (9:Int32) hq3) (cwV 2 hts gX6_takesThree_X6_takes rfl rfl rfl hd_X6_takes ⟨Nat.le_of_ble_eq_true rfl, Nat.le_of_ble_eq_true rfl⟩) hK hP hD hS hA (is := [0]) rfl rfl 0 rfl rfl rfl rfl hl.1 rfl (Nat.le_of_ble_eq_true rfl) dX6_takesThree_29 ⟨Nat.le_of_ble_eq_true rfl, Nat.le_of_ble_eq_true rfl⟩ rfl (fun H locs hP hD hS => ?_)
  refine lv_iadd hx hb dX6_takesThree_32 ?_
  obtain ⟨x4, ex4, hf⟩ := lt_some hf
  refine lv_nmi ex4 ?_
  cases hf
  exact g_iret hx hb hr hlocks hP hS dX6_takesThree_33
theorem kX6_readMember_0 : Cond.fieldLink RX6 35 "SavingsCircleModel" "read" "[I" ∈ wsX6_readMember := (List.mem_cons_of_mem _ (List.mem_append_left _ (List.mem_of_getElem? (i := 0) rfl)))
theorem kX6_readMember_1 : Cond.fieldLink RX6 95 "SavingsCircleModel" "spot" "I" ∈ wsX6_readMember := (List.mem_cons_of_mem _ (List.mem_append_left _ (List.mem_of_getElem? (i := 1) rfl)))
theorem kX6_readMember_2 : Cond.constant RX6 49 (-99999) ∈ wsX6_readMember := (List.mem_cons_of_mem _ (List.mem_append_left _ (List.mem_of_getElem? (i := 3) rfl)))
theorem kX6_readMember_3 : Cond.fieldLink RX6 101 "SavingsCircleModel" "wrong" "I" ∈ wsX6_readMember := (List.mem_cons_of_mem _ (List.mem_append_left _ (List.mem_of_getElem? (i := 2) rfl)))
theorem iwX6_readMember_X6 : ∀ w ∈ wsX60, w ∈ wsX6_readMember := fun w h => (List.mem_cons_of_mem _ (List.mem_append_right _ h))
set_option maxHeartbeats 4000000 in
set_option maxRecDepth 100000 in
theorem c_X6_readMember (l : Launch) (G : uG) (a0 : Nat → Nat) (v0 : MdV) {q : Unit × (MdV)} (hf : f_X6_readMember v0 = some q) : mQ l yX6_readMember wsX6_readMember ({ frames := 3, cells := 0, slots := 0, locals := 67 } : Room) G [.ref (a0 0)] [mdW G a0 v0] [mdW G a0 q.2] (qV G [mdW G a0 q.2] q.1) := by
  unfold f_X6_readMember at hf
  refine m_of (cc := cX6_readMember) (maxL := 3) (ret := none) (by decide) rfl rfl (Nat.le_of_ble_eq_true rfl) ?_
  intro p e s m args below meth c A ls S hK hA hP hD hS hl
  obtain ⟨hx, hb, hml, hown, hts, hr, hlocks⟩ := id S
  have hl : lv_has ls 3 [(0, .ref (a0 0))] := hl
  refine lv_aload_n hx hb dX6_readMember_0 rfl (lv_at hl 0 rfl) ?_
  refine g_get (C := RX6) (T := TX6) (N := 15) hx hb hts iwX6_readMember_X6 hown hK hP 0 0 rfl rfl rfl 12 (Nat.le_of_ble_eq_true rfl) (hts _ kX6_readMember_0) (fun _ h9 => h9) rfl dX6_readMember_1 ?_
  refine lv_iconst (v := (0:Int32)) hx hb dX6_readMember_4 (by decide) ?_
  obtain ⟨h1, hf⟩ := gi_some hf
  refine g_iald hx hb hK hP 0 9 0 rfl rfl rfl h1 dX6_readMember_5 ?_
  obtain ⟨x2, ex2, hf⟩ := lt_some hf
  refine lv_nmi ex2 ?_
  refine lv_istore_n (lv' := [(1, .int x2), (0, .ref (a0 0))]) hx hb dX6_readMember_6 rfl hl (by decide) rfl (fun ls hl => ?_)
  refine lv_iload_n hx hb dX6_readMember_7 rfl (lv_at hl 0 rfl) ?_
  refine lv_bipush (v := (8:Int32)) hx hb dX6_readMember_8 (by decide) ?_
  refine lv_icmp_ne (tgt := 22) hx hb dX6_readMember_10 (by decide) (fun c3 => ?_) (fun c3 => ?_)
  · rw [if_neg c3] at hf
    refine lv_aload_n hx hb dX6_readMember_22 rfl (lv_at hl 1 rfl) ?_
    refine lv_dup hx hb dX6_readMember_23 rfl ?_
    refine g_get (C := RX6) (T := TX6) (N := 15) hx hb hts iwX6_readMember_X6 hown hK hP 0 0 rfl rfl rfl 13 (Nat.le_of_ble_eq_true rfl) (hts _ kX6_readMember_1) (fun _ h9 => h9) rfl dX6_readMember_24 ?_
    refine lv_iconst (v := (1:Int32)) hx hb dX6_readMember_27 (by decide) ?_
    refine lv_iadd hx hb dX6_readMember_28 ?_
    obtain ⟨u4, eu4, hf⟩ := lt_some hf
    refine g_put (ty := .int) (C := RX6) (T := TX6) (N := 15) (gs' := [mdW G a0 u4]) hx hb hts iwX6_readMember_X6 tyX6 tyX6_ok nmX6 hown hK hP hD hS 0 0 rfl rfl rfl 13 (Nat.le_of_ble_eq_true rfl) (hts _ kX6_readMember_1) (fun _ h9 => h9) rfl (by decide +kernel) rfl rfl (Nat.le_of_ble_eq_true rfl) dX6_readMember_29 (by rw [eu4]; rfl) (fun H locs hP hD hS => ?_)
    refine lv_aload_n hx hb dX6_readMember_32 rfl (lv_at hl 1 rfl) ?_
    obtain ⟨q5, hq5, hf⟩ := bd_some hf
    refine g_callVi S (As := []) (gs' := [mdW G a0 q5.2]) (c_X6_takesThree l G a0 u4 hq5) (cwV 0 hts gX6_readMember_X6_takesThree rfl rfl rfl hd_X6_takesThree ⟨Nat.le_of_ble_eq_true rfl, Nat.le_of_ble_eq_true rfl⟩) hK hP hD hS hA (is := [0]) rfl rfl 0 rfl rfl rfl rfl hl.1 rfl (Nat.le_of_ble_eq_true rfl) dX6_readMember_33 ⟨Nat.le_of_ble_eq_true rfl, Nat.le_of_ble_eq_true rfl⟩ rfl (fun H locs hP hD hS => ?_)
    refine lv_istore_n (lv' := [(2, .int q5.1), (1, .int x2), (0, .ref (a0 0))]) hx hb dX6_readMember_36 rfl hl (by decide) rfl (fun ls hl => ?_)
    refine lv_aload_n hx hb dX6_readMember_37 rfl (lv_at hl 2 rfl) ?_
    refine g_get (C := RX6) (T := TX6) (N := 15) hx hb hts iwX6_readMember_X6 hown hK hP 0 0 rfl rfl rfl 12 (Nat.le_of_ble_eq_true rfl) (hts _ kX6_readMember_0) (fun _ h9 => h9) rfl dX6_readMember_38 ?_
    refine lv_iconst (v := (0:Int32)) hx hb dX6_readMember_41 (by decide) ?_
    refine lv_dup2_11 hx hb dX6_readMember_42 rfl rfl ?_
    obtain ⟨h6, hf⟩ := gi_some hf
    refine g_iald hx hb hK hP 0 9 0 rfl rfl rfl h6 dX6_readMember_43 ?_
    refine lv_iconst (v := (1:Int32)) hx hb dX6_readMember_44 (by decide) ?_
    refine lv_iadd hx hb dX6_readMember_45 ?_
    obtain ⟨x7, ex7, hf⟩ := lt_some hf
    refine lv_nmi ex7 ?_
    obtain ⟨h8, hf⟩ := gi_some hf
    obtain ⟨u9, eu9, hf⟩ := lt_some hf
    refine g_iast (gs' := [mdW G a0 u9]) hx hb hK hP hD hS 0 9 0 rfl rfl rfl h8 dX6_readMember_46 (by rw [eu9]; rfl) (fun H locs hP hD hS => ?_)
    refine lv_aload_n hx hb dX6_readMember_47 rfl (lv_at hl 2 rfl) ?_
    refine g_get (C := RX6) (T := TX6) (N := 15) hx hb hts iwX6_readMember_X6 hown hK hP 0 0 rfl rfl rfl 12 (Nat.le_of_ble_eq_true rfl) (hts _ kX6_readMember_0) (fun _ h9 => h9) rfl dX6_readMember_48 ?_
    refine lv_iconst (v := (5:Int32)) hx hb dX6_readMember_51 (by decide) ?_
    refine lv_iload_n hx hb dX6_readMember_52 rfl (lv_at hl 1 rfl) ?_
    refine lv_iadd hx hb dX6_readMember_53 ?_
    refine lv_iload_n hx hb dX6_readMember_54 rfl (lv_at hl 0 rfl) ?_
    obtain ⟨h10, hf⟩ := gi_some hf
    obtain ⟨u11, eu11, hf⟩ := lt_some hf
    refine g_iast (gs' := [mdW G a0 u11]) hx hb hK hP hD hS 0 9 0 rfl rfl rfl h10 dX6_readMember_55 (by rw [eu11]; rfl) (fun H locs hP hD hS => ?_)
    refine lv_aload_n hx hb dX6_readMember_56 rfl (lv_at hl 2 rfl) ?_
    refine g_get (C := RX6) (T := TX6) (N := 15) hx hb hts iwX6_readMember_X6 hown hK hP 0 0 rfl rfl rfl 12 (Nat.le_of_ble_eq_true rfl) (hts _ kX6_readMember_0) (fun _ h9 => h9) rfl dX6_readMember_57 ?_
    refine lv_bipush (v := (13:Int32)) hx hb dX6_readMember_60 (by decide) ?_
    refine lv_iload_n hx hb dX6_readMember_62 rfl (lv_at hl 1 rfl) ?_
    refine lv_iadd hx hb dX6_readMember_63 ?_
    refine lv_ldc (v := (-99999:Int32)) hx hb hown (hts _ kX6_readMember_2) dX6_readMember_64 ?_
    obtain ⟨h12, hf⟩ := gi_some hf
    obtain ⟨u13, eu13, hf⟩ := lt_some hf
    refine g_iast (gs' := [mdW G a0 u13]) hx hb hK hP hD hS 0 9 0 rfl rfl rfl h12 dX6_readMember_66 (by rw [eu13]; rfl) (fun H locs hP hD hS => ?_)
    refine lv_aload_n hx hb dX6_readMember_67 rfl (lv_at hl 2 rfl) ?_
    refine g_get (C := RX6) (T := TX6) (N := 15) hx hb hts iwX6_readMember_X6 hown hK hP 0 0 rfl rfl rfl 12 (Nat.le_of_ble_eq_true rfl) (hts _ kX6_readMember_0) (fun _ h9 => h9) rfl dX6_readMember_68 ?_
    refine lv_bipush (v := (45:Int32)) hx hb dX6_readMember_71 (by decide) ?_
    refine lv_iload_n hx hb dX6_readMember_73 rfl (lv_at hl 1 rfl) ?_
    refine lv_iadd hx hb dX6_readMember_74 ?_
    refine lv_iconst (v := (1:Int32)) hx hb dX6_readMember_75 (by decide) ?_
    obtain ⟨h14, hf⟩ := gi_some hf
    obtain ⟨u15, eu15, hf⟩ := lt_some hf
    refine g_iast (gs' := [mdW G a0 u15]) hx hb hK hP hD hS 0 9 0 rfl rfl rfl h14 dX6_readMember_76 (by rw [eu15]; rfl) (fun H locs hP hD hS => ?_)
    refine lv_aload_n hx hb dX6_readMember_77 rfl (lv_at hl 2 rfl) ?_
    refine g_get (C := RX6) (T := TX6) (N := 15) hx hb hts iwX6_readMember_X6 hown hK hP 0 0 rfl rfl rfl 12 (Nat.le_of_ble_eq_true rfl) (hts _ kX6_readMember_0) (fun _ h9 => h9) rfl dX6_readMember_78 ?_
    refine lv_iconst (v := (4:Int32)) hx hb dX6_readMember_81 (by decide) ?_
    refine lv_dup2_11 hx hb dX6_readMember_82 rfl rfl ?_
    obtain ⟨h16, hf⟩ := gi_some hf
    refine g_iald hx hb hK hP 0 9 0 rfl rfl rfl h16 dX6_readMember_83 ?_
    refine lv_iload_n hx hb dX6_readMember_84 rfl (lv_at hl 0 rfl) ?_
    refine lv_iadd hx hb dX6_readMember_85 ?_
    obtain ⟨h17, hf⟩ := gi_some hf
    obtain ⟨u18, eu18, hf⟩ := lt_some hf
    refine g_iast (gs' := [mdW G a0 u18]) hx hb hK hP hD hS 0 9 0 rfl rfl rfl h17 dX6_readMember_86 (by rw [eu18]; rfl) (fun H locs hP hD hS => ?_)
    cases hf
    exact g_vret hx hb hr hlocks hP hS dX6_readMember_87
  · rw [if_pos c3] at hf
    refine lv_aload_n hx hb dX6_readMember_13 rfl (lv_at hl 1 rfl) ?_
    refine lv_aload_n hx hb dX6_readMember_14 rfl (lv_at hl 1 rfl) ?_
    refine g_get (C := RX6) (T := TX6) (N := 15) hx hb hts iwX6_readMember_X6 hown hK hP 0 0 rfl rfl rfl 13 (Nat.le_of_ble_eq_true rfl) (hts _ kX6_readMember_1) (fun _ h9 => h9) rfl dX6_readMember_15 ?_
    obtain ⟨u19, eu19, hf⟩ := lt_some hf
    refine g_put (ty := .int) (C := RX6) (T := TX6) (N := 15) (gs' := [mdW G a0 u19]) hx hb hts iwX6_readMember_X6 tyX6 tyX6_ok nmX6 hown hK hP hD hS 0 0 rfl rfl rfl 14 (Nat.le_of_ble_eq_true rfl) (hts _ kX6_readMember_3) (fun _ h9 => h9) rfl (by decide +kernel) rfl rfl (Nat.le_of_ble_eq_true rfl) dX6_readMember_18 (by rw [eu19]; rfl) (fun H locs hP hD hS => ?_)
    cases hf
    exact g_vret hx hb hr hlocks hP hS dX6_readMember_21
theorem kX6_readGuarantor_0 : Cond.fieldLink RX6 35 "SavingsCircleModel" "read" "[I" ∈ wsX6_readGuarantor := (List.mem_cons_of_mem _ (List.mem_append_left _ (List.mem_of_getElem? (i := 0) rfl)))
theorem kX6_readGuarantor_1 : Cond.fieldLink RX6 95 "SavingsCircleModel" "spot" "I" ∈ wsX6_readGuarantor := (List.mem_cons_of_mem _ (List.mem_append_left _ (List.mem_of_getElem? (i := 1) rfl)))
theorem kX6_readGuarantor_2 : Cond.fieldLink RX6 101 "SavingsCircleModel" "wrong" "I" ∈ wsX6_readGuarantor := (List.mem_cons_of_mem _ (List.mem_append_left _ (List.mem_of_getElem? (i := 2) rfl)))
theorem kX6_readGuarantor_3 : Cond.constant RX6 49 (-99999) ∈ wsX6_readGuarantor := (List.mem_cons_of_mem _ (List.mem_append_left _ (List.mem_of_getElem? (i := 3) rfl)))
theorem iwX6_readGuarantor_X6 : ∀ w ∈ wsX60, w ∈ wsX6_readGuarantor := fun w h => (List.mem_cons_of_mem _ (List.mem_append_right _ h))
set_option maxHeartbeats 4000000 in
set_option maxRecDepth 100000 in
theorem c_X6_readGuarantor (l : Launch) (G : uG) (a0 : Nat → Nat) (v0 : MdV) {q : Unit × (MdV)} (hf : f_X6_readGuarantor v0 = some q) : mQ l yX6_readGuarantor wsX6_readGuarantor ({ frames := 2, cells := 0, slots := 0, locals := 45 } : Room) G [.ref (a0 0)] [mdW G a0 v0] [mdW G a0 q.2] (qV G [mdW G a0 q.2] q.1) := by
  unfold f_X6_readGuarantor at hf
  refine m_of (cc := cX6_readGuarantor) (maxL := 3) (ret := none) (by decide) rfl rfl (Nat.le_of_ble_eq_true rfl) ?_
  intro p e s m args below meth c A ls S hK hA hP hD hS hl
  obtain ⟨hx, hb, hml, hown, hts, hr, hlocks⟩ := id S
  have hl : lv_has ls 3 [(0, .ref (a0 0))] := hl
  refine lv_aload_n hx hb dX6_readGuarantor_0 rfl (lv_at hl 0 rfl) ?_
  refine g_get (C := RX6) (T := TX6) (N := 15) hx hb hts iwX6_readGuarantor_X6 hown hK hP 0 0 rfl rfl rfl 12 (Nat.le_of_ble_eq_true rfl) (hts _ kX6_readGuarantor_0) (fun _ h9 => h9) rfl dX6_readGuarantor_1 ?_
  refine lv_iconst (v := (0:Int32)) hx hb dX6_readGuarantor_4 (by decide) ?_
  obtain ⟨h1, hf⟩ := gi_some hf
  refine g_iald hx hb hK hP 0 9 0 rfl rfl rfl h1 dX6_readGuarantor_5 ?_
  refine lv_iconst (v := (2:Int32)) hx hb dX6_readGuarantor_6 (by decide) ?_
  refine lv_icmp_ge (tgt := 19) hx hb dX6_readGuarantor_7 (by decide) (fun c2 => ?_) (fun c2 => ?_)
  · rw [if_pos c2] at hf
    refine lv_aload_n hx hb dX6_readGuarantor_19 rfl (lv_at hl 0 rfl) ?_
    refine lv_dup hx hb dX6_readGuarantor_20 rfl ?_
    refine g_get (C := RX6) (T := TX6) (N := 15) hx hb hts iwX6_readGuarantor_X6 hown hK hP 0 0 rfl rfl rfl 13 (Nat.le_of_ble_eq_true rfl) (hts _ kX6_readGuarantor_1) (fun _ h9 => h9) rfl dX6_readGuarantor_21 ?_
    refine lv_iconst (v := (1:Int32)) hx hb dX6_readGuarantor_24 (by decide) ?_
    refine lv_iadd hx hb dX6_readGuarantor_25 ?_
    obtain ⟨u3, eu3, hf⟩ := lt_some hf
    refine g_put (ty := .int) (C := RX6) (T := TX6) (N := 15) (gs' := [mdW G a0 u3]) hx hb hts iwX6_readGuarantor_X6 tyX6 tyX6_ok nmX6 hown hK hP hD hS 0 0 rfl rfl rfl 13 (Nat.le_of_ble_eq_true rfl) (hts _ kX6_readGuarantor_1) (fun _ h9 => h9) rfl (by decide +kernel) rfl rfl (Nat.le_of_ble_eq_true rfl) dX6_readGuarantor_26 (by rw [eu3]; rfl) (fun H locs hP hD hS => ?_)
    refine lv_aload_n hx hb dX6_readGuarantor_29 rfl (lv_at hl 0 rfl) ?_
    refine lv_iconst (v := (0:Int32)) hx hb dX6_readGuarantor_30 (by decide) ?_
    refine lv_aload_n hx hb dX6_readGuarantor_31 rfl (lv_at hl 0 rfl) ?_
    refine g_get (C := RX6) (T := TX6) (N := 15) hx hb hts iwX6_readGuarantor_X6 hown hK hP 0 0 rfl rfl rfl 12 (Nat.le_of_ble_eq_true rfl) (hts _ kX6_readGuarantor_0) (fun _ h9 => h9) rfl dX6_readGuarantor_32 ?_
    refine lv_iconst (v := (0:Int32)) hx hb dX6_readGuarantor_35 (by decide) ?_
    obtain ⟨h4, hf⟩ := gi_some hf
    refine g_iald hx hb hK hP 0 9 0 rfl rfl rfl h4 dX6_readGuarantor_36 ?_
    refine lv_iconst (v := (1:Int32)) hx hb dX6_readGuarantor_37 (by decide) ?_
    refine lv_isub hx hb dX6_readGuarantor_38 ?_
    obtain ⟨x5, ex5, hf⟩ := lt_some hf
    refine lv_nmi ex5 ?_
    obtain ⟨q6, hq6, hf⟩ := bd_some hf
    refine g_callVi S (As := [.int (0:Int32), .int x5]) (gs' := [mdW G a0 q6.2]) (c_X6_takes l G a0 u3 (0:Int32) x5 hq6) (cwV 2 hts gX6_readGuarantor_X6_takes rfl rfl rfl hd_X6_takes ⟨Nat.le_of_ble_eq_true rfl, Nat.le_of_ble_eq_true rfl⟩) hK hP hD hS hA (is := [0]) rfl rfl 0 rfl rfl rfl rfl hl.1 rfl (Nat.le_of_ble_eq_true rfl) dX6_readGuarantor_39 ⟨Nat.le_of_ble_eq_true rfl, Nat.le_of_ble_eq_true rfl⟩ rfl (fun H locs hP hD hS => ?_)
    refine lv_istore_n (lv' := [(1, .int q6.1), (0, .ref (a0 0))]) hx hb dX6_readGuarantor_42 rfl hl (by decide) rfl (fun ls hl => ?_)
    refine lv_aload_n hx hb dX6_readGuarantor_43 rfl (lv_at hl 1 rfl) ?_
    refine lv_iconst (v := (0:Int32)) hx hb dX6_readGuarantor_44 (by decide) ?_
    refine lv_aload_n hx hb dX6_readGuarantor_45 rfl (lv_at hl 1 rfl) ?_
    refine g_get (C := RX6) (T := TX6) (N := 15) hx hb hts iwX6_readGuarantor_X6 hown hK hP 0 0 rfl rfl rfl 12 (Nat.le_of_ble_eq_true rfl) (hts _ kX6_readGuarantor_0) (fun _ h9 => h9) rfl dX6_readGuarantor_46 ?_
    refine lv_iconst (v := (0:Int32)) hx hb dX6_readGuarantor_49 (by decide) ?_
    obtain ⟨h7, hf⟩ := gi_some hf
    refine g_iald hx hb hK hP 0 9 0 rfl rfl rfl h7 dX6_readGuarantor_50 ?_
    refine lv_iconst (v := (1:Int32)) hx hb dX6_readGuarantor_51 (by decide) ?_
    refine lv_isub hx hb dX6_readGuarantor_52 ?_
    obtain ⟨x8, ex8, hf⟩ := lt_some hf
    refine lv_nmi ex8 ?_
    obtain ⟨q9, hq9, hf⟩ := bd_some hf
    refine g_callVi S (As := [.int (0:Int32), .int x8]) (gs' := [mdW G a0 q9.2]) (c_X6_takes l G a0 q6.2 (0:Int32) x8 hq9) (cwV 2 hts gX6_readGuarantor_X6_takes rfl rfl rfl hd_X6_takes ⟨Nat.le_of_ble_eq_true rfl, Nat.le_of_ble_eq_true rfl⟩) hK hP hD hS hA (is := [0]) rfl rfl 0 rfl rfl rfl rfl hl.1 rfl (Nat.le_of_ble_eq_true rfl) dX6_readGuarantor_53 ⟨Nat.le_of_ble_eq_true rfl, Nat.le_of_ble_eq_true rfl⟩ rfl (fun H locs hP hD hS => ?_)
    refine lv_istore_n (lv' := [(2, .int q9.1), (1, .int q6.1), (0, .ref (a0 0))]) hx hb dX6_readGuarantor_56 rfl hl (by decide) rfl (fun ls hl => ?_)
    refine lv_aload_n hx hb dX6_readGuarantor_57 rfl (lv_at hl 2 rfl) ?_
    refine g_get (C := RX6) (T := TX6) (N := 15) hx hb hts iwX6_readGuarantor_X6 hown hK hP 0 0 rfl rfl rfl 14 (Nat.le_of_ble_eq_true rfl) (hts _ kX6_readGuarantor_2) (fun _ h9 => h9) rfl dX6_readGuarantor_58 ?_
    refine lv_ldc (v := (-99999:Int32)) hx hb hown (hts _ kX6_readGuarantor_3) dX6_readGuarantor_61 ?_
    refine lv_icmp_ne (tgt := 81) hx hb dX6_readGuarantor_63 (by decide) (fun c10 => ?_) (fun c10 => ?_)
    · rw [if_neg c10] at hf
      refine lv_aload_n hx hb dX6_readGuarantor_81 rfl (lv_at hl 2 rfl) ?_
      refine g_get (C := RX6) (T := TX6) (N := 15) hx hb hts iwX6_readGuarantor_X6 hown hK hP 0 0 rfl rfl rfl 14 (Nat.le_of_ble_eq_true rfl) (hts _ kX6_readGuarantor_2) (fun _ h9 => h9) rfl dX6_readGuarantor_82 ?_
      refine lv_ldc (v := (-99999:Int32)) hx hb hown (hts _ kX6_readGuarantor_3) dX6_readGuarantor_85 ?_
      refine lv_icmp_ne (tgt := 100) hx hb dX6_readGuarantor_87 (by decide) (fun c11 => ?_) (fun c11 => ?_)
      · rw [if_neg c11] at hf
        cases hf
        exact g_vret hx hb hr hlocks hP hS dX6_readGuarantor_100
      · rw [if_pos c11] at hf
        refine lv_aload_n hx hb dX6_readGuarantor_90 rfl (lv_at hl 2 rfl) ?_
        refine g_get (C := RX6) (T := TX6) (N := 15) hx hb hts iwX6_readGuarantor_X6 hown hK hP 0 0 rfl rfl rfl 12 (Nat.le_of_ble_eq_true rfl) (hts _ kX6_readGuarantor_0) (fun _ h9 => h9) rfl dX6_readGuarantor_91 ?_
        refine lv_bipush (v := (13:Int32)) hx hb dX6_readGuarantor_94 (by decide) ?_
        refine lv_iload_n hx hb dX6_readGuarantor_96 rfl (lv_at hl 1 rfl) ?_
        refine lv_iadd hx hb dX6_readGuarantor_97 ?_
        refine lv_iload_n hx hb dX6_readGuarantor_98 rfl (lv_at hl 0 rfl) ?_
        obtain ⟨h12, hf⟩ := gi_some hf
        obtain ⟨u13, eu13, hf⟩ := lt_some hf
        refine g_iast (gs' := [mdW G a0 u13]) hx hb hK hP hD hS 0 9 0 rfl rfl rfl h12 dX6_readGuarantor_99 (by rw [eu13]; rfl) (fun H locs hP hD hS => ?_)
        cases hf
        exact g_vret hx hb hr hlocks hP hS dX6_readGuarantor_100
    · rw [if_pos c10] at hf
      refine lv_iload_n hx hb dX6_readGuarantor_66 rfl (lv_at hl 1 rfl) ?_
      refine lv_iload_n hx hb dX6_readGuarantor_67 rfl (lv_at hl 0 rfl) ?_
      refine lv_icmp_ne (tgt := 81) hx hb dX6_readGuarantor_68 (by decide) (fun c14 => ?_) (fun c14 => ?_)
      · rw [if_neg c14] at hf
        refine lv_aload_n hx hb dX6_readGuarantor_81 rfl (lv_at hl 2 rfl) ?_
        refine g_get (C := RX6) (T := TX6) (N := 15) hx hb hts iwX6_readGuarantor_X6 hown hK hP 0 0 rfl rfl rfl 14 (Nat.le_of_ble_eq_true rfl) (hts _ kX6_readGuarantor_2) (fun _ h9 => h9) rfl dX6_readGuarantor_82 ?_
        refine lv_ldc (v := (-99999:Int32)) hx hb hown (hts _ kX6_readGuarantor_3) dX6_readGuarantor_85 ?_
        refine lv_icmp_ne (tgt := 100) hx hb dX6_readGuarantor_87 (by decide) (fun c15 => ?_) (fun c15 => ?_)
        · rw [if_neg c15] at hf
          cases hf
          exact g_vret hx hb hr hlocks hP hS dX6_readGuarantor_100
        · rw [if_pos c15] at hf
          refine lv_aload_n hx hb dX6_readGuarantor_90 rfl (lv_at hl 2 rfl) ?_
          refine g_get (C := RX6) (T := TX6) (N := 15) hx hb hts iwX6_readGuarantor_X6 hown hK hP 0 0 rfl rfl rfl 12 (Nat.le_of_ble_eq_true rfl) (hts _ kX6_readGuarantor_0) (fun _ h9 => h9) rfl dX6_readGuarantor_91 ?_
          refine lv_bipush (v := (13:Int32)) hx hb dX6_readGuarantor_94 (by decide) ?_
          refine lv_iload_n hx hb dX6_readGuarantor_96 rfl (lv_at hl 1 rfl) ?_
          refine lv_iadd hx hb dX6_readGuarantor_97 ?_
          refine lv_iload_n hx hb dX6_readGuarantor_98 rfl (lv_at hl 0 rfl) ?_
          obtain ⟨h16, hf⟩ := gi_some hf
          obtain ⟨u17, eu17, hf⟩ := lt_some hf
          refine g_iast (gs' := [mdW G a0 u17]) hx hb hK hP hD hS 0 9 0 rfl rfl rfl h16 dX6_readGuarantor_99 (by rw [eu17]; rfl) (fun H locs hP hD hS => ?_)
          cases hf
          exact g_vret hx hb hr hlocks hP hS dX6_readGuarantor_100
      · rw [if_pos c14] at hf
        refine lv_aload_n hx hb dX6_readGuarantor_71 rfl (lv_at hl 2 rfl) ?_
        refine lv_aload_n hx hb dX6_readGuarantor_72 rfl (lv_at hl 2 rfl) ?_
        refine g_get (C := RX6) (T := TX6) (N := 15) hx hb hts iwX6_readGuarantor_X6 hown hK hP 0 0 rfl rfl rfl 13 (Nat.le_of_ble_eq_true rfl) (hts _ kX6_readGuarantor_1) (fun _ h9 => h9) rfl dX6_readGuarantor_73 ?_
        refine lv_iconst (v := (1:Int32)) hx hb dX6_readGuarantor_76 (by decide) ?_
        refine lv_isub hx hb dX6_readGuarantor_77 ?_
        obtain ⟨u18, eu18, hf⟩ := lt_some hf
        refine g_put (ty := .int) (C := RX6) (T := TX6) (N := 15) (gs' := [mdW G a0 u18]) hx hb hts iwX6_readGuarantor_X6 tyX6 tyX6_ok nmX6 hown hK hP hD hS 0 0 rfl rfl rfl 14 (Nat.le_of_ble_eq_true rfl) (hts _ kX6_readGuarantor_2) (fun _ h9 => h9) rfl (by decide +kernel) rfl rfl (Nat.le_of_ble_eq_true rfl) dX6_readGuarantor_78 (by rw [eu18]; rfl) (fun H locs hP hD hS => ?_)
        refine lv_aload_n hx hb dX6_readGuarantor_81 rfl (lv_at hl 2 rfl) ?_
        refine g_get (C := RX6) (T := TX6) (N := 15) hx hb hts iwX6_readGuarantor_X6 hown hK hP 0 0 rfl rfl rfl 14 (Nat.le_of_ble_eq_true rfl) (hts _ kX6_readGuarantor_2) (fun _ h9 => h9) rfl dX6_readGuarantor_82 ?_
        refine lv_ldc (v := (-99999:Int32)) hx hb hown (hts _ kX6_readGuarantor_3) dX6_readGuarantor_85 ?_
        refine lv_icmp_ne (tgt := 100) hx hb dX6_readGuarantor_87 (by decide) (fun c19 => ?_) (fun c19 => ?_)
        · rw [if_neg c19] at hf
          cases hf
          exact g_vret hx hb hr hlocks hP hS dX6_readGuarantor_100
        · rw [if_pos c19] at hf
          refine lv_aload_n hx hb dX6_readGuarantor_90 rfl (lv_at hl 2 rfl) ?_
          refine g_get (C := RX6) (T := TX6) (N := 15) hx hb hts iwX6_readGuarantor_X6 hown hK hP 0 0 rfl rfl rfl 12 (Nat.le_of_ble_eq_true rfl) (hts _ kX6_readGuarantor_0) (fun _ h9 => h9) rfl dX6_readGuarantor_91 ?_
          refine lv_bipush (v := (13:Int32)) hx hb dX6_readGuarantor_94 (by decide) ?_
          refine lv_iload_n hx hb dX6_readGuarantor_96 rfl (lv_at hl 1 rfl) ?_
          refine lv_iadd hx hb dX6_readGuarantor_97 ?_
          refine lv_iload_n hx hb dX6_readGuarantor_98 rfl (lv_at hl 0 rfl) ?_
          obtain ⟨h20, hf⟩ := gi_some hf
          obtain ⟨u21, eu21, hf⟩ := lt_some hf
          refine g_iast (gs' := [mdW G a0 u21]) hx hb hK hP hD hS 0 9 0 rfl rfl rfl h20 dX6_readGuarantor_99 (by rw [eu21]; rfl) (fun H locs hP hD hS => ?_)
          cases hf
          exact g_vret hx hb hr hlocks hP hS dX6_readGuarantor_100
  · rw [if_neg c2] at hf
    refine lv_aload_n hx hb dX6_readGuarantor_10 rfl (lv_at hl 0 rfl) ?_
    refine lv_aload_n hx hb dX6_readGuarantor_11 rfl (lv_at hl 0 rfl) ?_
    refine g_get (C := RX6) (T := TX6) (N := 15) hx hb hts iwX6_readGuarantor_X6 hown hK hP 0 0 rfl rfl rfl 13 (Nat.le_of_ble_eq_true rfl) (hts _ kX6_readGuarantor_1) (fun _ h9 => h9) rfl dX6_readGuarantor_12 ?_
    obtain ⟨u22, eu22, hf⟩ := lt_some hf
    refine g_put (ty := .int) (C := RX6) (T := TX6) (N := 15) (gs' := [mdW G a0 u22]) hx hb hts iwX6_readGuarantor_X6 tyX6 tyX6_ok nmX6 hown hK hP hD hS 0 0 rfl rfl rfl 14 (Nat.le_of_ble_eq_true rfl) (hts _ kX6_readGuarantor_2) (fun _ h9 => h9) rfl (by decide +kernel) rfl rfl (Nat.le_of_ble_eq_true rfl) dX6_readGuarantor_15 (by rw [eu22]; rfl) (fun H locs hP hD hS => ?_)
    cases hf
    exact g_vret hx hb hr hlocks hP hS dX6_readGuarantor_18
theorem kX6_readBid_0 : Cond.fieldLink RX6 35 "SavingsCircleModel" "read" "[I" ∈ wsX6_readBid := (List.mem_cons_of_mem _ (List.mem_append_left _ (List.mem_of_getElem? (i := 0) rfl)))
theorem kX6_readBid_1 : Cond.fieldLink RX6 95 "SavingsCircleModel" "spot" "I" ∈ wsX6_readBid := (List.mem_cons_of_mem _ (List.mem_append_left _ (List.mem_of_getElem? (i := 1) rfl)))
theorem kX6_readBid_2 : Cond.fieldLink RX6 101 "SavingsCircleModel" "wrong" "I" ∈ wsX6_readBid := (List.mem_cons_of_mem _ (List.mem_append_left _ (List.mem_of_getElem? (i := 2) rfl)))
theorem kX6_readBid_3 : Cond.constant RX6 49 (-99999) ∈ wsX6_readBid := (List.mem_cons_of_mem _ (List.mem_append_left _ (List.mem_of_getElem? (i := 3) rfl)))
theorem iwX6_readBid_X6 : ∀ w ∈ wsX60, w ∈ wsX6_readBid := fun w h => (List.mem_cons_of_mem _ (List.mem_append_right _ h))
set_option maxHeartbeats 4000000 in
set_option maxRecDepth 100000 in
theorem c_X6_readBid (l : Launch) (G : uG) (a0 : Nat → Nat) (v0 : MdV) {q : Unit × (MdV)} (hf : f_X6_readBid v0 = some q) : mQ l yX6_readBid wsX6_readBid ({ frames := 3, cells := 0, slots := 0, locals := 67 } : Room) G [.ref (a0 0)] [mdW G a0 v0] [mdW G a0 q.2] (qV G [mdW G a0 q.2] q.1) := by
  unfold f_X6_readBid at hf
  refine m_of (cc := cX6_readBid) (maxL := 3) (ret := none) (by decide) rfl rfl (Nat.le_of_ble_eq_true rfl) ?_
  intro p e s m args below meth c A ls S hK hA hP hD hS hl
  obtain ⟨hx, hb, hml, hown, hts, hr, hlocks⟩ := id S
  have hl : lv_has ls 3 [(0, .ref (a0 0))] := hl
  refine lv_aload_n hx hb dX6_readBid_0 rfl (lv_at hl 0 rfl) ?_
  refine g_get (C := RX6) (T := TX6) (N := 15) hx hb hts iwX6_readBid_X6 hown hK hP 0 0 rfl rfl rfl 12 (Nat.le_of_ble_eq_true rfl) (hts _ kX6_readBid_0) (fun _ h9 => h9) rfl dX6_readBid_1 ?_
  refine lv_iconst (v := (0:Int32)) hx hb dX6_readBid_4 (by decide) ?_
  obtain ⟨h1, hf⟩ := gi_some hf
  refine g_iald hx hb hK hP 0 9 0 rfl rfl rfl h1 dX6_readBid_5 ?_
  refine lv_iconst (v := (1:Int32)) hx hb dX6_readBid_6 (by decide) ?_
  refine lv_icmp_ge (tgt := 19) hx hb dX6_readBid_7 (by decide) (fun c2 => ?_) (fun c2 => ?_)
  · rw [if_pos c2] at hf
    refine lv_aload_n hx hb dX6_readBid_19 rfl (lv_at hl 0 rfl) ?_
    refine lv_dup hx hb dX6_readBid_20 rfl ?_
    refine g_get (C := RX6) (T := TX6) (N := 15) hx hb hts iwX6_readBid_X6 hown hK hP 0 0 rfl rfl rfl 13 (Nat.le_of_ble_eq_true rfl) (hts _ kX6_readBid_1) (fun _ h9 => h9) rfl dX6_readBid_21 ?_
    refine lv_iconst (v := (1:Int32)) hx hb dX6_readBid_24 (by decide) ?_
    refine lv_iadd hx hb dX6_readBid_25 ?_
    obtain ⟨u3, eu3, hf⟩ := lt_some hf
    refine g_put (ty := .int) (C := RX6) (T := TX6) (N := 15) (gs' := [mdW G a0 u3]) hx hb hts iwX6_readBid_X6 tyX6 tyX6_ok nmX6 hown hK hP hD hS 0 0 rfl rfl rfl 13 (Nat.le_of_ble_eq_true rfl) (hts _ kX6_readBid_1) (fun _ h9 => h9) rfl (by decide +kernel) rfl rfl (Nat.le_of_ble_eq_true rfl) dX6_readBid_26 (by rw [eu3]; rfl) (fun H locs hP hD hS => ?_)
    refine lv_aload_n hx hb dX6_readBid_29 rfl (lv_at hl 0 rfl) ?_
    refine lv_iconst (v := (0:Int32)) hx hb dX6_readBid_30 (by decide) ?_
    refine lv_aload_n hx hb dX6_readBid_31 rfl (lv_at hl 0 rfl) ?_
    refine g_get (C := RX6) (T := TX6) (N := 15) hx hb hts iwX6_readBid_X6 hown hK hP 0 0 rfl rfl rfl 12 (Nat.le_of_ble_eq_true rfl) (hts _ kX6_readBid_0) (fun _ h9 => h9) rfl dX6_readBid_32 ?_
    refine lv_iconst (v := (0:Int32)) hx hb dX6_readBid_35 (by decide) ?_
    obtain ⟨h4, hf⟩ := gi_some hf
    refine g_iald hx hb hK hP 0 9 0 rfl rfl rfl h4 dX6_readBid_36 ?_
    refine lv_iconst (v := (1:Int32)) hx hb dX6_readBid_37 (by decide) ?_
    refine lv_isub hx hb dX6_readBid_38 ?_
    obtain ⟨x5, ex5, hf⟩ := lt_some hf
    refine lv_nmi ex5 ?_
    obtain ⟨q6, hq6, hf⟩ := bd_some hf
    refine g_callVi S (As := [.int (0:Int32), .int x5]) (gs' := [mdW G a0 q6.2]) (c_X6_takes l G a0 u3 (0:Int32) x5 hq6) (cwV 2 hts gX6_readBid_X6_takes rfl rfl rfl hd_X6_takes ⟨Nat.le_of_ble_eq_true rfl, Nat.le_of_ble_eq_true rfl⟩) hK hP hD hS hA (is := [0]) rfl rfl 0 rfl rfl rfl rfl hl.1 rfl (Nat.le_of_ble_eq_true rfl) dX6_readBid_39 ⟨Nat.le_of_ble_eq_true rfl, Nat.le_of_ble_eq_true rfl⟩ rfl (fun H locs hP hD hS => ?_)
    refine lv_istore_n (lv' := [(1, .int q6.1), (0, .ref (a0 0))]) hx hb dX6_readBid_42 rfl hl (by decide) rfl (fun ls hl => ?_)
    refine lv_aload_n hx hb dX6_readBid_43 rfl (lv_at hl 1 rfl) ?_
    refine g_get (C := RX6) (T := TX6) (N := 15) hx hb hts iwX6_readBid_X6 hown hK hP 0 0 rfl rfl rfl 14 (Nat.le_of_ble_eq_true rfl) (hts _ kX6_readBid_2) (fun _ h9 => h9) rfl dX6_readBid_44 ?_
    refine lv_ldc (v := (-99999:Int32)) hx hb hown (hts _ kX6_readBid_3) dX6_readBid_47 ?_
    refine lv_icmp_ne (tgt := 59) hx hb dX6_readBid_49 (by decide) (fun c7 => ?_) (fun c7 => ?_)
    · rw [if_neg c7] at hf
      refine lv_iconst (v := (0:Int32)) hx hb dX6_readBid_59 (by decide) ?_
      refine lv_istore_n (lv' := [(2, .int (0:Int32)), (1, .int q6.1), (0, .ref (a0 0))]) hx hb dX6_readBid_60 rfl hl (by decide) rfl (fun ls hl => ?_)
      refine lv_aload_n hx hb dX6_readBid_61 rfl (lv_at hl 2 rfl) ?_
      refine g_get (C := RX6) (T := TX6) (N := 15) hx hb hts iwX6_readBid_X6 hown hK hP 0 0 rfl rfl rfl 14 (Nat.le_of_ble_eq_true rfl) (hts _ kX6_readBid_2) (fun _ h9 => h9) rfl dX6_readBid_62 ?_
      refine lv_ldc (v := (-99999:Int32)) hx hb hown (hts _ kX6_readBid_3) dX6_readBid_65 ?_
      refine lv_icmp_ne (tgt := 80) hx hb dX6_readBid_67 (by decide) (fun c8 => ?_) (fun c8 => ?_)
      · rw [if_neg c8] at hf
        cases hf
        exact g_vret hx hb hr hlocks hP hS dX6_readBid_80
      · rw [if_pos c8] at hf
        refine lv_aload_n hx hb dX6_readBid_70 rfl (lv_at hl 2 rfl) ?_
        refine g_get (C := RX6) (T := TX6) (N := 15) hx hb hts iwX6_readBid_X6 hown hK hP 0 0 rfl rfl rfl 12 (Nat.le_of_ble_eq_true rfl) (hts _ kX6_readBid_0) (fun _ h9 => h9) rfl dX6_readBid_71 ?_
        refine lv_bipush (v := (21:Int32)) hx hb dX6_readBid_74 (by decide) ?_
        refine lv_iload_n hx hb dX6_readBid_76 rfl (lv_at hl 1 rfl) ?_
        refine lv_iadd hx hb dX6_readBid_77 ?_
        refine lv_iload_n hx hb dX6_readBid_78 rfl (lv_at hl 0 rfl) ?_
        obtain ⟨h9, hf⟩ := gi_some hf
        obtain ⟨u10, eu10, hf⟩ := lt_some hf
        refine g_iast (gs' := [mdW G a0 u10]) hx hb hK hP hD hS 0 9 0 rfl rfl rfl h9 dX6_readBid_79 (by rw [eu10]; rfl) (fun H locs hP hD hS => ?_)
        cases hf
        exact g_vret hx hb hr hlocks hP hS dX6_readBid_80
    · rw [if_pos c7] at hf
      refine lv_aload_n hx hb dX6_readBid_52 rfl (lv_at hl 1 rfl) ?_
      obtain ⟨q11, hq11, hf⟩ := bd_some hf
      refine g_callVi S (As := []) (gs' := [mdW G a0 q11.2]) (c_X6_takesThree l G a0 q6.2 hq11) (cwV 0 hts gX6_readBid_X6_takesThree rfl rfl rfl hd_X6_takesThree ⟨Nat.le_of_ble_eq_true rfl, Nat.le_of_ble_eq_true rfl⟩) hK hP hD hS hA (is := [0]) rfl rfl 0 rfl rfl rfl rfl hl.1 rfl (Nat.le_of_ble_eq_true rfl) dX6_readBid_53 ⟨Nat.le_of_ble_eq_true rfl, Nat.le_of_ble_eq_true rfl⟩ rfl (fun H locs hP hD hS => ?_)
      refine lv_goto (tgt := 60) hx hb dX6_readBid_56 (by decide) ?_
      refine lv_istore_n (lv' := [(2, .int q11.1), (1, .int q6.1), (0, .ref (a0 0))]) hx hb dX6_readBid_60 rfl hl (by decide) rfl (fun ls hl => ?_)
      refine lv_aload_n hx hb dX6_readBid_61 rfl (lv_at hl 2 rfl) ?_
      refine g_get (C := RX6) (T := TX6) (N := 15) hx hb hts iwX6_readBid_X6 hown hK hP 0 0 rfl rfl rfl 14 (Nat.le_of_ble_eq_true rfl) (hts _ kX6_readBid_2) (fun _ h9 => h9) rfl dX6_readBid_62 ?_
      refine lv_ldc (v := (-99999:Int32)) hx hb hown (hts _ kX6_readBid_3) dX6_readBid_65 ?_
      refine lv_icmp_ne (tgt := 80) hx hb dX6_readBid_67 (by decide) (fun c12 => ?_) (fun c12 => ?_)
      · rw [if_neg c12] at hf
        cases hf
        exact g_vret hx hb hr hlocks hP hS dX6_readBid_80
      · rw [if_pos c12] at hf
        refine lv_aload_n hx hb dX6_readBid_70 rfl (lv_at hl 2 rfl) ?_
        refine g_get (C := RX6) (T := TX6) (N := 15) hx hb hts iwX6_readBid_X6 hown hK hP 0 0 rfl rfl rfl 12 (Nat.le_of_ble_eq_true rfl) (hts _ kX6_readBid_0) (fun _ h9 => h9) rfl dX6_readBid_71 ?_
        refine lv_bipush (v := (21:Int32)) hx hb dX6_readBid_74 (by decide) ?_
        refine lv_iload_n hx hb dX6_readBid_76 rfl (lv_at hl 1 rfl) ?_
        refine lv_iadd hx hb dX6_readBid_77 ?_
        refine lv_iload_n hx hb dX6_readBid_78 rfl (lv_at hl 0 rfl) ?_
        obtain ⟨h13, hf⟩ := gi_some hf
        obtain ⟨u14, eu14, hf⟩ := lt_some hf
        refine g_iast (gs' := [mdW G a0 u14]) hx hb hK hP hD hS 0 9 0 rfl rfl rfl h13 dX6_readBid_79 (by rw [eu14]; rfl) (fun H locs hP hD hS => ?_)
        cases hf
        exact g_vret hx hb hr hlocks hP hS dX6_readBid_80
  · rw [if_neg c2] at hf
    refine lv_aload_n hx hb dX6_readBid_10 rfl (lv_at hl 0 rfl) ?_
    refine lv_aload_n hx hb dX6_readBid_11 rfl (lv_at hl 0 rfl) ?_
    refine g_get (C := RX6) (T := TX6) (N := 15) hx hb hts iwX6_readBid_X6 hown hK hP 0 0 rfl rfl rfl 13 (Nat.le_of_ble_eq_true rfl) (hts _ kX6_readBid_1) (fun _ h9 => h9) rfl dX6_readBid_12 ?_
    obtain ⟨u15, eu15, hf⟩ := lt_some hf
    refine g_put (ty := .int) (C := RX6) (T := TX6) (N := 15) (gs' := [mdW G a0 u15]) hx hb hts iwX6_readBid_X6 tyX6 tyX6_ok nmX6 hown hK hP hD hS 0 0 rfl rfl rfl 14 (Nat.le_of_ble_eq_true rfl) (hts _ kX6_readBid_2) (fun _ h9 => h9) rfl (by decide +kernel) rfl rfl (Nat.le_of_ble_eq_true rfl) dX6_readBid_15 (by rw [eu15]; rfl) (fun H locs hP hD hS => ?_)
    cases hf
    exact g_vret hx hb hr hlocks hP hS dX6_readBid_18
theorem kX6_readText_0 : Cond.fieldLink RX6 35 "SavingsCircleModel" "read" "[I" ∈ wsX6_readText := (List.mem_cons_of_mem _ (List.mem_append_left _ (List.mem_append_left _ (List.mem_of_getElem? (i := 0) rfl))))
theorem kX6_readText_1 : Cond.constant RX6 49 (-99999) ∈ wsX6_readText := (List.mem_cons_of_mem _ (List.mem_append_left _ (List.mem_append_left _ (List.mem_of_getElem? (i := 1) rfl))))
theorem kX6_readText_2 : Cond.fieldLink RX6 101 "SavingsCircleModel" "wrong" "I" ∈ wsX6_readText := (List.mem_cons_of_mem _ (List.mem_append_left _ (List.mem_append_left _ (List.mem_of_getElem? (i := 2) rfl))))
theorem kX6_readText_3 : Cond.fieldLink RX6 95 "SavingsCircleModel" "spot" "I" ∈ wsX6_readText := (List.mem_cons_of_mem _ (List.mem_append_left _ (List.mem_append_left _ (List.mem_of_getElem? (i := 3) rfl))))
theorem kX6_readText_4 : Cond.fieldLink RX6 92 "SavingsCircleModel" "typed" "I" ∈ wsX6_readText := (List.mem_cons_of_mem _ (List.mem_append_left _ (List.mem_append_left _ (List.mem_of_getElem? (i := 4) rfl))))
theorem iwX6_readText_X6 : ∀ w ∈ wsX60, w ∈ wsX6_readText := fun w h => (List.mem_cons_of_mem _ (List.mem_append_right _ h))
set_option maxHeartbeats 4000000 in
set_option maxRecDepth 100000 in
theorem w_X6_readText_2 {p : Program} {l : Launch} {e : Env} {s : State} {m : MethodId} {args : Array Value} {below : List Frame} {meth : Method} {c : Code} {A : Nat → Prop} {Q : State → Prop} (S : Ev p s m args meth c cX6_readText 2 (some .int) yX6_readText.cls wsX6_readText) {G : uG} (hK : kK G s) (hA : ∀ q, s.heap.size ≤ q → A q) (_ : uG) (a0 : Nat → Nat) : ∀ (n : Nat) (z : (Int32 × MdV)) (e1 : (Int32 × MdV)), lp (b_X6_readText_2) n z = some e1 → ∀ (H : Heap) (locs : List Loc) (ls : Array Slot), gP G [mdW G a0 z.2] H → gD A [mdW G a0 z.2] → va_S A s.heap H locs → lv_has ls 2 [(0, .ref (a0 0)), (1, .int z.1)] → (∀ (H : Heap) (locs : List Loc) (ls : Array Slot), gP G [mdW G a0 e1.2] H → gD A [mdW G a0 e1.2] → va_S A s.heap H locs → lv_has ls 2 [(0, .ref (a0 0)), (1, .int e1.1)] → W p l e ({ frames := 4, cells := 0, slots := 0, locals := 89 } : Room) s m args below meth c H locs 0 0 Q (F0 m 22 ls [])) → W p l e ({ frames := 4, cells := 0, slots := 0, locals := 89 } : Room) s m args below meth c H locs 0 0 Q (F0 m 2 ls []) := by
  obtain ⟨hx, hb, hml, hown, hts, hr, hlocks⟩ := id S
  intro n
  induction n with
  | zero => intro z e1 h; cases h
  | succ n ih =>
    intro z e1 hlp H locs ls hP hD hS hl K
    obtain ⟨z9, hf, hz⟩ := lp_s hlp
    unfold b_X6_readText_2 at hf
    refine lv_iload_n hx hb dX6_readText_2 rfl (lv_at hl 1 rfl) ?_
    refine lv_sipush (v := (157:Int32)) hx hb dX6_readText_3 (by decide) ?_
    refine lv_icmp_ge (tgt := 22) hx hb dX6_readText_6 (by decide) (fun c1 => ?_) (fun c1 => ?_)
    · rw [if_pos c1] at hf
      have he := lz_r hf hz
      subst he
      exact K H locs ls hP hD hS (lv_sub hl [0, 1] rfl)
    · rw [if_neg c1] at hf
      refine lv_aload_n hx hb dX6_readText_9 rfl (lv_at hl 0 rfl) ?_
      refine g_get (C := RX6) (T := TX6) (N := 15) hx hb hts iwX6_readText_X6 hown hK hP 0 0 rfl rfl rfl 12 (Nat.le_of_ble_eq_true rfl) (hts _ kX6_readText_0) (fun _ h9 => h9) rfl dX6_readText_10 ?_
      refine lv_iload_n hx hb dX6_readText_13 rfl (lv_at hl 1 rfl) ?_
      refine lv_iconst (v := (0:Int32)) hx hb dX6_readText_14 (by decide) ?_
      obtain ⟨h2, hf⟩ := gi_some hf
      obtain ⟨u3, eu3, hf⟩ := lt_some hf
      refine g_iast (gs' := [mdW G a0 u3]) hx hb hK hP hD hS 0 9 0 rfl rfl rfl h2 dX6_readText_15 (by rw [eu3]; rfl) (fun H locs hP hD hS => ?_)
      obtain ⟨x4, ex4, hf⟩ := lt_some hf
      refine lv_iinc (v := x4) (lv' := [(1, .int x4), (0, .ref (a0 0))]) hx hb dX6_readText_16 hl (k := 1) rfl (by rw [ex4]; rfl) (by decide) rfl (fun ls hl => ?_)
      refine lv_goto (tgt := 2) hx hb dX6_readText_19 (by decide) ?_
      exact ih _ e1 (lz_l hf hz) H locs ls hP hD hS (lv_sub hl [1, 0] rfl) K
set_option maxHeartbeats 4000000 in
set_option maxRecDepth 100000 in
theorem w_X6_readText_32 {p : Program} {l : Launch} {e : Env} {s : State} {m : MethodId} {args : Array Value} {below : List Frame} {meth : Method} {c : Code} {A : Nat → Prop} {Q : State → Prop} (S : Ev p s m args meth c cX6_readText 2 (some .int) yX6_readText.cls wsX6_readText) {G : uG} (hK : kK G s) (hA : ∀ q, s.heap.size ≤ q → A q) (_ : uG) (a0 : Nat → Nat) : ∀ (n : Nat) (z : MdV) (e1 : MdV), lp (b_X6_readText_32) n z = some e1 → ∀ (H : Heap) (locs : List Loc) (ls : Array Slot), gP G [mdW G a0 z] H → gD A [mdW G a0 z] → va_S A s.heap H locs → lv_has ls 2 [(0, .ref (a0 0))] → (∀ (H : Heap) (locs : List Loc) (ls : Array Slot), gP G [mdW G a0 e1] H → gD A [mdW G a0 e1] → va_S A s.heap H locs → lv_has ls 2 [(0, .ref (a0 0))] → W p l e ({ frames := 4, cells := 0, slots := 0, locals := 89 } : Room) s m args below meth c H locs 0 0 Q (F0 m 111 ls [])) → W p l e ({ frames := 4, cells := 0, slots := 0, locals := 89 } : Room) s m args below meth c H locs 0 0 Q (F0 m 32 ls []) := by
  obtain ⟨hx, hb, hml, hown, hts, hr, hlocks⟩ := id S
  intro n
  induction n with
  | zero => intro z e1 h; cases h
  | succ n ih =>
    intro z e1 hlp H locs ls hP hD hS hl K
    obtain ⟨z9, hf, hz⟩ := lp_s hlp
    unfold b_X6_readText_32 at hf
    refine lv_aload_n hx hb dX6_readText_32 rfl (lv_at hl 0 rfl) ?_
    refine g_get (C := RX6) (T := TX6) (N := 15) hx hb hts iwX6_readText_X6 hown hK hP 0 0 rfl rfl rfl 14 (Nat.le_of_ble_eq_true rfl) (hts _ kX6_readText_2) (fun _ h9 => h9) rfl dX6_readText_33 ?_
    refine lv_ldc (v := (-99999:Int32)) hx hb hown (hts _ kX6_readText_1) dX6_readText_36 ?_
    refine lv_icmp_ne (tgt := 111) hx hb dX6_readText_38 (by decide) (fun c8 => ?_) (fun c8 => ?_)
    · rw [if_neg c8] at hf
      have he := lz_r hf hz
      subst he
      exact K H locs ls hP hD hS (lv_sub hl [0] rfl)
    · rw [if_pos c8] at hf
      refine lv_aload_n hx hb dX6_readText_41 rfl (lv_at hl 0 rfl) ?_
      refine g_get (C := RX6) (T := TX6) (N := 15) hx hb hts iwX6_readText_X6 hown hK hP 0 0 rfl rfl rfl 13 (Nat.le_of_ble_eq_true rfl) (hts _ kX6_readText_3) (fun _ h9 => h9) rfl dX6_readText_42 ?_
      refine lv_aload_n hx hb dX6_readText_45 rfl (lv_at hl 0 rfl) ?_
      refine g_get (C := RX6) (T := TX6) (N := 15) hx hb hts iwX6_readText_X6 hown hK hP 0 0 rfl rfl rfl 8 (Nat.le_of_ble_eq_true rfl) (hts _ kX6_readText_4) (fun _ h9 => h9) rfl dX6_readText_46 ?_
      refine lv_icmp_ge (tgt := 111) hx hb dX6_readText_49 (by decide) (fun c9 => ?_) (fun c9 => ?_)
      · rw [if_pos c9] at hf
        have he := lz_r hf hz
        subst he
        exact K H locs ls hP hD hS (lv_sub hl [0] rfl)
      · rw [if_neg c9] at hf
        refine lv_aload_n hx hb dX6_readText_52 rfl (lv_at hl 0 rfl) ?_
        refine lv_aload_n hx hb dX6_readText_53 rfl (lv_at hl 0 rfl) ?_
        refine g_get (C := RX6) (T := TX6) (N := 15) hx hb hts iwX6_readText_X6 hown hK hP 0 0 rfl rfl rfl 13 (Nat.le_of_ble_eq_true rfl) (hts _ kX6_readText_3) (fun _ h9 => h9) rfl dX6_readText_54 ?_
        obtain ⟨q10, hq10, hf⟩ := bd_some hf
        refine g_callVi S (As := [.int (Md_spot z)]) (gs' := [mdW G a0 z]) (c_X6_letter l G a0 z (Md_spot z) hq10) (cwV 1 hts gX6_readText_X6_letter rfl rfl rfl hd_X6_letter ⟨Nat.le_of_ble_eq_true rfl, Nat.le_of_ble_eq_true rfl⟩) hK hP hD hS hA (is := [0]) rfl rfl 0 rfl rfl rfl rfl hl.1 rfl (Nat.le_of_ble_eq_true rfl) dX6_readText_57 ⟨Nat.le_of_ble_eq_true rfl, Nat.le_of_ble_eq_true rfl⟩ rfl (fun H locs hP hD hS => ?_)
        refine lv_istore_n (lv' := [(1, .int q10.1), (0, .ref (a0 0))]) hx hb dX6_readText_60 rfl hl (by decide) rfl (fun ls hl => ?_)
        refine lv_iload_n hx hb dX6_readText_61 rfl (lv_at hl 0 rfl) ?_
        refine lv_bipush (v := (109:Int32)) hx hb dX6_readText_62 (by decide) ?_
        refine lv_icmp_ne (tgt := 74) hx hb dX6_readText_64 (by decide) (fun c11 => ?_) (fun c11 => ?_)
        · rw [if_neg c11] at hf
          refine lv_iload_n hx hb dX6_readText_74 rfl (lv_at hl 0 rfl) ?_
          refine lv_bipush (v := (103:Int32)) hx hb dX6_readText_75 (by decide) ?_
          refine lv_icmp_ne (tgt := 87) hx hb dX6_readText_77 (by decide) (fun c12 => ?_) (fun c12 => ?_)
          · rw [if_neg c12] at hf
            refine lv_iload_n hx hb dX6_readText_87 rfl (lv_at hl 0 rfl) ?_
            refine lv_bipush (v := (98:Int32)) hx hb dX6_readText_88 (by decide) ?_
            refine lv_icmp_ne (tgt := 100) hx hb dX6_readText_90 (by decide) (fun c13 => ?_) (fun c13 => ?_)
            · rw [if_neg c13] at hf
              refine lv_aload_n hx hb dX6_readText_100 rfl (lv_at hl 1 rfl) ?_
              refine lv_aload_n hx hb dX6_readText_101 rfl (lv_at hl 1 rfl) ?_
              refine g_get (C := RX6) (T := TX6) (N := 15) hx hb hts iwX6_readText_X6 hown hK hP 0 0 rfl rfl rfl 13 (Nat.le_of_ble_eq_true rfl) (hts _ kX6_readText_3) (fun _ h9 => h9) rfl dX6_readText_102 ?_
              obtain ⟨u14, eu14, hf⟩ := lt_some hf
              refine g_put (ty := .int) (C := RX6) (T := TX6) (N := 15) (gs' := [mdW G a0 u14]) hx hb hts iwX6_readText_X6 tyX6 tyX6_ok nmX6 hown hK hP hD hS 0 0 rfl rfl rfl 14 (Nat.le_of_ble_eq_true rfl) (hts _ kX6_readText_2) (fun _ h9 => h9) rfl (by decide +kernel) rfl rfl (Nat.le_of_ble_eq_true rfl) dX6_readText_105 (by rw [eu14]; rfl) (fun H locs hP hD hS => ?_)
              refine lv_goto (tgt := 32) hx hb dX6_readText_108 (by decide) ?_
              exact ih _ e1 (lz_l hf hz) H locs ls hP hD hS (lv_sub hl [1] rfl) K
            · rw [if_pos c13] at hf
              refine lv_aload_n hx hb dX6_readText_93 rfl (lv_at hl 1 rfl) ?_
              obtain ⟨q15, hq15, hf⟩ := bd_some hf
              refine g_callVv S (As := []) (gs' := [mdW G a0 q15.2]) (c_X6_readBid l G a0 z hq15) (cwV 0 hts gX6_readText_X6_readBid rfl rfl rfl hd_X6_readBid ⟨Nat.le_of_ble_eq_true rfl, Nat.le_of_ble_eq_true rfl⟩) hK hP hD hS hA (is := [0]) rfl rfl 0 rfl rfl rfl rfl hl.1 rfl (Nat.le_of_ble_eq_true rfl) dX6_readText_94 ⟨Nat.le_of_ble_eq_true rfl, Nat.le_of_ble_eq_true rfl⟩ rfl (fun H locs hP hD hS => ?_)
              refine lv_goto (tgt := 108) hx hb dX6_readText_97 (by decide) ?_
              refine lv_goto (tgt := 32) hx hb dX6_readText_108 (by decide) ?_
              exact ih _ e1 (lz_l hf hz) H locs ls hP hD hS (lv_sub hl [1] rfl) K
          · rw [if_pos c12] at hf
            refine lv_aload_n hx hb dX6_readText_80 rfl (lv_at hl 1 rfl) ?_
            obtain ⟨q16, hq16, hf⟩ := bd_some hf
            refine g_callVv S (As := []) (gs' := [mdW G a0 q16.2]) (c_X6_readGuarantor l G a0 z hq16) (cwV 0 hts gX6_readText_X6_readGuarantor rfl rfl rfl hd_X6_readGuarantor ⟨Nat.le_of_ble_eq_true rfl, Nat.le_of_ble_eq_true rfl⟩) hK hP hD hS hA (is := [0]) rfl rfl 0 rfl rfl rfl rfl hl.1 rfl (Nat.le_of_ble_eq_true rfl) dX6_readText_81 ⟨Nat.le_of_ble_eq_true rfl, Nat.le_of_ble_eq_true rfl⟩ rfl (fun H locs hP hD hS => ?_)
            refine lv_goto (tgt := 108) hx hb dX6_readText_84 (by decide) ?_
            refine lv_goto (tgt := 32) hx hb dX6_readText_108 (by decide) ?_
            exact ih _ e1 (lz_l hf hz) H locs ls hP hD hS (lv_sub hl [1] rfl) K
        · rw [if_pos c11] at hf
          refine lv_aload_n hx hb dX6_readText_67 rfl (lv_at hl 1 rfl) ?_
          obtain ⟨q17, hq17, hf⟩ := bd_some hf
          refine g_callVv S (As := []) (gs' := [mdW G a0 q17.2]) (c_X6_readMember l G a0 z hq17) (cwV 0 hts gX6_readText_X6_readMember rfl rfl rfl hd_X6_readMember ⟨Nat.le_of_ble_eq_true rfl, Nat.le_of_ble_eq_true rfl⟩) hK hP hD hS hA (is := [0]) rfl rfl 0 rfl rfl rfl rfl hl.1 rfl (Nat.le_of_ble_eq_true rfl) dX6_readText_68 ⟨Nat.le_of_ble_eq_true rfl, Nat.le_of_ble_eq_true rfl⟩ rfl (fun H locs hP hD hS => ?_)
          refine lv_goto (tgt := 108) hx hb dX6_readText_71 (by decide) ?_
          refine lv_goto (tgt := 32) hx hb dX6_readText_108 (by decide) ?_
          exact ih _ e1 (lz_l hf hz) H locs ls hP hD hS (lv_sub hl [1] rfl) K
set_option maxHeartbeats 4000000 in
set_option maxRecDepth 100000 in
theorem c_X6_readText (l : Launch) (G : uG) (a0 : Nat → Nat) (v0 : MdV) {q : Int32 × (MdV)} (hf : f_X6_readText v0 = some q) : mQ l yX6_readText wsX6_readText ({ frames := 4, cells := 0, slots := 0, locals := 89 } : Room) G [.ref (a0 0)] [mdW G a0 v0] [mdW G a0 q.2] (qI G [mdW G a0 q.2] q.1) := by
  unfold f_X6_readText at hf
  refine m_of (cc := cX6_readText) (maxL := 2) (ret := (some .int)) (by decide) rfl rfl (Nat.le_of_ble_eq_true rfl) ?_
  intro p e s m args below meth c A ls S hK hA hP hD hS hl
  obtain ⟨hx, hb, hml, hown, hts, hr, hlocks⟩ := id S
  have hl : lv_has ls 2 [(0, .ref (a0 0))] := hl
  refine lv_iconst (v := (0:Int32)) hx hb dX6_readText_0 (by decide) ?_
  refine lv_istore_n (lv' := [(1, .int (0:Int32)), (0, .ref (a0 0))]) hx hb dX6_readText_1 rfl hl (by decide) rfl (fun ls hl => ?_)
  obtain ⟨e5, he5, hf⟩ := bd_some hf
  refine w_X6_readText_2 (Q := _) S hK hA G a0 FU _ e5 he5 _ _ _ hP hD hS (lv_sub hl [1, 0] rfl) (fun H locs ls hP hD hS hl => ?_)
  refine lv_aload_n hx hb dX6_readText_22 rfl (lv_at hl 0 rfl) ?_
  refine lv_ldc (v := (-99999:Int32)) hx hb hown (hts _ kX6_readText_1) dX6_readText_23 ?_
  obtain ⟨u6, eu6, hf⟩ := lt_some hf
  refine g_put (ty := .int) (C := RX6) (T := TX6) (N := 15) (gs' := [mdW G a0 u6]) hx hb hts iwX6_readText_X6 tyX6 tyX6_ok nmX6 hown hK hP hD hS 0 0 rfl rfl rfl 14 (Nat.le_of_ble_eq_true rfl) (hts _ kX6_readText_2) (fun _ h9 => h9) rfl (by decide +kernel) rfl rfl (Nat.le_of_ble_eq_true rfl) dX6_readText_25 (by rw [eu6]; rfl) (fun H locs hP hD hS => ?_)
  refine lv_aload_n hx hb dX6_readText_28 rfl (lv_at hl 0 rfl) ?_
  obtain ⟨q7, hq7, hf⟩ := bd_some hf
  refine g_callVv S (As := []) (gs' := [mdW G a0 q7.2]) (c_X6_readContribution l G a0 u6 hq7) (cwV 0 hts gX6_readText_X6_readContribution rfl rfl rfl hd_X6_readContribution ⟨Nat.le_of_ble_eq_true rfl, Nat.le_of_ble_eq_true rfl⟩) hK hP hD hS hA (is := [0]) rfl rfl 0 rfl rfl rfl rfl hl.1 rfl (Nat.le_of_ble_eq_true rfl) dX6_readText_29 ⟨Nat.le_of_ble_eq_true rfl, Nat.le_of_ble_eq_true rfl⟩ rfl (fun H locs hP hD hS => ?_)
  obtain ⟨e18, he18, hf⟩ := bd_some hf
  refine w_X6_readText_32 (Q := _) S hK hA G a0 FU _ e18 he18 _ _ _ hP hD hS (lv_sub hl [0] rfl) (fun H locs ls hP hD hS hl => ?_)
  refine lv_aload_n hx hb dX6_readText_111 rfl (lv_at hl 0 rfl) ?_
  refine g_get (C := RX6) (T := TX6) (N := 15) hx hb hts iwX6_readText_X6 hown hK hP 0 0 rfl rfl rfl 14 (Nat.le_of_ble_eq_true rfl) (hts _ kX6_readText_2) (fun _ h9 => h9) rfl dX6_readText_112 ?_
  cases hf
  exact g_iret hx hb hr hlocks hP hS dX6_readText_115
theorem kX6_errorPosition_0 : Cond.fieldLink RX6 38 "SavingsCircleModel" "thrown" "I" ∈ wsX6_errorPosition := (List.mem_cons_of_mem _ (List.mem_append_left _ (List.mem_append_left _ (List.mem_of_getElem? (i := 0) rfl))))
theorem iwX6_errorPosition_X6 : ∀ w ∈ wsX60, w ∈ wsX6_errorPosition := fun w h => (List.mem_cons_of_mem _ (List.mem_append_right _ h))
set_option maxHeartbeats 4000000 in
set_option maxRecDepth 100000 in
theorem c_X6_errorPosition (l : Launch) (G : uG) (a0 : Nat → Nat) (v0 : MdV) {q : Int32 × (MdV)} (hf : f_X6_errorPosition v0 = some q) : mQ l yX6_errorPosition wsX6_errorPosition ({ frames := 5, cells := 0, slots := 0, locals := 110 } : Room) G [.ref (a0 0)] [mdW G a0 v0] [mdW G a0 q.2] (qI G [mdW G a0 q.2] q.1) := by
  unfold f_X6_errorPosition at hf
  refine m_of (cc := cX6_errorPosition) (maxL := 1) (ret := (some .int)) (by decide) rfl rfl (Nat.le_of_ble_eq_true rfl) ?_
  intro p e s m args below meth c A ls S hK hA hP hD hS hl
  obtain ⟨hx, hb, hml, hown, hts, hr, hlocks⟩ := id S
  have hl : lv_has ls 1 [(0, .ref (a0 0))] := hl
  refine lv_aload_n hx hb dX6_errorPosition_0 rfl (lv_at hl 0 rfl) ?_
  refine lv_iconst (v := (0:Int32)) hx hb dX6_errorPosition_1 (by decide) ?_
  obtain ⟨u1, eu1, hf⟩ := lt_some hf
  refine g_put (ty := .int) (C := RX6) (T := TX6) (N := 15) (gs' := [mdW G a0 u1]) hx hb hts iwX6_errorPosition_X6 tyX6 tyX6_ok nmX6 hown hK hP hD hS 0 0 rfl rfl rfl 0 (Nat.le_of_ble_eq_true rfl) (hts _ kX6_errorPosition_0) (fun _ h9 => h9) rfl (by decide +kernel) rfl rfl (Nat.le_of_ble_eq_true rfl) dX6_errorPosition_2 (by rw [eu1]; rfl) (fun H locs hP hD hS => ?_)
  refine lv_aload_n hx hb dX6_errorPosition_5 rfl (lv_at hl 0 rfl) ?_
  obtain ⟨q2, hq2, hf⟩ := bd_some hf
  refine g_callVi S (As := []) (gs' := [mdW G a0 q2.2]) (c_X6_readText l G a0 u1 hq2) (cwV 0 hts gX6_errorPosition_X6_readText rfl rfl rfl hd_X6_readText ⟨Nat.le_of_ble_eq_true rfl, Nat.le_of_ble_eq_true rfl⟩) hK hP hD hS hA (is := [0]) rfl rfl 0 rfl rfl rfl rfl hl.1 rfl (Nat.le_of_ble_eq_true rfl) dX6_errorPosition_6 ⟨Nat.le_of_ble_eq_true rfl, Nat.le_of_ble_eq_true rfl⟩ rfl (fun H locs hP hD hS => ?_)
  cases hf
  exact g_iret hx hb hr hlocks hP hS dX6_errorPosition_9
theorem kX6_load_0 : Cond.constant RX6 49 (-99999) ∈ wsX6_load := (List.mem_cons_of_mem _ (List.mem_append_left _ (List.mem_append_left _ (List.mem_of_getElem? (i := 0) rfl))))
theorem kX6_load_1 : Cond.fieldLink RX6 38 "SavingsCircleModel" "thrown" "I" ∈ wsX6_load := (List.mem_cons_of_mem _ (List.mem_append_left _ (List.mem_append_left _ (List.mem_of_getElem? (i := 1) rfl))))
theorem kX6_load_2 : Cond.fieldLink RX6 7 "SavingsCircleModel" "z" "[I" ∈ wsX6_load := (List.mem_cons_of_mem _ (List.mem_append_left _ (List.mem_append_left _ (List.mem_of_getElem? (i := 2) rfl))))
theorem kX6_load_3 : Cond.fieldLink RX6 35 "SavingsCircleModel" "read" "[I" ∈ wsX6_load := (List.mem_cons_of_mem _ (List.mem_append_left _ (List.mem_append_left _ (List.mem_of_getElem? (i := 3) rfl))))
theorem kX6_load_4 : Cond.fieldLink RX6 42 "SavingsCircleModel" "pastMany" "I" ∈ wsX6_load := (List.mem_cons_of_mem _ (List.mem_append_left _ (List.mem_append_left _ (List.mem_of_getElem? (i := 4) rfl))))
theorem kX6_load_5 : Cond.fieldLink RX6 19 "SavingsCircleModel" "isSaved" "[Z" ∈ wsX6_load := (List.mem_cons_of_mem _ (List.mem_append_left _ (List.mem_append_left _ (List.mem_of_getElem? (i := 5) rfl))))
theorem iwX6_load_X6 : ∀ w ∈ wsX60, w ∈ wsX6_load := fun w h => (List.mem_cons_of_mem _ (List.mem_append_right _ h))
set_option maxHeartbeats 4000000 in
set_option maxRecDepth 100000 in
theorem w_X6_load_29 {p : Program} {l : Launch} {e : Env} {s : State} {m : MethodId} {args : Array Value} {below : List Frame} {meth : Method} {c : Code} {A : Nat → Prop} {Q : State → Prop} (S : Ev p s m args meth c cX6_load 2 (some .int) yX6_load.cls wsX6_load) {G : uG} (hK : kK G s) (hA : ∀ q, s.heap.size ≤ q → A q) (_ : uG) (a0 : Nat → Nat) : ∀ (n : Nat) (z : (Int32 × MdV)) (e1 : (Int32 × MdV)), lp (b_X6_load_29) n z = some e1 → ∀ (H : Heap) (locs : List Loc) (ls : Array Slot), gP G [mdW G a0 z.2] H → gD A [mdW G a0 z.2] → va_S A s.heap H locs → lv_has ls 2 [(0, .ref (a0 0)), (1, .int z.1)] → (∀ (H : Heap) (locs : List Loc) (ls : Array Slot), gP G [mdW G a0 e1.2] H → gD A [mdW G a0 e1.2] → va_S A s.heap H locs → lv_has ls 2 [(0, .ref (a0 0)), (1, .int e1.1)] → W p l e ({ frames := 5, cells := 0, slots := 0, locals := 110 } : Room) s m args below meth c H locs 0 0 Q (F0 m 54 ls [])) → W p l e ({ frames := 5, cells := 0, slots := 0, locals := 110 } : Room) s m args below meth c H locs 0 0 Q (F0 m 29 ls []) := by
  obtain ⟨hx, hb, hml, hown, hts, hr, hlocks⟩ := id S
  intro n
  induction n with
  | zero => intro z e1 h; cases h
  | succ n ih =>
    intro z e1 hlp H locs ls hP hD hS hl K
    obtain ⟨z9, hf, hz⟩ := lp_s hlp
    unfold b_X6_load_29 at hf
    refine lv_iload_n hx hb dX6_load_29 rfl (lv_at hl 1 rfl) ?_
    refine lv_sipush (v := (157:Int32)) hx hb dX6_load_30 (by decide) ?_
    refine lv_icmp_ge (tgt := 54) hx hb dX6_load_33 (by decide) (fun c5 => ?_) (fun c5 => ?_)
    · rw [if_pos c5] at hf
      have he := lz_r hf hz
      subst he
      exact K H locs ls hP hD hS (lv_sub hl [0, 1] rfl)
    · rw [if_neg c5] at hf
      refine lv_aload_n hx hb dX6_load_36 rfl (lv_at hl 0 rfl) ?_
      refine g_get (C := RX6) (T := TX6) (N := 15) hx hb hts iwX6_load_X6 hown hK hP 0 0 rfl rfl rfl 1 (Nat.le_of_ble_eq_true rfl) (hts _ kX6_load_2) (fun _ h9 => h9) rfl dX6_load_37 ?_
      refine lv_iload_n hx hb dX6_load_40 rfl (lv_at hl 1 rfl) ?_
      refine lv_aload_n hx hb dX6_load_41 rfl (lv_at hl 0 rfl) ?_
      refine g_get (C := RX6) (T := TX6) (N := 15) hx hb hts iwX6_load_X6 hown hK hP 0 0 rfl rfl rfl 12 (Nat.le_of_ble_eq_true rfl) (hts _ kX6_load_3) (fun _ h9 => h9) rfl dX6_load_42 ?_
      refine lv_iload_n hx hb dX6_load_45 rfl (lv_at hl 1 rfl) ?_
      obtain ⟨h6, hf⟩ := gi_some hf
      refine g_iald hx hb hK hP 0 9 0 rfl rfl rfl h6 dX6_load_46 ?_
      obtain ⟨h7, hf⟩ := gi_some hf
      obtain ⟨u8, eu8, hf⟩ := lt_some hf
      refine g_iast (gs' := [mdW G a0 u8]) hx hb hK hP hD hS 0 1 0 rfl rfl rfl h7 dX6_load_47 (by rw [eu8]; rfl) (fun H locs hP hD hS => ?_)
      obtain ⟨x9, ex9, hf⟩ := lt_some hf
      refine lv_iinc (v := x9) (lv' := [(1, .int x9), (0, .ref (a0 0))]) hx hb dX6_load_48 hl (k := 1) rfl (by rw [ex9]; rfl) (by decide) rfl (fun ls hl => ?_)
      refine lv_goto (tgt := 29) hx hb dX6_load_51 (by decide) ?_
      exact ih _ e1 (lz_l hf hz) H locs ls hP hD hS (lv_sub hl [1, 0] rfl) K
set_option maxHeartbeats 4000000 in
set_option maxRecDepth 100000 in
theorem c_X6_load (l : Launch) (G : uG) (a0 : Nat → Nat) (v0 : MdV) {q : Int32 × (MdV)} (hf : f_X6_load v0 = some q) : mQ l yX6_load wsX6_load ({ frames := 5, cells := 0, slots := 0, locals := 110 } : Room) G [.ref (a0 0)] [mdW G a0 v0] [mdW G a0 q.2] (qI G [mdW G a0 q.2] q.1) := by
  unfold f_X6_load at hf
  refine m_of (cc := cX6_load) (maxL := 2) (ret := (some .int)) (by decide) rfl rfl (Nat.le_of_ble_eq_true rfl) ?_
  intro p e s m args below meth c A ls S hK hA hP hD hS hl
  obtain ⟨hx, hb, hml, hown, hts, hr, hlocks⟩ := id S
  have hl : lv_has ls 2 [(0, .ref (a0 0))] := hl
  refine lv_aload_n hx hb dX6_load_0 rfl (lv_at hl 0 rfl) ?_
  refine lv_aload_n hx hb dX6_load_1 rfl (lv_at hl 0 rfl) ?_
  obtain ⟨q1, hq1, hf⟩ := bd_some hf
  refine g_callVi S (As := []) (gs' := [mdW G a0 q1.2]) (c_X6_readText l G a0 v0 hq1) (cwV 0 hts gX6_load_X6_readText rfl rfl rfl hd_X6_readText ⟨Nat.le_of_ble_eq_true rfl, Nat.le_of_ble_eq_true rfl⟩) hK hP hD hS hA (is := [0]) rfl rfl 0 rfl rfl rfl rfl hl.1 rfl (Nat.le_of_ble_eq_true rfl) dX6_load_2 ⟨Nat.le_of_ble_eq_true rfl, Nat.le_of_ble_eq_true rfl⟩ rfl (fun H locs hP hD hS => ?_)
  refine lv_ldc (v := (-99999:Int32)) hx hb hown (hts _ kX6_load_0) dX6_load_5 ?_
  refine lv_icmp_ne (tgt := 14) hx hb dX6_load_7 (by decide) (fun c2 => ?_) (fun c2 => ?_)
  · rw [if_neg c2] at hf
    refine lv_iconst (v := (1:Int32)) hx hb dX6_load_14 (by decide) ?_
    obtain ⟨u3, eu3, hf⟩ := lt_some hf
    refine g_put (ty := .int) (C := RX6) (T := TX6) (N := 15) (gs' := [mdW G a0 u3]) hx hb hts iwX6_load_X6 tyX6 tyX6_ok nmX6 hown hK hP hD hS 0 0 rfl rfl rfl 0 (Nat.le_of_ble_eq_true rfl) (hts _ kX6_load_1) (fun _ h9 => h9) rfl (by decide +kernel) rfl rfl (Nat.le_of_ble_eq_true rfl) dX6_load_15 (by rw [eu3]; rfl) (fun H locs hP hD hS => ?_)
    refine lv_aload_n hx hb dX6_load_18 rfl (lv_at hl 0 rfl) ?_
    refine g_get (C := RX6) (T := TX6) (N := 15) hx hb hts iwX6_load_X6 hown hK hP 0 0 rfl rfl rfl 0 (Nat.le_of_ble_eq_true rfl) (hts _ kX6_load_1) (fun _ h9 => h9) rfl dX6_load_19 ?_
    refine lv_if_le (tgt := 27) hx hb dX6_load_22 (by decide) (fun c4 => ?_) (fun c4 => ?_)
    · rw [if_pos c4] at hf
      refine lv_iconst (v := (0:Int32)) hx hb dX6_load_27 (by decide) ?_
      refine lv_istore_n (lv' := [(1, .int (0:Int32)), (0, .ref (a0 0))]) hx hb dX6_load_28 rfl hl (by decide) rfl (fun ls hl => ?_)
      obtain ⟨e10, he10, hf⟩ := bd_some hf
      refine w_X6_load_29 (Q := _) S hK hA G a0 FU _ e10 he10 _ _ _ hP hD hS (lv_sub hl [1, 0] rfl) (fun H locs ls hP hD hS hl => ?_)
      refine lv_aload_n hx hb dX6_load_54 rfl (lv_at hl 0 rfl) ?_
      refine lv_iconst (v := (0:Int32)) hx hb dX6_load_55 (by decide) ?_
      obtain ⟨u11, eu11, hf⟩ := lt_some hf
      refine g_put (ty := .int) (C := RX6) (T := TX6) (N := 15) (gs' := [mdW G a0 u11]) hx hb hts iwX6_load_X6 tyX6 tyX6_ok nmX6 hown hK hP hD hS 0 0 rfl rfl rfl 3 (Nat.le_of_ble_eq_true rfl) (hts _ kX6_load_4) (fun _ h9 => h9) rfl (by decide +kernel) rfl rfl (Nat.le_of_ble_eq_true rfl) dX6_load_56 (by rw [eu11]; rfl) (fun H locs hP hD hS => ?_)
      refine lv_aload_n hx hb dX6_load_59 rfl (lv_at hl 0 rfl) ?_
      refine g_get (C := RX6) (T := TX6) (N := 15) hx hb hts iwX6_load_X6 hown hK hP 0 0 rfl rfl rfl 5 (Nat.le_of_ble_eq_true rfl) (hts _ kX6_load_5) (fun _ h9 => h9) rfl dX6_load_60 ?_
      refine lv_iconst (v := (0:Int32)) hx hb dX6_load_63 (by decide) ?_
      refine lv_iconst (v := (0:Int32)) hx hb dX6_load_64 (by decide) ?_
      obtain ⟨h12, hf⟩ := gi_some hf
      obtain ⟨u13, eu13, hf⟩ := lt_some hf
      refine g_zast (gs' := [mdW G a0 u13]) hx hb hK hP hD hS 0 4 1 rfl rfl rfl h12 dX6_load_65 (by rw [eu13]; rfl) (fun H locs hP hD hS => ?_)
      refine lv_aload_n hx hb dX6_load_66 rfl (lv_at hl 0 rfl) ?_
      refine g_get (C := RX6) (T := TX6) (N := 15) hx hb hts iwX6_load_X6 hown hK hP 0 0 rfl rfl rfl 5 (Nat.le_of_ble_eq_true rfl) (hts _ kX6_load_5) (fun _ h9 => h9) rfl dX6_load_67 ?_
      refine lv_iconst (v := (1:Int32)) hx hb dX6_load_70 (by decide) ?_
      refine lv_iconst (v := (0:Int32)) hx hb dX6_load_71 (by decide) ?_
      obtain ⟨h14, hf⟩ := gi_some hf
      obtain ⟨u15, eu15, hf⟩ := lt_some hf
      refine g_zast (gs' := [mdW G a0 u15]) hx hb hK hP hD hS 0 4 1 rfl rfl rfl h14 dX6_load_72 (by rw [eu15]; rfl) (fun H locs hP hD hS => ?_)
      refine lv_aload_n hx hb dX6_load_73 rfl (lv_at hl 0 rfl) ?_
      refine g_get (C := RX6) (T := TX6) (N := 15) hx hb hts iwX6_load_X6 hown hK hP 0 0 rfl rfl rfl 1 (Nat.le_of_ble_eq_true rfl) (hts _ kX6_load_2) (fun _ h9 => h9) rfl dX6_load_74 ?_
      refine lv_iconst (v := (0:Int32)) hx hb dX6_load_77 (by decide) ?_
      obtain ⟨h16, hf⟩ := gi_some hf
      refine g_iald hx hb hK hP 0 1 0 rfl rfl rfl h16 dX6_load_78 ?_
      cases hf
      exact g_iret hx hb hr hlocks hP hS dX6_load_79
    · rw [if_neg c4] at hf
      refine lv_iconst (v := (0:Int32)) hx hb dX6_load_25 (by decide) ?_
      cases hf
      exact g_iret hx hb hr hlocks hP hS dX6_load_26
  · rw [if_pos c2] at hf
    refine lv_iconst (v := (0:Int32)) hx hb dX6_load_10 (by decide) ?_
    refine lv_goto (tgt := 15) hx hb dX6_load_11 (by decide) ?_
    obtain ⟨u17, eu17, hf⟩ := lt_some hf
    refine g_put (ty := .int) (C := RX6) (T := TX6) (N := 15) (gs' := [mdW G a0 u17]) hx hb hts iwX6_load_X6 tyX6 tyX6_ok nmX6 hown hK hP hD hS 0 0 rfl rfl rfl 0 (Nat.le_of_ble_eq_true rfl) (hts _ kX6_load_1) (fun _ h9 => h9) rfl (by decide +kernel) rfl rfl (Nat.le_of_ble_eq_true rfl) dX6_load_15 (by rw [eu17]; rfl) (fun H locs hP hD hS => ?_)
    refine lv_aload_n hx hb dX6_load_18 rfl (lv_at hl 0 rfl) ?_
    refine g_get (C := RX6) (T := TX6) (N := 15) hx hb hts iwX6_load_X6 hown hK hP 0 0 rfl rfl rfl 0 (Nat.le_of_ble_eq_true rfl) (hts _ kX6_load_1) (fun _ h9 => h9) rfl dX6_load_19 ?_
    refine lv_if_le (tgt := 27) hx hb dX6_load_22 (by decide) (fun c18 => ?_) (fun c18 => ?_)
    · rw [if_pos c18] at hf
      refine lv_iconst (v := (0:Int32)) hx hb dX6_load_27 (by decide) ?_
      refine lv_istore_n (lv' := [(1, .int (0:Int32)), (0, .ref (a0 0))]) hx hb dX6_load_28 rfl hl (by decide) rfl (fun ls hl => ?_)
      obtain ⟨e19, he19, hf⟩ := bd_some hf
      refine w_X6_load_29 (Q := _) S hK hA G a0 FU _ e19 he19 _ _ _ hP hD hS (lv_sub hl [1, 0] rfl) (fun H locs ls hP hD hS hl => ?_)
      refine lv_aload_n hx hb dX6_load_54 rfl (lv_at hl 0 rfl) ?_
      refine lv_iconst (v := (0:Int32)) hx hb dX6_load_55 (by decide) ?_
      obtain ⟨u20, eu20, hf⟩ := lt_some hf
      refine g_put (ty := .int) (C := RX6) (T := TX6) (N := 15) (gs' := [mdW G a0 u20]) hx hb hts iwX6_load_X6 tyX6 tyX6_ok nmX6 hown hK hP hD hS 0 0 rfl rfl rfl 3 (Nat.le_of_ble_eq_true rfl) (hts _ kX6_load_4) (fun _ h9 => h9) rfl (by decide +kernel) rfl rfl (Nat.le_of_ble_eq_true rfl) dX6_load_56 (by rw [eu20]; rfl) (fun H locs hP hD hS => ?_)
      refine lv_aload_n hx hb dX6_load_59 rfl (lv_at hl 0 rfl) ?_
      refine g_get (C := RX6) (T := TX6) (N := 15) hx hb hts iwX6_load_X6 hown hK hP 0 0 rfl rfl rfl 5 (Nat.le_of_ble_eq_true rfl) (hts _ kX6_load_5) (fun _ h9 => h9) rfl dX6_load_60 ?_
      refine lv_iconst (v := (0:Int32)) hx hb dX6_load_63 (by decide) ?_
      refine lv_iconst (v := (0:Int32)) hx hb dX6_load_64 (by decide) ?_
      obtain ⟨h21, hf⟩ := gi_some hf
      obtain ⟨u22, eu22, hf⟩ := lt_some hf
      refine g_zast (gs' := [mdW G a0 u22]) hx hb hK hP hD hS 0 4 1 rfl rfl rfl h21 dX6_load_65 (by rw [eu22]; rfl) (fun H locs hP hD hS => ?_)
      refine lv_aload_n hx hb dX6_load_66 rfl (lv_at hl 0 rfl) ?_
      refine g_get (C := RX6) (T := TX6) (N := 15) hx hb hts iwX6_load_X6 hown hK hP 0 0 rfl rfl rfl 5 (Nat.le_of_ble_eq_true rfl) (hts _ kX6_load_5) (fun _ h9 => h9) rfl dX6_load_67 ?_
      refine lv_iconst (v := (1:Int32)) hx hb dX6_load_70 (by decide) ?_
      refine lv_iconst (v := (0:Int32)) hx hb dX6_load_71 (by decide) ?_
      obtain ⟨h23, hf⟩ := gi_some hf
      obtain ⟨u24, eu24, hf⟩ := lt_some hf
      refine g_zast (gs' := [mdW G a0 u24]) hx hb hK hP hD hS 0 4 1 rfl rfl rfl h23 dX6_load_72 (by rw [eu24]; rfl) (fun H locs hP hD hS => ?_)
      refine lv_aload_n hx hb dX6_load_73 rfl (lv_at hl 0 rfl) ?_
      refine g_get (C := RX6) (T := TX6) (N := 15) hx hb hts iwX6_load_X6 hown hK hP 0 0 rfl rfl rfl 1 (Nat.le_of_ble_eq_true rfl) (hts _ kX6_load_2) (fun _ h9 => h9) rfl dX6_load_74 ?_
      refine lv_iconst (v := (0:Int32)) hx hb dX6_load_77 (by decide) ?_
      obtain ⟨h25, hf⟩ := gi_some hf
      refine g_iald hx hb hK hP 0 1 0 rfl rfl rfl h25 dX6_load_78 ?_
      cases hf
      exact g_iret hx hb hr hlocks hP hS dX6_load_79
    · rw [if_neg c18] at hf
      refine lv_iconst (v := (0:Int32)) hx hb dX6_load_25 (by decide) ?_
      cases hf
      exact g_iret hx hb hr hlocks hP hS dX6_load_26
theorem kX6_sumOf_0 : Cond.fieldLink RX6 7 "SavingsCircleModel" "z" "[I" ∈ wsX6_sumOf := (List.mem_cons_of_mem _ (List.mem_append_left _ (List.mem_of_getElem? (i := 0) rfl)))
theorem iwX6_sumOf_X6 : ∀ w ∈ wsX60, w ∈ wsX6_sumOf := fun w h => (List.mem_cons_of_mem _ (List.mem_append_right _ h))
set_option maxHeartbeats 4000000 in
set_option maxRecDepth 100000 in
theorem w_X6_sumOf_5 {p : Program} {l : Launch} {e : Env} {s : State} {m : MethodId} {args : Array Value} {below : List Frame} {meth : Method} {c : Code} {A : Nat → Prop} {Q : State → Prop} (S : Ev p s m args meth c cX6_sumOf 5 (some .int) yX6_sumOf.cls wsX6_sumOf) {G : uG} (hK : kK G s) (hA : ∀ q, s.heap.size ≤ q → A q) (_ : uG) (a0 : Nat → Nat) (v0 : MdV) (p1 : Int32) (p2 : Int32) : ∀ (n : Nat) (z : (Int32 × Int32)) (e1 : (Int32 × Int32)), lp (b_X6_sumOf_5 v0 p1 p2) n z = some e1 → ∀ (H : Heap) (locs : List Loc) (ls : Array Slot), gP G [mdW G a0 v0] H → gD A [mdW G a0 v0] → va_S A s.heap H locs → lv_has ls 5 [(0, .ref (a0 0)), (1, .int p1), (2, .int p2), (3, .int z.1), (4, .int z.2)] → (∀ (H : Heap) (locs : List Loc) (ls : Array Slot), gP G [mdW G a0 v0] H → gD A [mdW G a0 v0] → va_S A s.heap H locs → lv_has ls 5 [(0, .ref (a0 0)), (1, .int p1), (2, .int p2), (3, .int e1.1), (4, .int e1.2)] → W p l e ({ frames := 0, cells := 0, slots := 0, locals := 0 } : Room) s m args below meth c H locs 0 0 Q (F0 m 29 ls [])) → W p l e ({ frames := 0, cells := 0, slots := 0, locals := 0 } : Room) s m args below meth c H locs 0 0 Q (F0 m 5 ls []) := by
  obtain ⟨hx, hb, hml, hown, hts, hr, hlocks⟩ := id S
  intro n
  induction n with
  | zero => intro z e1 h; cases h
  | succ n ih =>
    intro z e1 hlp H locs ls hP hD hS hl K
    obtain ⟨z9, hf, hz⟩ := lp_s hlp
    unfold b_X6_sumOf_5 at hf
    refine lv_iload hx hb dX6_sumOf_5 (lv_at hl 4 rfl) ?_
    refine lv_iload_n hx hb dX6_sumOf_7 rfl (lv_at hl 2 rfl) ?_
    refine lv_icmp_ge (tgt := 29) hx hb dX6_sumOf_8 (by decide) (fun c1 => ?_) (fun c1 => ?_)
    · rw [if_pos c1] at hf
      have he := lz_r hf hz
      subst he
      exact K H locs ls hP hD hS (lv_sub hl [0, 1, 2, 3, 4] rfl)
    · rw [if_neg c1] at hf
      refine lv_iload_n hx hb dX6_sumOf_11 rfl (lv_at hl 3 rfl) ?_
      refine lv_aload_n hx hb dX6_sumOf_12 rfl (lv_at hl 0 rfl) ?_
      refine g_get (C := RX6) (T := TX6) (N := 15) hx hb hts iwX6_sumOf_X6 hown hK hP 0 0 rfl rfl rfl 1 (Nat.le_of_ble_eq_true rfl) (hts _ kX6_sumOf_0) (fun _ h9 => h9) rfl dX6_sumOf_13 ?_
      refine lv_iload_n hx hb dX6_sumOf_16 rfl (lv_at hl 1 rfl) ?_
      refine lv_iload hx hb dX6_sumOf_17 (lv_at hl 4 rfl) ?_
      refine lv_iadd hx hb dX6_sumOf_19 ?_
      obtain ⟨h2, hf⟩ := gi_some hf
      refine g_iald hx hb hK hP 0 1 0 rfl rfl rfl h2 dX6_sumOf_20 ?_
      refine lv_iadd hx hb dX6_sumOf_21 ?_
      obtain ⟨x3, ex3, hf⟩ := lt_some hf
      refine lv_nmi ex3 ?_
      refine lv_istore_n (lv' := [(3, .int x3), (0, .ref (a0 0)), (1, .int p1), (2, .int p2), (4, .int z.2)]) hx hb dX6_sumOf_22 rfl hl (by decide) rfl (fun ls hl => ?_)
      obtain ⟨x4, ex4, hf⟩ := lt_some hf
      refine lv_iinc (v := x4) (lv' := [(4, .int x4), (3, .int x3), (0, .ref (a0 0)), (1, .int p1), (2, .int p2)]) hx hb dX6_sumOf_23 hl (k := 4) rfl (by rw [ex4]; rfl) (by decide) rfl (fun ls hl => ?_)
      refine lv_goto (tgt := 5) hx hb dX6_sumOf_26 (by decide) ?_
      exact ih _ e1 (lz_l hf hz) H locs ls hP hD hS (lv_sub hl [2, 3, 4, 1, 0] rfl) K
set_option maxHeartbeats 4000000 in
set_option maxRecDepth 100000 in
theorem c_X6_sumOf (l : Launch) (G : uG) (a0 : Nat → Nat) (v0 : MdV) (i1 : Int32) (i2 : Int32) {q : Int32 × (Unit)} (hf : f_X6_sumOf v0 i1 i2 = some q) : mQ l yX6_sumOf wsX6_sumOf ({ frames := 0, cells := 0, slots := 0, locals := 0 } : Room) G [.ref (a0 0), .int i1, .int i2] [mdW G a0 v0] [mdW G a0 v0] (qI G [mdW G a0 v0] q.1) := by
  unfold f_X6_sumOf at hf
  refine m_of (cc := cX6_sumOf) (maxL := 5) (ret := (some .int)) (by decide) rfl rfl (Nat.le_of_ble_eq_true rfl) ?_
  intro p e s m args below meth c A ls S hK hA hP hD hS hl
  obtain ⟨hx, hb, hml, hown, hts, hr, hlocks⟩ := id S
  have hl : lv_has ls 5 [(0, .ref (a0 0)), (1, .int i1), (2, .int i2)] := hl
  refine lv_iconst (v := (0:Int32)) hx hb dX6_sumOf_0 (by decide) ?_
  refine lv_istore_n (lv' := [(3, .int (0:Int32)), (0, .ref (a0 0)), (1, .int i1), (2, .int i2)]) hx hb dX6_sumOf_1 rfl hl (by decide) rfl (fun ls hl => ?_)
  refine lv_iconst (v := (0:Int32)) hx hb dX6_sumOf_2 (by decide) ?_
  refine lv_istore (lv' := [(4, .int (0:Int32)), (3, .int (0:Int32)), (0, .ref (a0 0)), (1, .int i1), (2, .int i2)]) hx hb dX6_sumOf_3 hl (by decide) rfl (fun ls hl => ?_)
  obtain ⟨e5, he5, hf⟩ := bd_some hf
  refine w_X6_sumOf_5 (Q := _) S hK hA G a0 v0 i1 i2 FU _ e5 he5 _ _ _ hP hD hS (lv_sub hl [2, 3, 4, 1, 0] rfl) (fun H locs ls hP hD hS hl => ?_)
  refine lv_iload_n hx hb dX6_sumOf_29 rfl (lv_at hl 3 rfl) ?_
  cases hf
  exact g_iret hx hb hr hlocks hP hS dX6_sumOf_30
theorem kX6_waiting_0 : Cond.fieldLink RX6 7 "SavingsCircleModel" "z" "[I" ∈ wsX6_waiting := (List.mem_cons_of_mem _ (List.mem_append_left _ (List.mem_of_getElem? (i := 0) rfl)))
theorem iwX6_waiting_X6 : ∀ w ∈ wsX60, w ∈ wsX6_waiting := fun w h => (List.mem_cons_of_mem _ (List.mem_append_right _ h))
set_option maxHeartbeats 4000000 in
set_option maxRecDepth 100000 in
theorem w_X6_waiting_4 {p : Program} {l : Launch} {e : Env} {s : State} {m : MethodId} {args : Array Value} {below : List Frame} {meth : Method} {c : Code} {A : Nat → Prop} {Q : State → Prop} (S : Ev p s m args meth c cX6_waiting 3 (some .int) yX6_waiting.cls wsX6_waiting) {G : uG} (hK : kK G s) (hA : ∀ q, s.heap.size ≤ q → A q) (_ : uG) (a0 : Nat → Nat) (v0 : MdV) : ∀ (n : Nat) (z : (Int32 × Int32)) (e1 : (Int32 × Int32)), lp (b_X6_waiting_4 v0) n z = some e1 → ∀ (H : Heap) (locs : List Loc) (ls : Array Slot), gP G [mdW G a0 v0] H → gD A [mdW G a0 v0] → va_S A s.heap H locs → lv_has ls 3 [(0, .ref (a0 0)), (1, .int z.1), (2, .int z.2)] → (∀ (H : Heap) (locs : List Loc) (ls : Array Slot), gP G [mdW G a0 v0] H → gD A [mdW G a0 v0] → va_S A s.heap H locs → lv_has ls 3 [(0, .ref (a0 0)), (1, .int e1.1), (2, .int e1.2)] → W p l e ({ frames := 0, cells := 0, slots := 0, locals := 0 } : Room) s m args below meth c H locs 0 0 Q (F0 m 53 ls [])) → W p l e ({ frames := 0, cells := 0, slots := 0, locals := 0 } : Room) s m args below meth c H locs 0 0 Q (F0 m 4 ls []) := by
  obtain ⟨hx, hb, hml, hown, hts, hr, hlocks⟩ := id S
  intro n
  induction n with
  | zero => intro z e1 h; cases h
  | succ n ih =>
    intro z e1 hlp H locs ls hP hD hS hl K
    obtain ⟨z9, hf, hz⟩ := lp_s hlp
    unfold b_X6_waiting_4 at hf
    refine lv_iload_n hx hb dX6_waiting_4 rfl (lv_at hl 2 rfl) ?_
    refine lv_aload_n hx hb dX6_waiting_5 rfl (lv_at hl 0 rfl) ?_
    refine g_get (C := RX6) (T := TX6) (N := 15) hx hb hts iwX6_waiting_X6 hown hK hP 0 0 rfl rfl rfl 1 (Nat.le_of_ble_eq_true rfl) (hts _ kX6_waiting_0) (fun _ h9 => h9) rfl dX6_waiting_6 ?_
    refine lv_iconst (v := (0:Int32)) hx hb dX6_waiting_9 (by decide) ?_
    obtain ⟨h1, hf⟩ := gi_some hf
    refine g_iald hx hb hK hP 0 1 0 rfl rfl rfl h1 dX6_waiting_10 ?_
    refine lv_icmp_ge (tgt := 53) hx hb dX6_waiting_11 (by decide) (fun c2 => ?_) (fun c2 => ?_)
    · rw [if_pos c2] at hf
      have he := lz_r hf hz
      subst he
      exact K H locs ls hP hD hS (lv_sub hl [0, 1, 2] rfl)
    · rw [if_neg c2] at hf
      refine lv_iload_n hx hb dX6_waiting_14 rfl (lv_at hl 1 rfl) ?_
      refine lv_aload_n hx hb dX6_waiting_15 rfl (lv_at hl 0 rfl) ?_
      refine g_get (C := RX6) (T := TX6) (N := 15) hx hb hts iwX6_waiting_X6 hown hK hP 0 0 rfl rfl rfl 1 (Nat.le_of_ble_eq_true rfl) (hts _ kX6_waiting_0) (fun _ h9 => h9) rfl dX6_waiting_16 ?_
      refine lv_bipush (v := (45:Int32)) hx hb dX6_waiting_19 (by decide) ?_
      refine lv_iload_n hx hb dX6_waiting_21 rfl (lv_at hl 2 rfl) ?_
      refine lv_iadd hx hb dX6_waiting_22 ?_
      obtain ⟨h3, hf⟩ := gi_some hf
      refine g_iald hx hb hK hP 0 1 0 rfl rfl rfl h3 dX6_waiting_23 ?_
      refine lv_iconst (v := (1:Int32)) hx hb dX6_waiting_24 (by decide) ?_
      refine lv_icmp_ne (tgt := 44) hx hb dX6_waiting_25 (by decide) (fun c4 => ?_) (fun c4 => ?_)
      · rw [if_neg c4] at hf
        refine lv_iconst (v := (0:Int32)) hx hb dX6_waiting_44 (by decide) ?_
        refine lv_iadd hx hb dX6_waiting_45 ?_
        obtain ⟨x5, ex5, hf⟩ := lt_some hf
        refine lv_nmi ex5 ?_
        refine lv_istore_n (lv' := [(1, .int x5), (0, .ref (a0 0)), (2, .int z.2)]) hx hb dX6_waiting_46 rfl hl (by decide) rfl (fun ls hl => ?_)
        obtain ⟨x6, ex6, hf⟩ := lt_some hf
        refine lv_iinc (v := x6) (lv' := [(2, .int x6), (1, .int x5), (0, .ref (a0 0))]) hx hb dX6_waiting_47 hl (k := 2) rfl (by rw [ex6]; rfl) (by decide) rfl (fun ls hl => ?_)
        refine lv_goto (tgt := 4) hx hb dX6_waiting_50 (by decide) ?_
        exact ih _ e1 (lz_l hf hz) H locs ls hP hD hS (lv_sub hl [2, 1, 0] rfl) K
      · rw [if_pos c4] at hf
        refine lv_aload_n hx hb dX6_waiting_28 rfl (lv_at hl 0 rfl) ?_
        refine g_get (C := RX6) (T := TX6) (N := 15) hx hb hts iwX6_waiting_X6 hown hK hP 0 0 rfl rfl rfl 1 (Nat.le_of_ble_eq_true rfl) (hts _ kX6_waiting_0) (fun _ h9 => h9) rfl dX6_waiting_29 ?_
        refine lv_bipush (v := (37:Int32)) hx hb dX6_waiting_32 (by decide) ?_
        refine lv_iload_n hx hb dX6_waiting_34 rfl (lv_at hl 2 rfl) ?_
        refine lv_iadd hx hb dX6_waiting_35 ?_
        obtain ⟨h7, hf⟩ := gi_some hf
        refine g_iald hx hb hK hP 0 1 0 rfl rfl rfl h7 dX6_waiting_36 ?_
        refine lv_if_ne (tgt := 44) hx hb dX6_waiting_37 (by decide) (fun c8 => ?_) (fun c8 => ?_)
        · rw [if_neg c8] at hf
          refine lv_iconst (v := (0:Int32)) hx hb dX6_waiting_44 (by decide) ?_
          refine lv_iadd hx hb dX6_waiting_45 ?_
          obtain ⟨x9, ex9, hf⟩ := lt_some hf
          refine lv_nmi ex9 ?_
          refine lv_istore_n (lv' := [(1, .int x9), (0, .ref (a0 0)), (2, .int z.2)]) hx hb dX6_waiting_46 rfl hl (by decide) rfl (fun ls hl => ?_)
          obtain ⟨x10, ex10, hf⟩ := lt_some hf
          refine lv_iinc (v := x10) (lv' := [(2, .int x10), (1, .int x9), (0, .ref (a0 0))]) hx hb dX6_waiting_47 hl (k := 2) rfl (by rw [ex10]; rfl) (by decide) rfl (fun ls hl => ?_)
          refine lv_goto (tgt := 4) hx hb dX6_waiting_50 (by decide) ?_
          exact ih _ e1 (lz_l hf hz) H locs ls hP hD hS (lv_sub hl [2, 1, 0] rfl) K
        · rw [if_pos c8] at hf
          refine lv_iconst (v := (1:Int32)) hx hb dX6_waiting_40 (by decide) ?_
          refine lv_goto (tgt := 45) hx hb dX6_waiting_41 (by decide) ?_
          refine lv_iadd hx hb dX6_waiting_45 ?_
          obtain ⟨x11, ex11, hf⟩ := lt_some hf
          refine lv_nmi ex11 ?_
          refine lv_istore_n (lv' := [(1, .int x11), (0, .ref (a0 0)), (2, .int z.2)]) hx hb dX6_waiting_46 rfl hl (by decide) rfl (fun ls hl => ?_)
          obtain ⟨x12, ex12, hf⟩ := lt_some hf
          refine lv_iinc (v := x12) (lv' := [(2, .int x12), (1, .int x11), (0, .ref (a0 0))]) hx hb dX6_waiting_47 hl (k := 2) rfl (by rw [ex12]; rfl) (by decide) rfl (fun ls hl => ?_)
          refine lv_goto (tgt := 4) hx hb dX6_waiting_50 (by decide) ?_
          exact ih _ e1 (lz_l hf hz) H locs ls hP hD hS (lv_sub hl [2, 1, 0] rfl) K
set_option maxHeartbeats 4000000 in
set_option maxRecDepth 100000 in
theorem c_X6_waiting (l : Launch) (G : uG) (a0 : Nat → Nat) (v0 : MdV) {q : Int32 × (Unit)} (hf : f_X6_waiting v0 = some q) : mQ l yX6_waiting wsX6_waiting ({ frames := 0, cells := 0, slots := 0, locals := 0 } : Room) G [.ref (a0 0)] [mdW G a0 v0] [mdW G a0 v0] (qI G [mdW G a0 v0] q.1) := by
  unfold f_X6_waiting at hf
  refine m_of (cc := cX6_waiting) (maxL := 3) (ret := (some .int)) (by decide) rfl rfl (Nat.le_of_ble_eq_true rfl) ?_
  intro p e s m args below meth c A ls S hK hA hP hD hS hl
  obtain ⟨hx, hb, hml, hown, hts, hr, hlocks⟩ := id S
  have hl : lv_has ls 3 [(0, .ref (a0 0))] := hl
  refine lv_iconst (v := (0:Int32)) hx hb dX6_waiting_0 (by decide) ?_
  refine lv_istore_n (lv' := [(1, .int (0:Int32)), (0, .ref (a0 0))]) hx hb dX6_waiting_1 rfl hl (by decide) rfl (fun ls hl => ?_)
  refine lv_iconst (v := (0:Int32)) hx hb dX6_waiting_2 (by decide) ?_
  refine lv_istore_n (lv' := [(2, .int (0:Int32)), (1, .int (0:Int32)), (0, .ref (a0 0))]) hx hb dX6_waiting_3 rfl hl (by decide) rfl (fun ls hl => ?_)
  obtain ⟨e13, he13, hf⟩ := bd_some hf
  refine w_X6_waiting_4 (Q := _) S hK hA G a0 v0 FU _ e13 he13 _ _ _ hP hD hS (lv_sub hl [2, 1, 0] rfl) (fun H locs ls hP hD hS hl => ?_)
  refine lv_iload_n hx hb dX6_waiting_53 rfl (lv_at hl 1 rfl) ?_
  cases hf
  exact g_iret hx hb hr hlocks hP hS dX6_waiting_54
theorem kX6_about_0 : Cond.fieldLink RX6 38 "SavingsCircleModel" "thrown" "I" ∈ wsX6_about := (List.mem_cons_of_mem _ (List.mem_append_left _ (List.mem_of_getElem? (i := 0) rfl)))
theorem kX6_about_1 : Cond.fieldLink RX6 7 "SavingsCircleModel" "z" "[I" ∈ wsX6_about := (List.mem_cons_of_mem _ (List.mem_append_left _ (List.mem_of_getElem? (i := 1) rfl)))
theorem iwX6_about_X6 : ∀ w ∈ wsX60, w ∈ wsX6_about := fun w h => (List.mem_cons_of_mem _ (List.mem_append_right _ h))
set_option maxHeartbeats 4000000 in
set_option maxRecDepth 100000 in
theorem c_X6_about (l : Launch) (G : uG) (a0 : Nat → Nat) (v0 : MdV) (i1 : Int32) {q : Int32 × (MdV)} (hf : f_X6_about v0 i1 = some q) : mQ l yX6_about wsX6_about ({ frames := 1, cells := 0, slots := 0, locals := 24 } : Room) G [.ref (a0 0), .int i1] [mdW G a0 v0] [mdW G a0 q.2] (qI G [mdW G a0 q.2] q.1) := by
  unfold f_X6_about at hf
  refine m_of (cc := cX6_about) (maxL := 2) (ret := (some .int)) (by decide) rfl rfl (Nat.le_of_ble_eq_true rfl) ?_
  intro p e s m args below meth c A ls S hK hA hP hD hS hl
  obtain ⟨hx, hb, hml, hown, hts, hr, hlocks⟩ := id S
  have hl : lv_has ls 2 [(0, .ref (a0 0)), (1, .int i1)] := hl
  refine lv_aload_n hx hb dX6_about_0 rfl (lv_at hl 0 rfl) ?_
  refine lv_iload_n hx hb dX6_about_1 rfl (lv_at hl 1 rfl) ?_
  refine lv_iconst (v := (0:Int32)) hx hb dX6_about_2 (by decide) ?_
  refine lv_bipush (v := (8:Int32)) hx hb dX6_about_3 (by decide) ?_
  obtain ⟨q1, hq1, hf⟩ := bd_some hf
  refine g_callSi S (As := [.int i1, .int (0:Int32), .int (8:Int32)]) (gs' := [mdW G a0 v0]) (c_X6_in l G i1 (0:Int32) (8:Int32) hq1) (va_cwS 3 hts gX6_about_X6_in rfl rfl rfl hd_X6_in.2 ⟨Nat.le_of_ble_eq_true rfl, Nat.le_of_ble_eq_true rfl⟩) hK hP hD hS hA (is := []) rfl rfl rfl hl.1 rfl (Nat.le_of_ble_eq_true rfl) dX6_about_5 ⟨Nat.le_of_ble_eq_true rfl, Nat.le_of_ble_eq_true rfl⟩ rfl (fun H locs hP hD hS => ?_)
  refine lv_if_eq (tgt := 15) hx hb dX6_about_8 (by decide) (fun c2 => ?_) (fun c2 => ?_)
  · rw [if_pos c2] at hf
    refine lv_iconst (v := (1:Int32)) hx hb dX6_about_15 (by decide) ?_
    obtain ⟨u3, eu3, hf⟩ := lt_some hf
    refine g_put (ty := .int) (C := RX6) (T := TX6) (N := 15) (gs' := [mdW G a0 u3]) hx hb hts iwX6_about_X6 tyX6 tyX6_ok nmX6 hown hK hP hD hS 0 0 rfl rfl rfl 0 (Nat.le_of_ble_eq_true rfl) (hts _ kX6_about_0) (fun _ h9 => h9) rfl (by decide +kernel) rfl rfl (Nat.le_of_ble_eq_true rfl) dX6_about_16 (by rw [eu3]; rfl) (fun H locs hP hD hS => ?_)
    refine lv_aload_n hx hb dX6_about_19 rfl (lv_at hl 0 rfl) ?_
    refine g_get (C := RX6) (T := TX6) (N := 15) hx hb hts iwX6_about_X6 hown hK hP 0 0 rfl rfl rfl 0 (Nat.le_of_ble_eq_true rfl) (hts _ kX6_about_0) (fun _ h9 => h9) rfl dX6_about_20 ?_
    refine lv_if_le (tgt := 28) hx hb dX6_about_23 (by decide) (fun c4 => ?_) (fun c4 => ?_)
    · rw [if_pos c4] at hf
      refine lv_iload_n hx hb dX6_about_28 rfl (lv_at hl 1 rfl) ?_
      by_cases c5 : i1 = (0:Int32)
      · rw [if_pos c5] at hf
        refine lv_tableIn (tgt := 76) hx hb dX6_about_29 (by rw [c5]; decide) (by rw [c5]; decide) (by rw [c5]; rfl) (by decide) ?_
        refine lv_aload_n hx hb dX6_about_76 rfl (lv_at hl 0 rfl) ?_
        refine g_get (C := RX6) (T := TX6) (N := 15) hx hb hts iwX6_about_X6 hown hK hP 0 0 rfl rfl rfl 1 (Nat.le_of_ble_eq_true rfl) (hts _ kX6_about_1) (fun _ h9 => h9) rfl dX6_about_77 ?_
        refine lv_iconst (v := (0:Int32)) hx hb dX6_about_80 (by decide) ?_
        obtain ⟨h6, hf⟩ := gi_some hf
        refine g_iald hx hb hK hP 0 1 0 rfl rfl rfl h6 dX6_about_81 ?_
        cases hf
        exact g_iret hx hb hr hlocks hP hS dX6_about_82
      · rw [if_neg c5] at hf
        by_cases c7 : i1 = (1:Int32)
        · rw [if_pos c7] at hf
          refine lv_tableIn (tgt := 83) hx hb dX6_about_29 (by rw [c7]; decide) (by rw [c7]; decide) (by rw [c7]; rfl) (by decide) ?_
          refine lv_aload_n hx hb dX6_about_83 rfl (lv_at hl 0 rfl) ?_
          obtain ⟨q8, hq8, hf⟩ := bd_some hf
          refine g_callVi S (As := []) (gs' := [mdW G a0 u3]) (c_X6_insideMany l G a0 u3 hq8) (cwV 0 hts gX6_about_X6_insideMany rfl rfl rfl hd_X6_insideMany ⟨Nat.le_of_ble_eq_true rfl, Nat.le_of_ble_eq_true rfl⟩) hK hP hD hS hA (is := [0]) rfl rfl 0 rfl rfl rfl rfl hl.1 rfl (Nat.le_of_ble_eq_true rfl) dX6_about_84 ⟨Nat.le_of_ble_eq_true rfl, Nat.le_of_ble_eq_true rfl⟩ rfl (fun H locs hP hD hS => ?_)
          cases hf
          exact g_iret hx hb hr hlocks hP hS dX6_about_87
        · rw [if_neg c7] at hf
          by_cases c9 : i1 = (2:Int32)
          · rw [if_pos c9] at hf
            refine lv_tableIn (tgt := 88) hx hb dX6_about_29 (by rw [c9]; decide) (by rw [c9]; decide) (by rw [c9]; rfl) (by decide) ?_
            refine lv_aload_n hx hb dX6_about_88 rfl (lv_at hl 0 rfl) ?_
            refine g_get (C := RX6) (T := TX6) (N := 15) hx hb hts iwX6_about_X6 hown hK hP 0 0 rfl rfl rfl 1 (Nat.le_of_ble_eq_true rfl) (hts _ kX6_about_1) (fun _ h9 => h9) rfl dX6_about_89 ?_
            refine lv_iconst (v := (2:Int32)) hx hb dX6_about_92 (by decide) ?_
            obtain ⟨h10, hf⟩ := gi_some hf
            refine g_iald hx hb hK hP 0 1 0 rfl rfl rfl h10 dX6_about_93 ?_
            cases hf
            exact g_iret hx hb hr hlocks hP hS dX6_about_94
          · rw [if_neg c9] at hf
            by_cases c11 : i1 = (3:Int32)
            · rw [if_pos c11] at hf
              refine lv_tableIn (tgt := 95) hx hb dX6_about_29 (by rw [c11]; decide) (by rw [c11]; decide) (by rw [c11]; rfl) (by decide) ?_
              refine lv_aload_n hx hb dX6_about_95 rfl (lv_at hl 0 rfl) ?_
              refine g_get (C := RX6) (T := TX6) (N := 15) hx hb hts iwX6_about_X6 hown hK hP 0 0 rfl rfl rfl 1 (Nat.le_of_ble_eq_true rfl) (hts _ kX6_about_1) (fun _ h9 => h9) rfl dX6_about_96 ?_
              refine lv_iconst (v := (1:Int32)) hx hb dX6_about_99 (by decide) ?_
              obtain ⟨h12, hf⟩ := gi_some hf
              refine g_iald hx hb hK hP 0 1 0 rfl rfl rfl h12 dX6_about_100 ?_
              cases hf
              exact g_iret hx hb hr hlocks hP hS dX6_about_101
            · rw [if_neg c11] at hf
              by_cases c13 : i1 = (4:Int32)
              · rw [if_pos c13] at hf
                refine lv_tableIn (tgt := 102) hx hb dX6_about_29 (by rw [c13]; decide) (by rw [c13]; decide) (by rw [c13]; rfl) (by decide) ?_
                refine lv_aload_n hx hb dX6_about_102 rfl (lv_at hl 0 rfl) ?_
                refine g_get (C := RX6) (T := TX6) (N := 15) hx hb hts iwX6_about_X6 hown hK hP 0 0 rfl rfl rfl 1 (Nat.le_of_ble_eq_true rfl) (hts _ kX6_about_1) (fun _ h9 => h9) rfl dX6_about_103 ?_
                refine lv_iconst (v := (3:Int32)) hx hb dX6_about_106 (by decide) ?_
                obtain ⟨h14, hf⟩ := gi_some hf
                refine g_iald hx hb hK hP 0 1 0 rfl rfl rfl h14 dX6_about_107 ?_
                cases hf
                exact g_iret hx hb hr hlocks hP hS dX6_about_108
              · rw [if_neg c13] at hf
                by_cases c15 : i1 = (5:Int32)
                · rw [if_pos c15] at hf
                  refine lv_tableIn (tgt := 109) hx hb dX6_about_29 (by rw [c15]; decide) (by rw [c15]; decide) (by rw [c15]; rfl) (by decide) ?_
                  refine lv_aload_n hx hb dX6_about_109 rfl (lv_at hl 0 rfl) ?_
                  refine lv_iconst (v := (5:Int32)) hx hb dX6_about_110 (by decide) ?_
                  refine lv_bipush (v := (8:Int32)) hx hb dX6_about_111 (by decide) ?_
                  obtain ⟨q16, hq16, hf⟩ := bd_some hf
                  refine g_callVi S (As := [.int (5:Int32), .int (8:Int32)]) (gs' := [mdW G a0 u3]) (c_X6_sumOf l G a0 u3 (5:Int32) (8:Int32) hq16) (cwV 2 hts gX6_about_X6_sumOf rfl rfl rfl hd_X6_sumOf ⟨Nat.le_of_ble_eq_true rfl, Nat.le_of_ble_eq_true rfl⟩) hK hP hD hS hA (is := [0]) rfl rfl 0 rfl rfl rfl rfl hl.1 rfl (Nat.le_of_ble_eq_true rfl) dX6_about_113 ⟨Nat.le_of_ble_eq_true rfl, Nat.le_of_ble_eq_true rfl⟩ rfl (fun H locs hP hD hS => ?_)
                  cases hf
                  exact g_iret hx hb hr hlocks hP hS dX6_about_116
                · rw [if_neg c15] at hf
                  by_cases c17 : i1 = (6:Int32)
                  · rw [if_pos c17] at hf
                    refine lv_tableIn (tgt := 117) hx hb dX6_about_29 (by rw [c17]; decide) (by rw [c17]; decide) (by rw [c17]; rfl) (by decide) ?_
                    refine lv_aload_n hx hb dX6_about_117 rfl (lv_at hl 0 rfl) ?_
                    obtain ⟨q18, hq18, hf⟩ := bd_some hf
                    refine g_callVi S (As := []) (gs' := [mdW G a0 u3]) (c_X6_waiting l G a0 u3 hq18) (cwV 0 hts gX6_about_X6_waiting rfl rfl rfl hd_X6_waiting ⟨Nat.le_of_ble_eq_true rfl, Nat.le_of_ble_eq_true rfl⟩) hK hP hD hS hA (is := [0]) rfl rfl 0 rfl rfl rfl rfl hl.1 rfl (Nat.le_of_ble_eq_true rfl) dX6_about_118 ⟨Nat.le_of_ble_eq_true rfl, Nat.le_of_ble_eq_true rfl⟩ rfl (fun H locs hP hD hS => ?_)
                    cases hf
                    exact g_iret hx hb hr hlocks hP hS dX6_about_121
                  · rw [if_neg c17] at hf
                    by_cases c19 : i1 = (7:Int32)
                    · rw [if_pos c19] at hf
                      refine lv_tableIn (tgt := 122) hx hb dX6_about_29 (by rw [c19]; decide) (by rw [c19]; decide) (by rw [c19]; rfl) (by decide) ?_
                      refine lv_aload_n hx hb dX6_about_122 rfl (lv_at hl 0 rfl) ?_
                      refine lv_bipush (v := (93:Int32)) hx hb dX6_about_123 (by decide) ?_
                      refine lv_bipush (v := (64:Int32)) hx hb dX6_about_125 (by decide) ?_
                      obtain ⟨q20, hq20, hf⟩ := bd_some hf
                      refine g_callVi S (As := [.int (93:Int32), .int (64:Int32)]) (gs' := [mdW G a0 u3]) (c_X6_sumOf l G a0 u3 (93:Int32) (64:Int32) hq20) (cwV 2 hts gX6_about_X6_sumOf rfl rfl rfl hd_X6_sumOf ⟨Nat.le_of_ble_eq_true rfl, Nat.le_of_ble_eq_true rfl⟩) hK hP hD hS hA (is := [0]) rfl rfl 0 rfl rfl rfl rfl hl.1 rfl (Nat.le_of_ble_eq_true rfl) dX6_about_127 ⟨Nat.le_of_ble_eq_true rfl, Nat.le_of_ble_eq_true rfl⟩ rfl (fun H locs hP hD hS => ?_)
                      cases hf
                      exact g_iret hx hb hr hlocks hP hS dX6_about_130
                    · rw [if_neg c19] at hf
                      refine lv_tableOut (tgt := 131) hx hb dX6_about_29 (by have n0 := lv_neT c5 (a := 0) (by decide); have n1 := lv_neT c7 (a := 1) (by decide); have n2 := lv_neT c9 (a := 2) (by decide); have n3 := lv_neT c11 (a := 3) (by decide); have n4 := lv_neT c13 (a := 4) (by decide); have n5 := lv_neT c15 (a := 5) (by decide); have n6 := lv_neT c17 (a := 6) (by decide); have n7 := lv_neT c19 (a := 7) (by decide); omega) (by decide) ?_
                      refine lv_aload_n hx hb dX6_about_131 rfl (lv_at hl 0 rfl) ?_
                      refine g_get (C := RX6) (T := TX6) (N := 15) hx hb hts iwX6_about_X6 hown hK hP 0 0 rfl rfl rfl 1 (Nat.le_of_ble_eq_true rfl) (hts _ kX6_about_1) (fun _ h9 => h9) rfl dX6_about_132 ?_
                      refine lv_iconst (v := (4:Int32)) hx hb dX6_about_135 (by decide) ?_
                      obtain ⟨h21, hf⟩ := gi_some hf
                      refine g_iald hx hb hK hP 0 1 0 rfl rfl rfl h21 dX6_about_136 ?_
                      cases hf
                      exact g_iret hx hb hr hlocks hP hS dX6_about_137
    · rw [if_neg c4] at hf
      refine lv_iconst (v := (0:Int32)) hx hb dX6_about_26 (by decide) ?_
      cases hf
      exact g_iret hx hb hr hlocks hP hS dX6_about_27
  · rw [if_neg c2] at hf
    refine lv_iconst (v := (0:Int32)) hx hb dX6_about_11 (by decide) ?_
    refine lv_goto (tgt := 16) hx hb dX6_about_12 (by decide) ?_
    obtain ⟨u22, eu22, hf⟩ := lt_some hf
    refine g_put (ty := .int) (C := RX6) (T := TX6) (N := 15) (gs' := [mdW G a0 u22]) hx hb hts iwX6_about_X6 tyX6 tyX6_ok nmX6 hown hK hP hD hS 0 0 rfl rfl rfl 0 (Nat.le_of_ble_eq_true rfl) (hts _ kX6_about_0) (fun _ h9 => h9) rfl (by decide +kernel) rfl rfl (Nat.le_of_ble_eq_true rfl) dX6_about_16 (by rw [eu22]; rfl) (fun H locs hP hD hS => ?_)
    refine lv_aload_n hx hb dX6_about_19 rfl (lv_at hl 0 rfl) ?_
    refine g_get (C := RX6) (T := TX6) (N := 15) hx hb hts iwX6_about_X6 hown hK hP 0 0 rfl rfl rfl 0 (Nat.le_of_ble_eq_true rfl) (hts _ kX6_about_0) (fun _ h9 => h9) rfl dX6_about_20 ?_
    refine lv_if_le (tgt := 28) hx hb dX6_about_23 (by decide) (fun c23 => ?_) (fun c23 => ?_)
    · rw [if_pos c23] at hf
      refine lv_iload_n hx hb dX6_about_28 rfl (lv_at hl 1 rfl) ?_
      by_cases c24 : i1 = (0:Int32)
      · rw [if_pos c24] at hf
        refine lv_tableIn (tgt := 76) hx hb dX6_about_29 (by rw [c24]; decide) (by rw [c24]; decide) (by rw [c24]; rfl) (by decide) ?_
        refine lv_aload_n hx hb dX6_about_76 rfl (lv_at hl 0 rfl) ?_
        refine g_get (C := RX6) (T := TX6) (N := 15) hx hb hts iwX6_about_X6 hown hK hP 0 0 rfl rfl rfl 1 (Nat.le_of_ble_eq_true rfl) (hts _ kX6_about_1) (fun _ h9 => h9) rfl dX6_about_77 ?_
        refine lv_iconst (v := (0:Int32)) hx hb dX6_about_80 (by decide) ?_
        obtain ⟨h25, hf⟩ := gi_some hf
        refine g_iald hx hb hK hP 0 1 0 rfl rfl rfl h25 dX6_about_81 ?_
        cases hf
        exact g_iret hx hb hr hlocks hP hS dX6_about_82
      · rw [if_neg c24] at hf
        by_cases c26 : i1 = (1:Int32)
        · rw [if_pos c26] at hf
          refine lv_tableIn (tgt := 83) hx hb dX6_about_29 (by rw [c26]; decide) (by rw [c26]; decide) (by rw [c26]; rfl) (by decide) ?_
          refine lv_aload_n hx hb dX6_about_83 rfl (lv_at hl 0 rfl) ?_
          obtain ⟨q27, hq27, hf⟩ := bd_some hf
          refine g_callVi S (As := []) (gs' := [mdW G a0 u22]) (c_X6_insideMany l G a0 u22 hq27) (cwV 0 hts gX6_about_X6_insideMany rfl rfl rfl hd_X6_insideMany ⟨Nat.le_of_ble_eq_true rfl, Nat.le_of_ble_eq_true rfl⟩) hK hP hD hS hA (is := [0]) rfl rfl 0 rfl rfl rfl rfl hl.1 rfl (Nat.le_of_ble_eq_true rfl) dX6_about_84 ⟨Nat.le_of_ble_eq_true rfl, Nat.le_of_ble_eq_true rfl⟩ rfl (fun H locs hP hD hS => ?_)
          cases hf
          exact g_iret hx hb hr hlocks hP hS dX6_about_87
        · rw [if_neg c26] at hf
          by_cases c28 : i1 = (2:Int32)
          · rw [if_pos c28] at hf
            refine lv_tableIn (tgt := 88) hx hb dX6_about_29 (by rw [c28]; decide) (by rw [c28]; decide) (by rw [c28]; rfl) (by decide) ?_
            refine lv_aload_n hx hb dX6_about_88 rfl (lv_at hl 0 rfl) ?_
            refine g_get (C := RX6) (T := TX6) (N := 15) hx hb hts iwX6_about_X6 hown hK hP 0 0 rfl rfl rfl 1 (Nat.le_of_ble_eq_true rfl) (hts _ kX6_about_1) (fun _ h9 => h9) rfl dX6_about_89 ?_
            refine lv_iconst (v := (2:Int32)) hx hb dX6_about_92 (by decide) ?_
            obtain ⟨h29, hf⟩ := gi_some hf
            refine g_iald hx hb hK hP 0 1 0 rfl rfl rfl h29 dX6_about_93 ?_
            cases hf
            exact g_iret hx hb hr hlocks hP hS dX6_about_94
          · rw [if_neg c28] at hf
            by_cases c30 : i1 = (3:Int32)
            · rw [if_pos c30] at hf
              refine lv_tableIn (tgt := 95) hx hb dX6_about_29 (by rw [c30]; decide) (by rw [c30]; decide) (by rw [c30]; rfl) (by decide) ?_
              refine lv_aload_n hx hb dX6_about_95 rfl (lv_at hl 0 rfl) ?_
              refine g_get (C := RX6) (T := TX6) (N := 15) hx hb hts iwX6_about_X6 hown hK hP 0 0 rfl rfl rfl 1 (Nat.le_of_ble_eq_true rfl) (hts _ kX6_about_1) (fun _ h9 => h9) rfl dX6_about_96 ?_
              refine lv_iconst (v := (1:Int32)) hx hb dX6_about_99 (by decide) ?_
              obtain ⟨h31, hf⟩ := gi_some hf
              refine g_iald hx hb hK hP 0 1 0 rfl rfl rfl h31 dX6_about_100 ?_
              cases hf
              exact g_iret hx hb hr hlocks hP hS dX6_about_101
            · rw [if_neg c30] at hf
              by_cases c32 : i1 = (4:Int32)
              · rw [if_pos c32] at hf
                refine lv_tableIn (tgt := 102) hx hb dX6_about_29 (by rw [c32]; decide) (by rw [c32]; decide) (by rw [c32]; rfl) (by decide) ?_
                refine lv_aload_n hx hb dX6_about_102 rfl (lv_at hl 0 rfl) ?_
                refine g_get (C := RX6) (T := TX6) (N := 15) hx hb hts iwX6_about_X6 hown hK hP 0 0 rfl rfl rfl 1 (Nat.le_of_ble_eq_true rfl) (hts _ kX6_about_1) (fun _ h9 => h9) rfl dX6_about_103 ?_
                refine lv_iconst (v := (3:Int32)) hx hb dX6_about_106 (by decide) ?_
                obtain ⟨h33, hf⟩ := gi_some hf
                refine g_iald hx hb hK hP 0 1 0 rfl rfl rfl h33 dX6_about_107 ?_
                cases hf
                exact g_iret hx hb hr hlocks hP hS dX6_about_108
              · rw [if_neg c32] at hf
                by_cases c34 : i1 = (5:Int32)
                · rw [if_pos c34] at hf
                  refine lv_tableIn (tgt := 109) hx hb dX6_about_29 (by rw [c34]; decide) (by rw [c34]; decide) (by rw [c34]; rfl) (by decide) ?_
                  refine lv_aload_n hx hb dX6_about_109 rfl (lv_at hl 0 rfl) ?_
                  refine lv_iconst (v := (5:Int32)) hx hb dX6_about_110 (by decide) ?_
                  refine lv_bipush (v := (8:Int32)) hx hb dX6_about_111 (by decide) ?_
                  obtain ⟨q35, hq35, hf⟩ := bd_some hf
                  refine g_callVi S (As := [.int (5:Int32), .int (8:Int32)]) (gs' := [mdW G a0 u22]) (c_X6_sumOf l G a0 u22 (5:Int32) (8:Int32) hq35) (cwV 2 hts gX6_about_X6_sumOf rfl rfl rfl hd_X6_sumOf ⟨Nat.le_of_ble_eq_true rfl, Nat.le_of_ble_eq_true rfl⟩) hK hP hD hS hA (is := [0]) rfl rfl 0 rfl rfl rfl rfl hl.1 rfl (Nat.le_of_ble_eq_true rfl) dX6_about_113 ⟨Nat.le_of_ble_eq_true rfl, Nat.le_of_ble_eq_true rfl⟩ rfl (fun H locs hP hD hS => ?_)
                  cases hf
                  exact g_iret hx hb hr hlocks hP hS dX6_about_116
                · rw [if_neg c34] at hf
                  by_cases c36 : i1 = (6:Int32)
                  · rw [if_pos c36] at hf
                    refine lv_tableIn (tgt := 117) hx hb dX6_about_29 (by rw [c36]; decide) (by rw [c36]; decide) (by rw [c36]; rfl) (by decide) ?_
                    refine lv_aload_n hx hb dX6_about_117 rfl (lv_at hl 0 rfl) ?_
                    obtain ⟨q37, hq37, hf⟩ := bd_some hf
                    refine g_callVi S (As := []) (gs' := [mdW G a0 u22]) (c_X6_waiting l G a0 u22 hq37) (cwV 0 hts gX6_about_X6_waiting rfl rfl rfl hd_X6_waiting ⟨Nat.le_of_ble_eq_true rfl, Nat.le_of_ble_eq_true rfl⟩) hK hP hD hS hA (is := [0]) rfl rfl 0 rfl rfl rfl rfl hl.1 rfl (Nat.le_of_ble_eq_true rfl) dX6_about_118 ⟨Nat.le_of_ble_eq_true rfl, Nat.le_of_ble_eq_true rfl⟩ rfl (fun H locs hP hD hS => ?_)
                    cases hf
                    exact g_iret hx hb hr hlocks hP hS dX6_about_121
                  · rw [if_neg c36] at hf
                    by_cases c38 : i1 = (7:Int32)
                    · rw [if_pos c38] at hf
                      refine lv_tableIn (tgt := 122) hx hb dX6_about_29 (by rw [c38]; decide) (by rw [c38]; decide) (by rw [c38]; rfl) (by decide) ?_
                      refine lv_aload_n hx hb dX6_about_122 rfl (lv_at hl 0 rfl) ?_
                      refine lv_bipush (v := (93:Int32)) hx hb dX6_about_123 (by decide) ?_
                      refine lv_bipush (v := (64:Int32)) hx hb dX6_about_125 (by decide) ?_
                      obtain ⟨q39, hq39, hf⟩ := bd_some hf
                      refine g_callVi S (As := [.int (93:Int32), .int (64:Int32)]) (gs' := [mdW G a0 u22]) (c_X6_sumOf l G a0 u22 (93:Int32) (64:Int32) hq39) (cwV 2 hts gX6_about_X6_sumOf rfl rfl rfl hd_X6_sumOf ⟨Nat.le_of_ble_eq_true rfl, Nat.le_of_ble_eq_true rfl⟩) hK hP hD hS hA (is := [0]) rfl rfl 0 rfl rfl rfl rfl hl.1 rfl (Nat.le_of_ble_eq_true rfl) dX6_about_127 ⟨Nat.le_of_ble_eq_true rfl, Nat.le_of_ble_eq_true rfl⟩ rfl (fun H locs hP hD hS => ?_)
                      cases hf
                      exact g_iret hx hb hr hlocks hP hS dX6_about_130
                    · rw [if_neg c38] at hf
                      refine lv_tableOut (tgt := 131) hx hb dX6_about_29 (by have n0 := lv_neT c24 (a := 0) (by decide); have n1 := lv_neT c26 (a := 1) (by decide); have n2 := lv_neT c28 (a := 2) (by decide); have n3 := lv_neT c30 (a := 3) (by decide); have n4 := lv_neT c32 (a := 4) (by decide); have n5 := lv_neT c34 (a := 5) (by decide); have n6 := lv_neT c36 (a := 6) (by decide); have n7 := lv_neT c38 (a := 7) (by decide); omega) (by decide) ?_
                      refine lv_aload_n hx hb dX6_about_131 rfl (lv_at hl 0 rfl) ?_
                      refine g_get (C := RX6) (T := TX6) (N := 15) hx hb hts iwX6_about_X6 hown hK hP 0 0 rfl rfl rfl 1 (Nat.le_of_ble_eq_true rfl) (hts _ kX6_about_1) (fun _ h9 => h9) rfl dX6_about_132 ?_
                      refine lv_iconst (v := (4:Int32)) hx hb dX6_about_135 (by decide) ?_
                      obtain ⟨h40, hf⟩ := gi_some hf
                      refine g_iald hx hb hK hP 0 1 0 rfl rfl rfl h40 dX6_about_136 ?_
                      cases hf
                      exact g_iret hx hb hr hlocks hP hS dX6_about_137
    · rw [if_neg c23] at hf
      refine lv_iconst (v := (0:Int32)) hx hb dX6_about_26 (by decide) ?_
      cases hf
      exact g_iret hx hb hr hlocks hP hS dX6_about_27
theorem kX6_isMember_0 : Cond.fieldLink RX6 7 "SavingsCircleModel" "z" "[I" ∈ wsX6_isMember := (List.mem_cons_of_mem _ (List.mem_append_left _ (List.mem_of_getElem? (i := 0) rfl)))
theorem iwX6_isMember_X6 : ∀ w ∈ wsX60, w ∈ wsX6_isMember := fun w h => (List.mem_cons_of_mem _ (List.mem_append_right _ h))
set_option maxHeartbeats 4000000 in
set_option maxRecDepth 100000 in
theorem c_X6_isMember (l : Launch) (G : uG) (a0 : Nat → Nat) (v0 : MdV) (i1 : Int32) {q : Int32 × (Unit)} (hf : f_X6_isMember v0 i1 = some q) : mQ l yX6_isMember wsX6_isMember ({ frames := 0, cells := 0, slots := 0, locals := 0 } : Room) G [.ref (a0 0), .int i1] [mdW G a0 v0] [mdW G a0 v0] (qI G [mdW G a0 v0] q.1) := by
  unfold f_X6_isMember at hf
  refine m_of (cc := cX6_isMember) (maxL := 2) (ret := (some .boolean)) (by decide) rfl rfl (Nat.le_of_ble_eq_true rfl) ?_
  intro p e s m args below meth c A ls S hK hA hP hD hS hl
  obtain ⟨hx, hb, hml, hown, hts, hr, hlocks⟩ := id S
  have hl : lv_has ls 2 [(0, .ref (a0 0)), (1, .int i1)] := hl
  refine lv_iload_n hx hb dX6_isMember_0 rfl (lv_at hl 1 rfl) ?_
  refine lv_if_lt (tgt := 18) hx hb dX6_isMember_1 (by decide) (fun c1 => ?_) (fun c1 => ?_)
  · rw [if_pos c1] at hf
    refine lv_iconst (v := (0:Int32)) hx hb dX6_isMember_18 (by decide) ?_
    cases hf
    exact g_zret hx hb hr gz0 hlocks hP hS dX6_isMember_19
  · rw [if_neg c1] at hf
    refine lv_iload_n hx hb dX6_isMember_4 rfl (lv_at hl 1 rfl) ?_
    refine lv_aload_n hx hb dX6_isMember_5 rfl (lv_at hl 0 rfl) ?_
    refine g_get (C := RX6) (T := TX6) (N := 15) hx hb hts iwX6_isMember_X6 hown hK hP 0 0 rfl rfl rfl 1 (Nat.le_of_ble_eq_true rfl) (hts _ kX6_isMember_0) (fun _ h9 => h9) rfl dX6_isMember_6 ?_
    refine lv_iconst (v := (0:Int32)) hx hb dX6_isMember_9 (by decide) ?_
    obtain ⟨h2, hf⟩ := gi_some hf
    refine g_iald hx hb hK hP 0 1 0 rfl rfl rfl h2 dX6_isMember_10 ?_
    refine lv_icmp_ge (tgt := 18) hx hb dX6_isMember_11 (by decide) (fun c3 => ?_) (fun c3 => ?_)
    · rw [if_pos c3] at hf
      refine lv_iconst (v := (0:Int32)) hx hb dX6_isMember_18 (by decide) ?_
      cases hf
      exact g_zret hx hb hr gz0 hlocks hP hS dX6_isMember_19
    · rw [if_neg c3] at hf
      refine lv_iconst (v := (1:Int32)) hx hb dX6_isMember_14 (by decide) ?_
      refine lv_goto (tgt := 19) hx hb dX6_isMember_15 (by decide) ?_
      cases hf
      exact g_zret hx hb hr gz1 hlocks hP hS dX6_isMember_19
theorem kX6_member_0 : Cond.fieldLink RX6 38 "SavingsCircleModel" "thrown" "I" ∈ wsX6_member := (List.mem_cons_of_mem _ (List.mem_append_left _ (List.mem_of_getElem? (i := 0) rfl)))
theorem kX6_member_1 : Cond.fieldLink RX6 7 "SavingsCircleModel" "z" "[I" ∈ wsX6_member := (List.mem_cons_of_mem _ (List.mem_append_left _ (List.mem_of_getElem? (i := 1) rfl)))
theorem iwX6_member_X6 : ∀ w ∈ wsX60, w ∈ wsX6_member := fun w h => (List.mem_cons_of_mem _ (List.mem_append_right _ h))
set_option maxHeartbeats 4000000 in
set_option maxRecDepth 100000 in
theorem c_X6_member (l : Launch) (G : uG) (a0 : Nat → Nat) (v0 : MdV) (i1 : Int32) (i2 : Int32) {q : Int32 × (MdV)} (hf : f_X6_member v0 i1 i2 = some q) : mQ l yX6_member wsX6_member ({ frames := 1, cells := 0, slots := 0, locals := 22 } : Room) G [.ref (a0 0), .int i1, .int i2] [mdW G a0 v0] [mdW G a0 q.2] (qI G [mdW G a0 q.2] q.1) := by
  unfold f_X6_member at hf
  refine m_of (cc := cX6_member) (maxL := 3) (ret := (some .int)) (by decide) rfl rfl (Nat.le_of_ble_eq_true rfl) ?_
  intro p e s m args below meth c A ls S hK hA hP hD hS hl
  obtain ⟨hx, hb, hml, hown, hts, hr, hlocks⟩ := id S
  have hl : lv_has ls 3 [(0, .ref (a0 0)), (1, .int i1), (2, .int i2)] := hl
  refine lv_aload_n hx hb dX6_member_0 rfl (lv_at hl 0 rfl) ?_
  refine lv_aload_n hx hb dX6_member_1 rfl (lv_at hl 0 rfl) ?_
  refine lv_iload_n hx hb dX6_member_2 rfl (lv_at hl 1 rfl) ?_
  obtain ⟨q1, hq1, hf⟩ := bd_some hf
  refine g_callVi S (As := [.int i1]) (gs' := [mdW G a0 v0]) (c_X6_isMember l G a0 v0 i1 hq1) (cwV 1 hts gX6_member_X6_isMember rfl rfl rfl hd_X6_isMember ⟨Nat.le_of_ble_eq_true rfl, Nat.le_of_ble_eq_true rfl⟩) hK hP hD hS hA (is := [0]) rfl rfl 0 rfl rfl rfl rfl hl.1 rfl (Nat.le_of_ble_eq_true rfl) dX6_member_3 ⟨Nat.le_of_ble_eq_true rfl, Nat.le_of_ble_eq_true rfl⟩ rfl (fun H locs hP hD hS => ?_)
  refine lv_if_ne (tgt := 13) hx hb dX6_member_6 (by decide) (fun c2 => ?_) (fun c2 => ?_)
  · rw [if_neg c2] at hf
    refine lv_iload_n hx hb dX6_member_13 rfl (lv_at hl 2 rfl) ?_
    refine lv_iconst (v := (0:Int32)) hx hb dX6_member_14 (by decide) ?_
    refine lv_bipush (v := (10:Int32)) hx hb dX6_member_15 (by decide) ?_
    obtain ⟨q3, hq3, hf⟩ := bd_some hf
    refine g_callSi S (As := [.int i2, .int (0:Int32), .int (10:Int32)]) (gs' := [mdW G a0 v0]) (c_X6_in l G i2 (0:Int32) (10:Int32) hq3) (va_cwS 3 hts gX6_member_X6_in rfl rfl rfl hd_X6_in.2 ⟨Nat.le_of_ble_eq_true rfl, Nat.le_of_ble_eq_true rfl⟩) hK hP hD hS hA (is := []) rfl rfl rfl hl.1 rfl (Nat.le_of_ble_eq_true rfl) dX6_member_17 ⟨Nat.le_of_ble_eq_true rfl, Nat.le_of_ble_eq_true rfl⟩ rfl (fun H locs hP hD hS => ?_)
    refine lv_if_eq (tgt := 27) hx hb dX6_member_20 (by decide) (fun c4 => ?_) (fun c4 => ?_)
    · rw [if_pos c4] at hf
      refine lv_iconst (v := (2:Int32)) hx hb dX6_member_27 (by decide) ?_
      obtain ⟨u5, eu5, hf⟩ := lt_some hf
      refine g_put (ty := .int) (C := RX6) (T := TX6) (N := 15) (gs' := [mdW G a0 u5]) hx hb hts iwX6_member_X6 tyX6 tyX6_ok nmX6 hown hK hP hD hS 0 0 rfl rfl rfl 0 (Nat.le_of_ble_eq_true rfl) (hts _ kX6_member_0) (fun _ h9 => h9) rfl (by decide +kernel) rfl rfl (Nat.le_of_ble_eq_true rfl) dX6_member_28 (by rw [eu5]; rfl) (fun H locs hP hD hS => ?_)
      refine lv_aload_n hx hb dX6_member_31 rfl (lv_at hl 0 rfl) ?_
      refine g_get (C := RX6) (T := TX6) (N := 15) hx hb hts iwX6_member_X6 hown hK hP 0 0 rfl rfl rfl 0 (Nat.le_of_ble_eq_true rfl) (hts _ kX6_member_0) (fun _ h9 => h9) rfl dX6_member_32 ?_
      refine lv_if_le (tgt := 42) hx hb dX6_member_35 (by decide) (fun c6 => ?_) (fun c6 => ?_)
      · rw [if_pos c6] at hf
        refine lv_aload_n hx hb dX6_member_42 rfl (lv_at hl 0 rfl) ?_
        refine g_get (C := RX6) (T := TX6) (N := 15) hx hb hts iwX6_member_X6 hown hK hP 0 0 rfl rfl rfl 1 (Nat.le_of_ble_eq_true rfl) (hts _ kX6_member_1) (fun _ h9 => h9) rfl dX6_member_43 ?_
        refine lv_iconst (v := (5:Int32)) hx hb dX6_member_46 (by decide) ?_
        refine lv_bipush (v := (8:Int32)) hx hb dX6_member_47 (by decide) ?_
        refine lv_iload_n hx hb dX6_member_49 rfl (lv_at hl 2 rfl) ?_
        refine lv_imul hx hb dX6_member_50 ?_
        refine lv_iadd hx hb dX6_member_51 ?_
        refine lv_iload_n hx hb dX6_member_52 rfl (lv_at hl 1 rfl) ?_
        refine lv_iadd hx hb dX6_member_53 ?_
        obtain ⟨h7, hf⟩ := gi_some hf
        refine g_iald hx hb hK hP 0 1 0 rfl rfl rfl h7 dX6_member_54 ?_
        obtain ⟨x8, ex8, hf⟩ := lt_some hf
        refine lv_nmi ex8 ?_
        cases hf
        exact g_iret hx hb hr hlocks hP hS dX6_member_55
      · rw [if_neg c6] at hf
        refine lv_iconst (v := (0:Int32)) hx hb dX6_member_38 (by decide) ?_
        refine lv_goto (tgt := 55) hx hb dX6_member_39 (by decide) ?_
        cases hf
        exact g_iret hx hb hr hlocks hP hS dX6_member_55
    · rw [if_neg c4] at hf
      refine lv_iconst (v := (0:Int32)) hx hb dX6_member_23 (by decide) ?_
      refine lv_goto (tgt := 28) hx hb dX6_member_24 (by decide) ?_
      obtain ⟨u9, eu9, hf⟩ := lt_some hf
      refine g_put (ty := .int) (C := RX6) (T := TX6) (N := 15) (gs' := [mdW G a0 u9]) hx hb hts iwX6_member_X6 tyX6 tyX6_ok nmX6 hown hK hP hD hS 0 0 rfl rfl rfl 0 (Nat.le_of_ble_eq_true rfl) (hts _ kX6_member_0) (fun _ h9 => h9) rfl (by decide +kernel) rfl rfl (Nat.le_of_ble_eq_true rfl) dX6_member_28 (by rw [eu9]; rfl) (fun H locs hP hD hS => ?_)
      refine lv_aload_n hx hb dX6_member_31 rfl (lv_at hl 0 rfl) ?_
      refine g_get (C := RX6) (T := TX6) (N := 15) hx hb hts iwX6_member_X6 hown hK hP 0 0 rfl rfl rfl 0 (Nat.le_of_ble_eq_true rfl) (hts _ kX6_member_0) (fun _ h9 => h9) rfl dX6_member_32 ?_
      refine lv_if_le (tgt := 42) hx hb dX6_member_35 (by decide) (fun c10 => ?_) (fun c10 => ?_)
      · rw [if_pos c10] at hf
        refine lv_aload_n hx hb dX6_member_42 rfl (lv_at hl 0 rfl) ?_
        refine g_get (C := RX6) (T := TX6) (N := 15) hx hb hts iwX6_member_X6 hown hK hP 0 0 rfl rfl rfl 1 (Nat.le_of_ble_eq_true rfl) (hts _ kX6_member_1) (fun _ h9 => h9) rfl dX6_member_43 ?_
        refine lv_iconst (v := (5:Int32)) hx hb dX6_member_46 (by decide) ?_
        refine lv_bipush (v := (8:Int32)) hx hb dX6_member_47 (by decide) ?_
        refine lv_iload_n hx hb dX6_member_49 rfl (lv_at hl 2 rfl) ?_
        refine lv_imul hx hb dX6_member_50 ?_
        refine lv_iadd hx hb dX6_member_51 ?_
        refine lv_iload_n hx hb dX6_member_52 rfl (lv_at hl 1 rfl) ?_
        refine lv_iadd hx hb dX6_member_53 ?_
        obtain ⟨h11, hf⟩ := gi_some hf
        refine g_iald hx hb hK hP 0 1 0 rfl rfl rfl h11 dX6_member_54 ?_
        obtain ⟨x12, ex12, hf⟩ := lt_some hf
        refine lv_nmi ex12 ?_
        cases hf
        exact g_iret hx hb hr hlocks hP hS dX6_member_55
      · rw [if_neg c10] at hf
        refine lv_iconst (v := (0:Int32)) hx hb dX6_member_38 (by decide) ?_
        refine lv_goto (tgt := 55) hx hb dX6_member_39 (by decide) ?_
        cases hf
        exact g_iret hx hb hr hlocks hP hS dX6_member_55
  · rw [if_pos c2] at hf
    refine lv_iconst (v := (1:Int32)) hx hb dX6_member_9 (by decide) ?_
    refine lv_goto (tgt := 28) hx hb dX6_member_10 (by decide) ?_
    obtain ⟨u13, eu13, hf⟩ := lt_some hf
    refine g_put (ty := .int) (C := RX6) (T := TX6) (N := 15) (gs' := [mdW G a0 u13]) hx hb hts iwX6_member_X6 tyX6 tyX6_ok nmX6 hown hK hP hD hS 0 0 rfl rfl rfl 0 (Nat.le_of_ble_eq_true rfl) (hts _ kX6_member_0) (fun _ h9 => h9) rfl (by decide +kernel) rfl rfl (Nat.le_of_ble_eq_true rfl) dX6_member_28 (by rw [eu13]; rfl) (fun H locs hP hD hS => ?_)
    refine lv_aload_n hx hb dX6_member_31 rfl (lv_at hl 0 rfl) ?_
    refine g_get (C := RX6) (T := TX6) (N := 15) hx hb hts iwX6_member_X6 hown hK hP 0 0 rfl rfl rfl 0 (Nat.le_of_ble_eq_true rfl) (hts _ kX6_member_0) (fun _ h9 => h9) rfl dX6_member_32 ?_
    refine lv_if_le (tgt := 42) hx hb dX6_member_35 (by decide) (fun c14 => ?_) (fun c14 => ?_)
    · rw [if_pos c14] at hf
      refine lv_aload_n hx hb dX6_member_42 rfl (lv_at hl 0 rfl) ?_
      refine g_get (C := RX6) (T := TX6) (N := 15) hx hb hts iwX6_member_X6 hown hK hP 0 0 rfl rfl rfl 1 (Nat.le_of_ble_eq_true rfl) (hts _ kX6_member_1) (fun _ h9 => h9) rfl dX6_member_43 ?_
      refine lv_iconst (v := (5:Int32)) hx hb dX6_member_46 (by decide) ?_
      refine lv_bipush (v := (8:Int32)) hx hb dX6_member_47 (by decide) ?_
      refine lv_iload_n hx hb dX6_member_49 rfl (lv_at hl 2 rfl) ?_
      refine lv_imul hx hb dX6_member_50 ?_
      refine lv_iadd hx hb dX6_member_51 ?_
      refine lv_iload_n hx hb dX6_member_52 rfl (lv_at hl 1 rfl) ?_
      refine lv_iadd hx hb dX6_member_53 ?_
      obtain ⟨h15, hf⟩ := gi_some hf
      refine g_iald hx hb hK hP 0 1 0 rfl rfl rfl h15 dX6_member_54 ?_
      obtain ⟨x16, ex16, hf⟩ := lt_some hf
      refine lv_nmi ex16 ?_
      cases hf
      exact g_iret hx hb hr hlocks hP hS dX6_member_55
    · rw [if_neg c14] at hf
      refine lv_iconst (v := (0:Int32)) hx hb dX6_member_38 (by decide) ?_
      refine lv_goto (tgt := 55) hx hb dX6_member_39 (by decide) ?_
      cases hf
      exact g_iret hx hb hr hlocks hP hS dX6_member_55
set_option maxHeartbeats 4000000 in
set_option maxRecDepth 100000 in
theorem c_X6_whyNotTwo (l : Launch) (G : uG) (a0 : Nat → Nat) (v0 : MdV) (i1 : Int32) (i2 : Int32) {q : Int32 × (Unit)} (hf : f_X6_whyNotTwo v0 i1 i2 = some q) : mQ l yX6_whyNotTwo wsX6_whyNotTwo ({ frames := 1, cells := 0, slots := 0, locals := 21 } : Room) G [.ref (a0 0), .int i1, .int i2] [mdW G a0 v0] [mdW G a0 v0] (qI G [mdW G a0 v0] q.1) := by
  unfold f_X6_whyNotTwo at hf
  refine m_of (cc := cX6_whyNotTwo) (maxL := 3) (ret := (some .int)) (by decide) rfl rfl (Nat.le_of_ble_eq_true rfl) ?_
  intro p e s m args below meth c A ls S hK hA hP hD hS hl
  obtain ⟨hx, hb, hml, hown, hts, hr, hlocks⟩ := id S
  have hl : lv_has ls 3 [(0, .ref (a0 0)), (1, .int i1), (2, .int i2)] := hl
  refine lv_aload_n hx hb dX6_whyNotTwo_0 rfl (lv_at hl 0 rfl) ?_
  refine lv_iload_n hx hb dX6_whyNotTwo_1 rfl (lv_at hl 1 rfl) ?_
  obtain ⟨q1, hq1, hf⟩ := bd_some hf
  refine g_callVi S (As := [.int i1]) (gs' := [mdW G a0 v0]) (c_X6_isMember l G a0 v0 i1 hq1) (cwV 1 hts gX6_whyNotTwo_X6_isMember rfl rfl rfl hd_X6_isMember ⟨Nat.le_of_ble_eq_true rfl, Nat.le_of_ble_eq_true rfl⟩) hK hP hD hS hA (is := [0]) rfl rfl 0 rfl rfl rfl rfl hl.1 rfl (Nat.le_of_ble_eq_true rfl) dX6_whyNotTwo_2 ⟨Nat.le_of_ble_eq_true rfl, Nat.le_of_ble_eq_true rfl⟩ rfl (fun H locs hP hD hS => ?_)
  refine lv_if_eq (tgt := 16) hx hb dX6_whyNotTwo_5 (by decide) (fun c2 => ?_) (fun c2 => ?_)
  · rw [if_pos c2] at hf
    refine lv_iconst (v := (1:Int32)) hx hb dX6_whyNotTwo_16 (by decide) ?_
    refine lv_goto (tgt := 30) hx hb dX6_whyNotTwo_17 (by decide) ?_
    cases hf
    exact g_iret hx hb hr hlocks hP hS dX6_whyNotTwo_30
  · rw [if_neg c2] at hf
    refine lv_aload_n hx hb dX6_whyNotTwo_8 rfl (lv_at hl 0 rfl) ?_
    refine lv_iload_n hx hb dX6_whyNotTwo_9 rfl (lv_at hl 2 rfl) ?_
    obtain ⟨q3, hq3, hf⟩ := bd_some hf
    refine g_callVi S (As := [.int i2]) (gs' := [mdW G a0 v0]) (c_X6_isMember l G a0 v0 i2 hq3) (cwV 1 hts gX6_whyNotTwo_X6_isMember rfl rfl rfl hd_X6_isMember ⟨Nat.le_of_ble_eq_true rfl, Nat.le_of_ble_eq_true rfl⟩) hK hP hD hS hA (is := [0]) rfl rfl 0 rfl rfl rfl rfl hl.1 rfl (Nat.le_of_ble_eq_true rfl) dX6_whyNotTwo_10 ⟨Nat.le_of_ble_eq_true rfl, Nat.le_of_ble_eq_true rfl⟩ rfl (fun H locs hP hD hS => ?_)
    refine lv_if_ne (tgt := 20) hx hb dX6_whyNotTwo_13 (by decide) (fun c4 => ?_) (fun c4 => ?_)
    · rw [if_neg c4] at hf
      refine lv_iload_n hx hb dX6_whyNotTwo_20 rfl (lv_at hl 1 rfl) ?_
      refine lv_iload_n hx hb dX6_whyNotTwo_21 rfl (lv_at hl 2 rfl) ?_
      refine lv_icmp_ne (tgt := 29) hx hb dX6_whyNotTwo_22 (by decide) (fun c5 => ?_) (fun c5 => ?_)
      · rw [if_neg c5] at hf
        refine lv_iconst (v := (0:Int32)) hx hb dX6_whyNotTwo_29 (by decide) ?_
        cases hf
        exact g_iret hx hb hr hlocks hP hS dX6_whyNotTwo_30
      · rw [if_pos c5] at hf
        refine lv_iconst (v := (2:Int32)) hx hb dX6_whyNotTwo_25 (by decide) ?_
        refine lv_goto (tgt := 30) hx hb dX6_whyNotTwo_26 (by decide) ?_
        cases hf
        exact g_iret hx hb hr hlocks hP hS dX6_whyNotTwo_30
    · rw [if_pos c4] at hf
      refine lv_iconst (v := (1:Int32)) hx hb dX6_whyNotTwo_16 (by decide) ?_
      refine lv_goto (tgt := 30) hx hb dX6_whyNotTwo_17 (by decide) ?_
      cases hf
      exact g_iret hx hb hr hlocks hP hS dX6_whyNotTwo_30
theorem kX6_owes_0 : Cond.fieldLink RX6 38 "SavingsCircleModel" "thrown" "I" ∈ wsX6_owes := (List.mem_cons_of_mem _ (List.mem_append_left _ (List.mem_of_getElem? (i := 0) rfl)))
theorem kX6_owes_1 : Cond.fieldLink RX6 7 "SavingsCircleModel" "z" "[I" ∈ wsX6_owes := (List.mem_cons_of_mem _ (List.mem_append_left _ (List.mem_of_getElem? (i := 1) rfl)))
theorem iwX6_owes_X6 : ∀ w ∈ wsX60, w ∈ wsX6_owes := fun w h => (List.mem_cons_of_mem _ (List.mem_append_right _ h))
set_option maxHeartbeats 4000000 in
set_option maxRecDepth 100000 in
theorem c_X6_owes (l : Launch) (G : uG) (a0 : Nat → Nat) (v0 : MdV) (i1 : Int32) (i2 : Int32) {q : Int32 × (MdV)} (hf : f_X6_owes v0 i1 i2 = some q) : mQ l yX6_owes wsX6_owes ({ frames := 2, cells := 0, slots := 0, locals := 43 } : Room) G [.ref (a0 0), .int i1, .int i2] [mdW G a0 v0] [mdW G a0 q.2] (qI G [mdW G a0 q.2] q.1) := by
  unfold f_X6_owes at hf
  refine m_of (cc := cX6_owes) (maxL := 3) (ret := (some .int)) (by decide) rfl rfl (Nat.le_of_ble_eq_true rfl) ?_
  intro p e s m args below meth c A ls S hK hA hP hD hS hl
  obtain ⟨hx, hb, hml, hown, hts, hr, hlocks⟩ := id S
  have hl : lv_has ls 3 [(0, .ref (a0 0)), (1, .int i1), (2, .int i2)] := hl
  refine lv_aload_n hx hb dX6_owes_0 rfl (lv_at hl 0 rfl) ?_
  refine lv_aload_n hx hb dX6_owes_1 rfl (lv_at hl 0 rfl) ?_
  refine lv_iload_n hx hb dX6_owes_2 rfl (lv_at hl 1 rfl) ?_
  refine lv_iload_n hx hb dX6_owes_3 rfl (lv_at hl 2 rfl) ?_
  obtain ⟨q1, hq1, hf⟩ := bd_some hf
  refine g_callVi S (As := [.int i1, .int i2]) (gs' := [mdW G a0 v0]) (c_X6_whyNotTwo l G a0 v0 i1 i2 hq1) (cwV 2 hts gX6_owes_X6_whyNotTwo rfl rfl rfl hd_X6_whyNotTwo ⟨Nat.le_of_ble_eq_true rfl, Nat.le_of_ble_eq_true rfl⟩) hK hP hD hS hA (is := [0]) rfl rfl 0 rfl rfl rfl rfl hl.1 rfl (Nat.le_of_ble_eq_true rfl) dX6_owes_4 ⟨Nat.le_of_ble_eq_true rfl, Nat.le_of_ble_eq_true rfl⟩ rfl (fun H locs hP hD hS => ?_)
  obtain ⟨u2, eu2, hf⟩ := lt_some hf
  refine g_put (ty := .int) (C := RX6) (T := TX6) (N := 15) (gs' := [mdW G a0 u2]) hx hb hts iwX6_owes_X6 tyX6 tyX6_ok nmX6 hown hK hP hD hS 0 0 rfl rfl rfl 0 (Nat.le_of_ble_eq_true rfl) (hts _ kX6_owes_0) (fun _ h9 => h9) rfl (by decide +kernel) rfl rfl (Nat.le_of_ble_eq_true rfl) dX6_owes_7 (by rw [eu2]; rfl) (fun H locs hP hD hS => ?_)
  refine lv_aload_n hx hb dX6_owes_10 rfl (lv_at hl 0 rfl) ?_
  refine g_get (C := RX6) (T := TX6) (N := 15) hx hb hts iwX6_owes_X6 hown hK hP 0 0 rfl rfl rfl 0 (Nat.le_of_ble_eq_true rfl) (hts _ kX6_owes_0) (fun _ h9 => h9) rfl dX6_owes_11 ?_
  refine lv_if_le (tgt := 21) hx hb dX6_owes_14 (by decide) (fun c3 => ?_) (fun c3 => ?_)
  · rw [if_pos c3] at hf
    refine lv_aload_n hx hb dX6_owes_21 rfl (lv_at hl 0 rfl) ?_
    refine g_get (C := RX6) (T := TX6) (N := 15) hx hb hts iwX6_owes_X6 hown hK hP 0 0 rfl rfl rfl 1 (Nat.le_of_ble_eq_true rfl) (hts _ kX6_owes_1) (fun _ h9 => h9) rfl dX6_owes_22 ?_
    refine lv_bipush (v := (93:Int32)) hx hb dX6_owes_25 (by decide) ?_
    refine lv_bipush (v := (8:Int32)) hx hb dX6_owes_27 (by decide) ?_
    refine lv_iload_n hx hb dX6_owes_29 rfl (lv_at hl 1 rfl) ?_
    refine lv_imul hx hb dX6_owes_30 ?_
    refine lv_iadd hx hb dX6_owes_31 ?_
    refine lv_iload_n hx hb dX6_owes_32 rfl (lv_at hl 2 rfl) ?_
    refine lv_iadd hx hb dX6_owes_33 ?_
    obtain ⟨h4, hf⟩ := gi_some hf
    refine g_iald hx hb hK hP 0 1 0 rfl rfl rfl h4 dX6_owes_34 ?_
    obtain ⟨x5, ex5, hf⟩ := lt_some hf
    refine lv_nmi ex5 ?_
    cases hf
    exact g_iret hx hb hr hlocks hP hS dX6_owes_35
  · rw [if_neg c3] at hf
    refine lv_iconst (v := (0:Int32)) hx hb dX6_owes_17 (by decide) ?_
    refine lv_goto (tgt := 35) hx hb dX6_owes_18 (by decide) ?_
    cases hf
    exact g_iret hx hb hr hlocks hP hS dX6_owes_35
theorem kX6_chain_0 : Cond.fieldLink RX6 38 "SavingsCircleModel" "thrown" "I" ∈ wsX6_chain := (List.mem_cons_of_mem _ (List.mem_append_left _ (List.mem_of_getElem? (i := 0) rfl)))
theorem kX6_chain_1 : Cond.constant RX6 49 (-99999) ∈ wsX6_chain := (List.mem_cons_of_mem _ (List.mem_append_left _ (List.mem_of_getElem? (i := 1) rfl)))
theorem kX6_chain_2 : Cond.fieldLink RX6 7 "SavingsCircleModel" "z" "[I" ∈ wsX6_chain := (List.mem_cons_of_mem _ (List.mem_append_left _ (List.mem_of_getElem? (i := 2) rfl)))
theorem iwX6_chain_X6 : ∀ w ∈ wsX60, w ∈ wsX6_chain := fun w h => (List.mem_cons_of_mem _ (List.mem_append_right _ h))
set_option maxHeartbeats 4000000 in
set_option maxRecDepth 100000 in
theorem w_X6_chain_33 {p : Program} {l : Launch} {e : Env} {s : State} {m : MethodId} {args : Array Value} {below : List Frame} {meth : Method} {c : Code} {A : Nat → Prop} {Q : State → Prop} (S : Ev p s m args meth c cX6_chain 5 (some .int) yX6_chain.cls wsX6_chain) {G : uG} (hK : kK G s) (hA : ∀ q, s.heap.size ≤ q → A q) (_ : uG) (a0 : Nat → Nat) (v0 : MdV) : ∀ (n : Nat) (z : (Int32 × Int32 × Int32)) (e1 : (Int32 × Int32 × Int32)), lp (b_X6_chain_33 v0) n z = some e1 → ∀ (H : Heap) (locs : List Loc) (ls : Array Slot), gP G [mdW G a0 v0] H → gD A [mdW G a0 v0] → va_S A s.heap H locs → lv_has ls 5 [(0, .ref (a0 0)), (2, .int z.1), (3, .int z.2.1), (4, .int z.2.2)] → (∀ (H : Heap) (locs : List Loc) (ls : Array Slot), gP G [mdW G a0 v0] H → gD A [mdW G a0 v0] → va_S A s.heap H locs → lv_has ls 5 [(0, .ref (a0 0)), (2, .int e1.1), (3, .int e1.2.1), (4, .int e1.2.2)] → W p l e ({ frames := 1, cells := 0, slots := 0, locals := 21 } : Room) s m args below meth c H locs 0 0 Q (F0 m 74 ls [])) → W p l e ({ frames := 1, cells := 0, slots := 0, locals := 21 } : Room) s m args below meth c H locs 0 0 Q (F0 m 33 ls []) := by
  obtain ⟨hx, hb, hml, hown, hts, hr, hlocks⟩ := id S
  intro n
  induction n with
  | zero => intro z e1 h; cases h
  | succ n ih =>
    intro z e1 hlp H locs ls hP hD hS hl K
    obtain ⟨z9, hf, hz⟩ := lp_s hlp
    unfold b_X6_chain_33 at hf
    refine lv_iload hx hb dX6_chain_33 (lv_at hl 3 rfl) ?_
    refine lv_ldc (v := (-99999:Int32)) hx hb hown (hts _ kX6_chain_1) dX6_chain_35 ?_
    refine lv_icmp_eq (tgt := 74) hx hb dX6_chain_37 (by decide) (fun c5 => ?_) (fun c5 => ?_)
    · rw [if_pos c5] at hf
      have he := lz_r hf hz
      subst he
      exact K H locs ls hP hD hS (lv_sub hl [0, 1, 2, 3] rfl)
    · rw [if_neg c5] at hf
      refine lv_iload_n hx hb dX6_chain_40 rfl (lv_at hl 1 rfl) ?_
      refine lv_iload hx hb dX6_chain_41 (lv_at hl 3 rfl) ?_
      refine lv_ishr hx hb dX6_chain_43 ?_
      refine lv_iconst (v := (1:Int32)) hx hb dX6_chain_44 (by decide) ?_
      refine lv_iand hx hb dX6_chain_45 ?_
      refine lv_if_ne (tgt := 74) hx hb dX6_chain_46 (by decide) (fun c6 => ?_) (fun c6 => ?_)
      · rw [if_neg c6] at hf
        have he := lz_r hf hz
        subst he
        exact K H locs ls hP hD hS (lv_sub hl [0, 1, 2, 3] rfl)
      · rw [if_pos c6] at hf
        refine lv_iload_n hx hb dX6_chain_49 rfl (lv_at hl 1 rfl) ?_
        refine lv_iconst (v := (1:Int32)) hx hb dX6_chain_50 (by decide) ?_
        refine lv_iload hx hb dX6_chain_51 (lv_at hl 3 rfl) ?_
        refine lv_ishl hx hb dX6_chain_53 ?_
        refine lv_ior hx hb dX6_chain_54 ?_
        obtain ⟨x7, ex7, hf⟩ := lt_some hf
        refine lv_nmi ex7 ?_
        refine lv_istore_n (lv' := [(2, .int x7), (0, .ref (a0 0)), (3, .int z.2.1), (4, .int z.2.2)]) hx hb dX6_chain_55 rfl hl (by decide) rfl (fun ls hl => ?_)
        obtain ⟨x8, ex8, hf⟩ := lt_some hf
        refine lv_iinc (v := x8) (lv' := [(3, .int x8), (2, .int x7), (0, .ref (a0 0)), (4, .int z.2.2)]) hx hb dX6_chain_56 hl (k := 2) rfl (by rw [ex8]; rfl) (by decide) rfl (fun ls hl => ?_)
        refine lv_aload_n hx hb dX6_chain_59 rfl (lv_at hl 2 rfl) ?_
        refine g_get (C := RX6) (T := TX6) (N := 15) hx hb hts iwX6_chain_X6 hown hK hP 0 0 rfl rfl rfl 1 (Nat.le_of_ble_eq_true rfl) (hts _ kX6_chain_2) (fun _ h9 => h9) rfl dX6_chain_60 ?_
        refine lv_bipush (v := (13:Int32)) hx hb dX6_chain_63 (by decide) ?_
        refine lv_iload hx hb dX6_chain_65 (lv_at hl 3 rfl) ?_
        refine lv_iadd hx hb dX6_chain_67 ?_
        obtain ⟨h9, hf⟩ := gi_some hf
        refine g_iald hx hb hK hP 0 1 0 rfl rfl rfl h9 dX6_chain_68 ?_
        obtain ⟨x10, ex10, hf⟩ := lt_some hf
        refine lv_nmi ex10 ?_
        refine lv_istore (lv' := [(4, .int x10), (3, .int x8), (2, .int x7), (0, .ref (a0 0))]) hx hb dX6_chain_69 hl (by decide) rfl (fun ls hl => ?_)
        refine lv_goto (tgt := 33) hx hb dX6_chain_71 (by decide) ?_
        exact ih _ e1 (lz_l hf hz) H locs ls hP hD hS (lv_sub hl [3, 2, 1, 0] rfl) K
set_option maxHeartbeats 4000000 in
set_option maxRecDepth 100000 in
theorem c_X6_chain (l : Launch) (G : uG) (a0 : Nat → Nat) (v0 : MdV) (i1 : Int32) {q : Int32 × (MdV)} (hf : f_X6_chain v0 i1 = some q) : mQ l yX6_chain wsX6_chain ({ frames := 1, cells := 0, slots := 0, locals := 21 } : Room) G [.ref (a0 0), .int i1] [mdW G a0 v0] [mdW G a0 q.2] (qI G [mdW G a0 q.2] q.1) := by
  unfold f_X6_chain at hf
  refine m_of (cc := cX6_chain) (maxL := 5) (ret := (some .int)) (by decide) rfl rfl (Nat.le_of_ble_eq_true rfl) ?_
  intro p e s m args below meth c A ls S hK hA hP hD hS hl
  obtain ⟨hx, hb, hml, hown, hts, hr, hlocks⟩ := id S
  have hl : lv_has ls 5 [(0, .ref (a0 0)), (1, .int i1)] := hl
  refine lv_aload_n hx hb dX6_chain_0 rfl (lv_at hl 0 rfl) ?_
  refine lv_aload_n hx hb dX6_chain_1 rfl (lv_at hl 0 rfl) ?_
  refine lv_iload_n hx hb dX6_chain_2 rfl (lv_at hl 1 rfl) ?_
  obtain ⟨q1, hq1, hf⟩ := bd_some hf
  refine g_callVi S (As := [.int i1]) (gs' := [mdW G a0 v0]) (c_X6_isMember l G a0 v0 i1 hq1) (cwV 1 hts gX6_chain_X6_isMember rfl rfl rfl hd_X6_isMember ⟨Nat.le_of_ble_eq_true rfl, Nat.le_of_ble_eq_true rfl⟩) hK hP hD hS hA (is := [0]) rfl rfl 0 rfl rfl rfl rfl hl.1 rfl (Nat.le_of_ble_eq_true rfl) dX6_chain_3 ⟨Nat.le_of_ble_eq_true rfl, Nat.le_of_ble_eq_true rfl⟩ rfl (fun H locs hP hD hS => ?_)
  refine lv_if_eq (tgt := 13) hx hb dX6_chain_6 (by decide) (fun c2 => ?_) (fun c2 => ?_)
  · rw [if_pos c2] at hf
    refine lv_iconst (v := (1:Int32)) hx hb dX6_chain_13 (by decide) ?_
    obtain ⟨u3, eu3, hf⟩ := lt_some hf
    refine g_put (ty := .int) (C := RX6) (T := TX6) (N := 15) (gs' := [mdW G a0 u3]) hx hb hts iwX6_chain_X6 tyX6 tyX6_ok nmX6 hown hK hP hD hS 0 0 rfl rfl rfl 0 (Nat.le_of_ble_eq_true rfl) (hts _ kX6_chain_0) (fun _ h9 => h9) rfl (by decide +kernel) rfl rfl (Nat.le_of_ble_eq_true rfl) dX6_chain_14 (by rw [eu3]; rfl) (fun H locs hP hD hS => ?_)
    refine lv_aload_n hx hb dX6_chain_17 rfl (lv_at hl 0 rfl) ?_
    refine g_get (C := RX6) (T := TX6) (N := 15) hx hb hts iwX6_chain_X6 hown hK hP 0 0 rfl rfl rfl 0 (Nat.le_of_ble_eq_true rfl) (hts _ kX6_chain_0) (fun _ h9 => h9) rfl dX6_chain_18 ?_
    refine lv_if_le (tgt := 26) hx hb dX6_chain_21 (by decide) (fun c4 => ?_) (fun c4 => ?_)
    · rw [if_pos c4] at hf
      refine lv_iconst (v := (0:Int32)) hx hb dX6_chain_26 (by decide) ?_
      refine lv_istore_n (lv' := [(2, .int (0:Int32)), (0, .ref (a0 0)), (1, .int i1)]) hx hb dX6_chain_27 rfl hl (by decide) rfl (fun ls hl => ?_)
      refine lv_iconst (v := (0:Int32)) hx hb dX6_chain_28 (by decide) ?_
      refine lv_istore_n (lv' := [(3, .int (0:Int32)), (2, .int (0:Int32)), (0, .ref (a0 0)), (1, .int i1)]) hx hb dX6_chain_29 rfl hl (by decide) rfl (fun ls hl => ?_)
      refine lv_iload_n hx hb dX6_chain_30 rfl (lv_at hl 3 rfl) ?_
      refine lv_istore (lv' := [(4, .int i1), (3, .int (0:Int32)), (2, .int (0:Int32)), (0, .ref (a0 0)), (1, .int i1)]) hx hb dX6_chain_31 hl (by decide) rfl (fun ls hl => ?_)
      obtain ⟨e11, he11, hf⟩ := bd_some hf
      refine w_X6_chain_33 (Q := _) S hK hA G a0 u3 FU _ e11 he11 _ _ _ hP hD hS (lv_sub hl [3, 2, 1, 0] rfl) (fun H locs ls hP hD hS hl => ?_)
      refine lv_iload_n hx hb dX6_chain_74 rfl (lv_at hl 2 rfl) ?_
      cases hf
      exact g_iret hx hb hr hlocks hP hS dX6_chain_75
    · rw [if_neg c4] at hf
      refine lv_iconst (v := (0:Int32)) hx hb dX6_chain_24 (by decide) ?_
      cases hf
      exact g_iret hx hb hr hlocks hP hS dX6_chain_25
  · rw [if_neg c2] at hf
    refine lv_iconst (v := (0:Int32)) hx hb dX6_chain_9 (by decide) ?_
    refine lv_goto (tgt := 14) hx hb dX6_chain_10 (by decide) ?_
    obtain ⟨u12, eu12, hf⟩ := lt_some hf
    refine g_put (ty := .int) (C := RX6) (T := TX6) (N := 15) (gs' := [mdW G a0 u12]) hx hb hts iwX6_chain_X6 tyX6 tyX6_ok nmX6 hown hK hP hD hS 0 0 rfl rfl rfl 0 (Nat.le_of_ble_eq_true rfl) (hts _ kX6_chain_0) (fun _ h9 => h9) rfl (by decide +kernel) rfl rfl (Nat.le_of_ble_eq_true rfl) dX6_chain_14 (by rw [eu12]; rfl) (fun H locs hP hD hS => ?_)
    refine lv_aload_n hx hb dX6_chain_17 rfl (lv_at hl 0 rfl) ?_
    refine g_get (C := RX6) (T := TX6) (N := 15) hx hb hts iwX6_chain_X6 hown hK hP 0 0 rfl rfl rfl 0 (Nat.le_of_ble_eq_true rfl) (hts _ kX6_chain_0) (fun _ h9 => h9) rfl dX6_chain_18 ?_
    refine lv_if_le (tgt := 26) hx hb dX6_chain_21 (by decide) (fun c13 => ?_) (fun c13 => ?_)
    · rw [if_pos c13] at hf
      refine lv_iconst (v := (0:Int32)) hx hb dX6_chain_26 (by decide) ?_
      refine lv_istore_n (lv' := [(2, .int (0:Int32)), (0, .ref (a0 0)), (1, .int i1)]) hx hb dX6_chain_27 rfl hl (by decide) rfl (fun ls hl => ?_)
      refine lv_iconst (v := (0:Int32)) hx hb dX6_chain_28 (by decide) ?_
      refine lv_istore_n (lv' := [(3, .int (0:Int32)), (2, .int (0:Int32)), (0, .ref (a0 0)), (1, .int i1)]) hx hb dX6_chain_29 rfl hl (by decide) rfl (fun ls hl => ?_)
      refine lv_iload_n hx hb dX6_chain_30 rfl (lv_at hl 3 rfl) ?_
      refine lv_istore (lv' := [(4, .int i1), (3, .int (0:Int32)), (2, .int (0:Int32)), (0, .ref (a0 0)), (1, .int i1)]) hx hb dX6_chain_31 hl (by decide) rfl (fun ls hl => ?_)
      obtain ⟨e14, he14, hf⟩ := bd_some hf
      refine w_X6_chain_33 (Q := _) S hK hA G a0 u12 FU _ e14 he14 _ _ _ hP hD hS (lv_sub hl [3, 2, 1, 0] rfl) (fun H locs ls hP hD hS hl => ?_)
      refine lv_iload_n hx hb dX6_chain_74 rfl (lv_at hl 2 rfl) ?_
      cases hf
      exact g_iret hx hb hr hlocks hP hS dX6_chain_75
    · rw [if_neg c13] at hf
      refine lv_iconst (v := (0:Int32)) hx hb dX6_chain_24 (by decide) ?_
      cases hf
      exact g_iret hx hb hr hlocks hP hS dX6_chain_25
theorem kX6_bitsOf_0 : Cond.constantFloat RX6 137 (1258291200) ∈ wsX6_bitsOf := (List.mem_cons_of_mem _ (List.mem_of_getElem? (i := 0) rfl))
theorem kX6_bitsOf_1 : Cond.constant RX6 138 (8388608) ∈ wsX6_bitsOf := (List.mem_cons_of_mem _ (List.mem_of_getElem? (i := 1) rfl))
set_option maxHeartbeats 4000000 in
set_option maxRecDepth 100000 in
theorem w_X6_bitsOf_13 {p : Program} {l : Launch} {e : Env} {s : State} {m : MethodId} {args : Array Value} {below : List Frame} {meth : Method} {c : Code} {A : Nat → Prop} {Q : State → Prop} (S : Ev p s m args meth c cX6_bitsOf 4 (some .int) yX6_bitsOf.cls wsX6_bitsOf) {G : uG} (hK : kK G s) (hA : ∀ q, s.heap.size ≤ q → A q) (_ : uG) : ∀ (n : Nat) (z : (UInt32 × Int32)) (e1 : (UInt32 × Int32)), lp (b_X6_bitsOf_13) n z = some e1 → ∀ (H : Heap) (locs : List Loc) (ls : Array Slot), gP G [] H → gD A [] → va_S A s.heap H locs → lv_has ls 4 [(1, .float z.1), (2, .int z.2)] → (∀ (H : Heap) (locs : List Loc) (ls : Array Slot), gP G [] H → gD A [] → va_S A s.heap H locs → lv_has ls 4 [(1, .float e1.1), (2, .int e1.2)] → W p l e ({ frames := 0, cells := 0, slots := 0, locals := 0 } : Room) s m args below meth c H locs 0 0 Q (F0 m 29 ls [])) → W p l e ({ frames := 0, cells := 0, slots := 0, locals := 0 } : Room) s m args below meth c H locs 0 0 Q (F0 m 13 ls []) := by
  obtain ⟨hx, hb, hml, hown, hts, hr, hlocks⟩ := id S
  intro n
  induction n with
  | zero => intro z e1 h; cases h
  | succ n ih =>
    intro z e1 hlp H locs ls hP hD hS hl K
    obtain ⟨z9, hf, hz⟩ := lp_s hlp
    unfold b_X6_bitsOf_13 at hf
    refine lv_fload_n hx hb dX6_bitsOf_13 rfl (lv_at hl 0 rfl) ?_
    refine lv_fconst2 hx hb dX6_bitsOf_14 ?_
    refine lv_fcmp hx hb dX6_bitsOf_15 ?_
    refine lv_if_lt (tgt := 29) hx hb dX6_bitsOf_16 (by decide) (fun c2 => ?_) (fun c2 => ?_)
    · rw [if_pos c2] at hf
      have he := lz_r hf hz
      subst he
      exact K H locs ls hP hD hS (lv_sub hl [0, 1] rfl)
    · rw [if_neg c2] at hf
      refine lv_fload_n hx hb dX6_bitsOf_19 rfl (lv_at hl 0 rfl) ?_
      refine lv_fconst2 hx hb dX6_bitsOf_20 ?_
      obtain ⟨h3, hf⟩ := gnan_some hf
      refine lv_fdiv hx hb dX6_bitsOf_21 h3 ?_
      obtain ⟨x4, ex4, hf⟩ := lt_some hf
      refine lv_nmf ex4 ?_
      refine lv_fstore_n (lv' := [(1, .float x4), (2, .int z.2)]) hx hb dX6_bitsOf_22 rfl hl (by decide) rfl (fun ls hl => ?_)
      obtain ⟨x5, ex5, hf⟩ := lt_some hf
      refine lv_iinc (v := x5) (lv' := [(2, .int x5), (1, .float x4)]) hx hb dX6_bitsOf_23 hl (k := 1) rfl (by rw [ex5]; rfl) (by decide) rfl (fun ls hl => ?_)
      refine lv_goto (tgt := 13) hx hb dX6_bitsOf_26 (by decide) ?_
      exact ih _ e1 (lz_l hf hz) H locs ls hP hD hS (lv_sub hl [1, 0] rfl) K
set_option maxHeartbeats 4000000 in
set_option maxRecDepth 100000 in
theorem w_X6_bitsOf_29 {p : Program} {l : Launch} {e : Env} {s : State} {m : MethodId} {args : Array Value} {below : List Frame} {meth : Method} {c : Code} {A : Nat → Prop} {Q : State → Prop} (S : Ev p s m args meth c cX6_bitsOf 4 (some .int) yX6_bitsOf.cls wsX6_bitsOf) {G : uG} (hK : kK G s) (hA : ∀ q, s.heap.size ≤ q → A q) (_ : uG) : ∀ (n : Nat) (z : (UInt32 × Int32)) (e1 : (UInt32 × Int32)), lp (b_X6_bitsOf_29) n z = some e1 → ∀ (H : Heap) (locs : List Loc) (ls : Array Slot), gP G [] H → gD A [] → va_S A s.heap H locs → lv_has ls 4 [(1, .float z.1), (2, .int z.2)] → (∀ (H : Heap) (locs : List Loc) (ls : Array Slot), gP G [] H → gD A [] → va_S A s.heap H locs → lv_has ls 4 [(1, .float e1.1), (2, .int e1.2)] → W p l e ({ frames := 0, cells := 0, slots := 0, locals := 0 } : Room) s m args below meth c H locs 0 0 Q (F0 m 45 ls [])) → W p l e ({ frames := 0, cells := 0, slots := 0, locals := 0 } : Room) s m args below meth c H locs 0 0 Q (F0 m 29 ls []) := by
  obtain ⟨hx, hb, hml, hown, hts, hr, hlocks⟩ := id S
  intro n
  induction n with
  | zero => intro z e1 h; cases h
  | succ n ih =>
    intro z e1 hlp H locs ls hP hD hS hl K
    obtain ⟨z9, hf, hz⟩ := lp_s hlp
    unfold b_X6_bitsOf_29 at hf
    refine lv_fload_n hx hb dX6_bitsOf_29 rfl (lv_at hl 0 rfl) ?_
    refine lv_fconst1 hx hb dX6_bitsOf_30 ?_
    refine lv_fcmp hx hb dX6_bitsOf_31 ?_
    refine lv_if_ge (tgt := 45) hx hb dX6_bitsOf_32 (by decide) (fun c7 => ?_) (fun c7 => ?_)
    · rw [if_pos c7] at hf
      have he := lz_r hf hz
      subst he
      exact K H locs ls hP hD hS (lv_sub hl [0, 1] rfl)
    · rw [if_neg c7] at hf
      refine lv_fload_n hx hb dX6_bitsOf_35 rfl (lv_at hl 0 rfl) ?_
      refine lv_fconst2 hx hb dX6_bitsOf_36 ?_
      obtain ⟨h8, hf⟩ := gnan_some hf
      refine lv_fmul hx hb dX6_bitsOf_37 h8 ?_
      obtain ⟨x9, ex9, hf⟩ := lt_some hf
      refine lv_nmf ex9 ?_
      refine lv_fstore_n (lv' := [(1, .float x9), (2, .int z.2)]) hx hb dX6_bitsOf_38 rfl hl (by decide) rfl (fun ls hl => ?_)
      obtain ⟨x10, ex10, hf⟩ := lt_some hf
      refine lv_iinc (v := x10) (lv' := [(2, .int x10), (1, .float x9)]) hx hb dX6_bitsOf_39 hl (k := 1) rfl (by rw [ex10]; rfl) (by decide) rfl (fun ls hl => ?_)
      refine lv_goto (tgt := 29) hx hb dX6_bitsOf_42 (by decide) ?_
      exact ih _ e1 (lz_l hf hz) H locs ls hP hD hS (lv_sub hl [1, 0] rfl) K
set_option maxHeartbeats 4000000 in
set_option maxRecDepth 100000 in
theorem c_X6_bitsOf (l : Launch) (G : uG) (i0 : UInt32) {q : Int32 × (Unit)} (hf : f_X6_bitsOf i0 = some q) : mQ l yX6_bitsOf wsX6_bitsOf ({ frames := 0, cells := 0, slots := 0, locals := 0 } : Room) G [.float i0] [] [] (qI G [] q.1) := by
  unfold f_X6_bitsOf at hf
  refine m_of (cc := cX6_bitsOf) (maxL := 4) (ret := (some .int)) (by decide) rfl rfl (Nat.le_of_ble_eq_true rfl) ?_
  intro p e s m args below meth c A ls S hK hA hP hD hS hl
  obtain ⟨hx, hb, hml, hown, hts, hr, hlocks⟩ := id S
  have hl : lv_has ls 4 [(0, .float i0)] := hl
  refine lv_fload_n hx hb dX6_bitsOf_0 rfl (lv_at hl 0 rfl) ?_
  refine lv_fconst0 hx hb dX6_bitsOf_1 ?_
  refine lv_fcmp hx hb dX6_bitsOf_2 ?_
  refine lv_if_ne (tgt := 8) hx hb dX6_bitsOf_3 (by decide) (fun c1 => ?_) (fun c1 => ?_)
  · rw [if_neg c1] at hf
    refine lv_fload_n hx hb dX6_bitsOf_8 rfl (lv_at hl 0 rfl) ?_
    refine lv_fstore_n (lv' := [(1, .float i0), (0, .float i0)]) hx hb dX6_bitsOf_9 rfl hl (by decide) rfl (fun ls hl => ?_)
    refine lv_bipush (v := (127:Int32)) hx hb dX6_bitsOf_10 (by decide) ?_
    refine lv_istore_n (lv' := [(2, .int (127:Int32)), (1, .float i0), (0, .float i0)]) hx hb dX6_bitsOf_12 rfl hl (by decide) rfl (fun ls hl => ?_)
    obtain ⟨e6, he6, hf⟩ := bd_some hf
    refine w_X6_bitsOf_13 (Q := _) S hK hA G FU _ e6 he6 _ _ _ hP hD hS (lv_sub hl [1, 0] rfl) (fun H locs ls hP hD hS hl => ?_)
    obtain ⟨e11, he11, hf⟩ := bd_some hf
    refine w_X6_bitsOf_29 (Q := _) S hK hA G FU _ e11 he11 _ _ _ hP hD hS (lv_sub hl [0, 1] rfl) (fun H locs ls hP hD hS hl => ?_)
    refine lv_fload_n hx hb dX6_bitsOf_45 rfl (lv_at hl 0 rfl) ?_
    refine lv_ldcf (v := (1258291200:UInt32)) hx hb hown (hts _ kX6_bitsOf_0) dX6_bitsOf_46 ?_
    obtain ⟨h12, hf⟩ := gnan_some hf
    refine lv_fmul hx hb dX6_bitsOf_48 h12 ?_
    refine lv_f2i hx hb dX6_bitsOf_49 ?_
    refine lv_ldc (v := (8388608:Int32)) hx hb hown (hts _ kX6_bitsOf_1) dX6_bitsOf_50 ?_
    refine lv_isub hx hb dX6_bitsOf_52 ?_
    obtain ⟨x13, ex13, hf⟩ := lt_some hf
    refine lv_nmi ex13 ?_
    refine lv_istore_n (lv' := [(3, .int x13), (1, .float e11.1), (2, .int e11.2)]) hx hb dX6_bitsOf_53 rfl hl (by decide) rfl (fun ls hl => ?_)
    refine lv_iload_n hx hb dX6_bitsOf_54 rfl (lv_at hl 2 rfl) ?_
    refine lv_ldc (v := (8388608:Int32)) hx hb hown (hts _ kX6_bitsOf_1) dX6_bitsOf_55 ?_
    refine lv_imul hx hb dX6_bitsOf_57 ?_
    refine lv_iload_n hx hb dX6_bitsOf_58 rfl (lv_at hl 0 rfl) ?_
    refine lv_iadd hx hb dX6_bitsOf_59 ?_
    cases hf
    exact g_iret hx hb hr hlocks hP hS dX6_bitsOf_60
  · rw [if_pos c1] at hf
    refine lv_iconst (v := (0:Int32)) hx hb dX6_bitsOf_6 (by decide) ?_
    cases hf
    exact g_iret hx hb hr hlocks hP hS dX6_bitsOf_7
theorem kX6_rate_0 : Cond.fieldLink RX6 38 "SavingsCircleModel" "thrown" "I" ∈ wsX6_rate := (List.mem_cons_of_mem _ (List.mem_append_left _ (List.mem_of_getElem? (i := 0) rfl)))
theorem kX6_rate_1 : Cond.fieldLink RX6 7 "SavingsCircleModel" "z" "[I" ∈ wsX6_rate := (List.mem_cons_of_mem _ (List.mem_append_left _ (List.mem_of_getElem? (i := 1) rfl)))
theorem iwX6_rate_X6 : ∀ w ∈ wsX60, w ∈ wsX6_rate := fun w h => (List.mem_cons_of_mem _ (List.mem_append_right _ h))
set_option maxHeartbeats 4000000 in
set_option maxRecDepth 100000 in
theorem c_X6_rate (l : Launch) (G : uG) (a0 : Nat → Nat) (v0 : MdV) (i1 : Int32) {q : Int32 × (MdV)} (hf : f_X6_rate v0 i1 = some q) : mQ l yX6_rate wsX6_rate ({ frames := 1, cells := 0, slots := 0, locals := 23 } : Room) G [.ref (a0 0), .int i1] [mdW G a0 v0] [mdW G a0 q.2] (qI G [mdW G a0 q.2] q.1) := by
  unfold f_X6_rate at hf
  refine m_of (cc := cX6_rate) (maxL := 6) (ret := (some .int)) (by decide) rfl rfl (Nat.le_of_ble_eq_true rfl) ?_
  intro p e s m args below meth c A ls S hK hA hP hD hS hl
  obtain ⟨hx, hb, hml, hown, hts, hr, hlocks⟩ := id S
  have hl : lv_has ls 6 [(0, .ref (a0 0)), (1, .int i1)] := hl
  refine lv_aload_n hx hb dX6_rate_0 rfl (lv_at hl 0 rfl) ?_
  refine lv_aload_n hx hb dX6_rate_1 rfl (lv_at hl 0 rfl) ?_
  refine lv_iload_n hx hb dX6_rate_2 rfl (lv_at hl 1 rfl) ?_
  obtain ⟨q1, hq1, hf⟩ := bd_some hf
  refine g_callVi S (As := [.int i1]) (gs' := [mdW G a0 v0]) (c_X6_isMember l G a0 v0 i1 hq1) (cwV 1 hts gX6_rate_X6_isMember rfl rfl rfl hd_X6_isMember ⟨Nat.le_of_ble_eq_true rfl, Nat.le_of_ble_eq_true rfl⟩) hK hP hD hS hA (is := [0]) rfl rfl 0 rfl rfl rfl rfl hl.1 rfl (Nat.le_of_ble_eq_true rfl) dX6_rate_3 ⟨Nat.le_of_ble_eq_true rfl, Nat.le_of_ble_eq_true rfl⟩ rfl (fun H locs hP hD hS => ?_)
  refine lv_if_eq (tgt := 13) hx hb dX6_rate_6 (by decide) (fun c2 => ?_) (fun c2 => ?_)
  · rw [if_pos c2] at hf
    refine lv_iconst (v := (1:Int32)) hx hb dX6_rate_13 (by decide) ?_
    obtain ⟨u3, eu3, hf⟩ := lt_some hf
    refine g_put (ty := .int) (C := RX6) (T := TX6) (N := 15) (gs' := [mdW G a0 u3]) hx hb hts iwX6_rate_X6 tyX6 tyX6_ok nmX6 hown hK hP hD hS 0 0 rfl rfl rfl 0 (Nat.le_of_ble_eq_true rfl) (hts _ kX6_rate_0) (fun _ h9 => h9) rfl (by decide +kernel) rfl rfl (Nat.le_of_ble_eq_true rfl) dX6_rate_14 (by rw [eu3]; rfl) (fun H locs hP hD hS => ?_)
    refine lv_aload_n hx hb dX6_rate_17 rfl (lv_at hl 0 rfl) ?_
    refine g_get (C := RX6) (T := TX6) (N := 15) hx hb hts iwX6_rate_X6 hown hK hP 0 0 rfl rfl rfl 0 (Nat.le_of_ble_eq_true rfl) (hts _ kX6_rate_0) (fun _ h9 => h9) rfl dX6_rate_18 ?_
    refine lv_if_le (tgt := 26) hx hb dX6_rate_21 (by decide) (fun c4 => ?_) (fun c4 => ?_)
    · rw [if_pos c4] at hf
      refine lv_aload_n hx hb dX6_rate_26 rfl (lv_at hl 0 rfl) ?_
      refine g_get (C := RX6) (T := TX6) (N := 15) hx hb hts iwX6_rate_X6 hown hK hP 0 0 rfl rfl rfl 1 (Nat.le_of_ble_eq_true rfl) (hts _ kX6_rate_1) (fun _ h9 => h9) rfl dX6_rate_27 ?_
      refine lv_bipush (v := (69:Int32)) hx hb dX6_rate_30 (by decide) ?_
      refine lv_iload_n hx hb dX6_rate_32 rfl (lv_at hl 1 rfl) ?_
      refine lv_iadd hx hb dX6_rate_33 ?_
      obtain ⟨h5, hf⟩ := gi_some hf
      refine g_iald hx hb hK hP 0 1 0 rfl rfl rfl h5 dX6_rate_34 ?_
      refine lv_aload_n hx hb dX6_rate_35 rfl (lv_at hl 0 rfl) ?_
      refine g_get (C := RX6) (T := TX6) (N := 15) hx hb hts iwX6_rate_X6 hown hK hP 0 0 rfl rfl rfl 1 (Nat.le_of_ble_eq_true rfl) (hts _ kX6_rate_1) (fun _ h9 => h9) rfl dX6_rate_36 ?_
      refine lv_bipush (v := (77:Int32)) hx hb dX6_rate_39 (by decide) ?_
      refine lv_iload_n hx hb dX6_rate_41 rfl (lv_at hl 1 rfl) ?_
      refine lv_iadd hx hb dX6_rate_42 ?_
      obtain ⟨h6, hf⟩ := gi_some hf
      refine g_iald hx hb hK hP 0 1 0 rfl rfl rfl h6 dX6_rate_43 ?_
      refine lv_iadd hx hb dX6_rate_44 ?_
      obtain ⟨x7, ex7, hf⟩ := lt_some hf
      refine lv_nmi ex7 ?_
      refine lv_istore_n (lv' := [(2, .int x7), (0, .ref (a0 0)), (1, .int i1)]) hx hb dX6_rate_45 rfl hl (by decide) rfl (fun ls hl => ?_)
      refine lv_aload_n hx hb dX6_rate_46 rfl (lv_at hl 1 rfl) ?_
      refine g_get (C := RX6) (T := TX6) (N := 15) hx hb hts iwX6_rate_X6 hown hK hP 0 0 rfl rfl rfl 1 (Nat.le_of_ble_eq_true rfl) (hts _ kX6_rate_1) (fun _ h9 => h9) rfl dX6_rate_47 ?_
      refine lv_bipush (v := (53:Int32)) hx hb dX6_rate_50 (by decide) ?_
      refine lv_iload_n hx hb dX6_rate_52 rfl (lv_at hl 2 rfl) ?_
      refine lv_iadd hx hb dX6_rate_53 ?_
      obtain ⟨h8, hf⟩ := gi_some hf
      refine g_iald hx hb hK hP 0 1 0 rfl rfl rfl h8 dX6_rate_54 ?_
      refine lv_aload_n hx hb dX6_rate_55 rfl (lv_at hl 1 rfl) ?_
      refine g_get (C := RX6) (T := TX6) (N := 15) hx hb hts iwX6_rate_X6 hown hK hP 0 0 rfl rfl rfl 1 (Nat.le_of_ble_eq_true rfl) (hts _ kX6_rate_1) (fun _ h9 => h9) rfl dX6_rate_56 ?_
      refine lv_bipush (v := (61:Int32)) hx hb dX6_rate_59 (by decide) ?_
      refine lv_iload_n hx hb dX6_rate_61 rfl (lv_at hl 2 rfl) ?_
      refine lv_iadd hx hb dX6_rate_62 ?_
      obtain ⟨h9, hf⟩ := gi_some hf
      refine g_iald hx hb hK hP 0 1 0 rfl rfl rfl h9 dX6_rate_63 ?_
      refine lv_iadd hx hb dX6_rate_64 ?_
      obtain ⟨x10, ex10, hf⟩ := lt_some hf
      refine lv_nmi ex10 ?_
      refine lv_istore_n (lv' := [(3, .int x10), (2, .int x7), (0, .ref (a0 0)), (1, .int i1)]) hx hb dX6_rate_65 rfl hl (by decide) rfl (fun ls hl => ?_)
      refine lv_iload_n hx hb dX6_rate_66 rfl (lv_at hl 0 rfl) ?_
      refine lv_if_ne (tgt := 72) hx hb dX6_rate_67 (by decide) (fun c11 => ?_) (fun c11 => ?_)
      · rw [if_neg c11] at hf
        refine lv_iload_n hx hb dX6_rate_72 rfl (lv_at hl 1 rfl) ?_
        refine lv_i2f hx hb dX6_rate_73 ?_
        obtain ⟨x12, ex12, hf⟩ := lt_some hf
        refine lv_nmf ex12 ?_
        refine lv_fstore (lv' := [(4, .float x12), (3, .int x10), (2, .int x7), (0, .ref (a0 0)), (1, .int i1)]) hx hb dX6_rate_74 hl (by decide) rfl (fun ls hl => ?_)
        refine lv_iload_n hx hb dX6_rate_76 rfl (lv_at hl 1 rfl) ?_
        refine lv_i2f hx hb dX6_rate_77 ?_
        obtain ⟨x13, ex13, hf⟩ := lt_some hf
        refine lv_nmf ex13 ?_
        refine lv_fstore (lv' := [(5, .float x13), (4, .float x12), (3, .int x10), (2, .int x7), (0, .ref (a0 0)), (1, .int i1)]) hx hb dX6_rate_78 hl (by decide) rfl (fun ls hl => ?_)
        refine lv_fload hx hb dX6_rate_80 (lv_at hl 1 rfl) ?_
        refine lv_fload hx hb dX6_rate_82 (lv_at hl 0 rfl) ?_
        obtain ⟨h14, hf⟩ := gnan_some hf
        refine lv_fdiv hx hb dX6_rate_84 h14 ?_
        obtain ⟨q15, hq15, hf⟩ := bd_some hf
        refine g_callSi S (As := [.float (FP.fdiv x12 x13)]) (gs' := [mdW G a0 u3]) (c_X6_bitsOf l G (FP.fdiv x12 x13) hq15) (va_cwS 1 hts gX6_rate_X6_bitsOf rfl rfl rfl hd_X6_bitsOf.2 ⟨Nat.le_of_ble_eq_true rfl, Nat.le_of_ble_eq_true rfl⟩) hK hP hD hS hA (is := []) rfl rfl rfl hl.1 rfl (Nat.le_of_ble_eq_true rfl) dX6_rate_85 ⟨Nat.le_of_ble_eq_true rfl, Nat.le_of_ble_eq_true rfl⟩ rfl (fun H locs hP hD hS => ?_)
        cases hf
        exact g_iret hx hb hr hlocks hP hS dX6_rate_88
      · rw [if_pos c11] at hf
        refine lv_iconst (v := (0:Int32)) hx hb dX6_rate_70 (by decide) ?_
        cases hf
        exact g_iret hx hb hr hlocks hP hS dX6_rate_71
    · rw [if_neg c4] at hf
      refine lv_iconst (v := (0:Int32)) hx hb dX6_rate_24 (by decide) ?_
      cases hf
      exact g_iret hx hb hr hlocks hP hS dX6_rate_25
  · rw [if_neg c2] at hf
    refine lv_iconst (v := (0:Int32)) hx hb dX6_rate_9 (by decide) ?_
    refine lv_goto (tgt := 14) hx hb dX6_rate_10 (by decide) ?_
    obtain ⟨u16, eu16, hf⟩ := lt_some hf
    refine g_put (ty := .int) (C := RX6) (T := TX6) (N := 15) (gs' := [mdW G a0 u16]) hx hb hts iwX6_rate_X6 tyX6 tyX6_ok nmX6 hown hK hP hD hS 0 0 rfl rfl rfl 0 (Nat.le_of_ble_eq_true rfl) (hts _ kX6_rate_0) (fun _ h9 => h9) rfl (by decide +kernel) rfl rfl (Nat.le_of_ble_eq_true rfl) dX6_rate_14 (by rw [eu16]; rfl) (fun H locs hP hD hS => ?_)
    refine lv_aload_n hx hb dX6_rate_17 rfl (lv_at hl 0 rfl) ?_
    refine g_get (C := RX6) (T := TX6) (N := 15) hx hb hts iwX6_rate_X6 hown hK hP 0 0 rfl rfl rfl 0 (Nat.le_of_ble_eq_true rfl) (hts _ kX6_rate_0) (fun _ h9 => h9) rfl dX6_rate_18 ?_
    refine lv_if_le (tgt := 26) hx hb dX6_rate_21 (by decide) (fun c17 => ?_) (fun c17 => ?_)
    · rw [if_pos c17] at hf
      refine lv_aload_n hx hb dX6_rate_26 rfl (lv_at hl 0 rfl) ?_
      refine g_get (C := RX6) (T := TX6) (N := 15) hx hb hts iwX6_rate_X6 hown hK hP 0 0 rfl rfl rfl 1 (Nat.le_of_ble_eq_true rfl) (hts _ kX6_rate_1) (fun _ h9 => h9) rfl dX6_rate_27 ?_
      refine lv_bipush (v := (69:Int32)) hx hb dX6_rate_30 (by decide) ?_
      refine lv_iload_n hx hb dX6_rate_32 rfl (lv_at hl 1 rfl) ?_
      refine lv_iadd hx hb dX6_rate_33 ?_
      obtain ⟨h18, hf⟩ := gi_some hf
      refine g_iald hx hb hK hP 0 1 0 rfl rfl rfl h18 dX6_rate_34 ?_
      refine lv_aload_n hx hb dX6_rate_35 rfl (lv_at hl 0 rfl) ?_
      refine g_get (C := RX6) (T := TX6) (N := 15) hx hb hts iwX6_rate_X6 hown hK hP 0 0 rfl rfl rfl 1 (Nat.le_of_ble_eq_true rfl) (hts _ kX6_rate_1) (fun _ h9 => h9) rfl dX6_rate_36 ?_
      refine lv_bipush (v := (77:Int32)) hx hb dX6_rate_39 (by decide) ?_
      refine lv_iload_n hx hb dX6_rate_41 rfl (lv_at hl 1 rfl) ?_
      refine lv_iadd hx hb dX6_rate_42 ?_
      obtain ⟨h19, hf⟩ := gi_some hf
      refine g_iald hx hb hK hP 0 1 0 rfl rfl rfl h19 dX6_rate_43 ?_
      refine lv_iadd hx hb dX6_rate_44 ?_
      obtain ⟨x20, ex20, hf⟩ := lt_some hf
      refine lv_nmi ex20 ?_
      refine lv_istore_n (lv' := [(2, .int x20), (0, .ref (a0 0)), (1, .int i1)]) hx hb dX6_rate_45 rfl hl (by decide) rfl (fun ls hl => ?_)
      refine lv_aload_n hx hb dX6_rate_46 rfl (lv_at hl 1 rfl) ?_
      refine g_get (C := RX6) (T := TX6) (N := 15) hx hb hts iwX6_rate_X6 hown hK hP 0 0 rfl rfl rfl 1 (Nat.le_of_ble_eq_true rfl) (hts _ kX6_rate_1) (fun _ h9 => h9) rfl dX6_rate_47 ?_
      refine lv_bipush (v := (53:Int32)) hx hb dX6_rate_50 (by decide) ?_
      refine lv_iload_n hx hb dX6_rate_52 rfl (lv_at hl 2 rfl) ?_
      refine lv_iadd hx hb dX6_rate_53 ?_
      obtain ⟨h21, hf⟩ := gi_some hf
      refine g_iald hx hb hK hP 0 1 0 rfl rfl rfl h21 dX6_rate_54 ?_
      refine lv_aload_n hx hb dX6_rate_55 rfl (lv_at hl 1 rfl) ?_
      refine g_get (C := RX6) (T := TX6) (N := 15) hx hb hts iwX6_rate_X6 hown hK hP 0 0 rfl rfl rfl 1 (Nat.le_of_ble_eq_true rfl) (hts _ kX6_rate_1) (fun _ h9 => h9) rfl dX6_rate_56 ?_
      refine lv_bipush (v := (61:Int32)) hx hb dX6_rate_59 (by decide) ?_
      refine lv_iload_n hx hb dX6_rate_61 rfl (lv_at hl 2 rfl) ?_
      refine lv_iadd hx hb dX6_rate_62 ?_
      obtain ⟨h22, hf⟩ := gi_some hf
      refine g_iald hx hb hK hP 0 1 0 rfl rfl rfl h22 dX6_rate_63 ?_
      refine lv_iadd hx hb dX6_rate_64 ?_
      obtain ⟨x23, ex23, hf⟩ := lt_some hf
      refine lv_nmi ex23 ?_
      refine lv_istore_n (lv' := [(3, .int x23), (2, .int x20), (0, .ref (a0 0)), (1, .int i1)]) hx hb dX6_rate_65 rfl hl (by decide) rfl (fun ls hl => ?_)
      refine lv_iload_n hx hb dX6_rate_66 rfl (lv_at hl 0 rfl) ?_
      refine lv_if_ne (tgt := 72) hx hb dX6_rate_67 (by decide) (fun c24 => ?_) (fun c24 => ?_)
      · rw [if_neg c24] at hf
        refine lv_iload_n hx hb dX6_rate_72 rfl (lv_at hl 1 rfl) ?_
        refine lv_i2f hx hb dX6_rate_73 ?_
        obtain ⟨x25, ex25, hf⟩ := lt_some hf
        refine lv_nmf ex25 ?_
        refine lv_fstore (lv' := [(4, .float x25), (3, .int x23), (2, .int x20), (0, .ref (a0 0)), (1, .int i1)]) hx hb dX6_rate_74 hl (by decide) rfl (fun ls hl => ?_)
        refine lv_iload_n hx hb dX6_rate_76 rfl (lv_at hl 1 rfl) ?_
        refine lv_i2f hx hb dX6_rate_77 ?_
        obtain ⟨x26, ex26, hf⟩ := lt_some hf
        refine lv_nmf ex26 ?_
        refine lv_fstore (lv' := [(5, .float x26), (4, .float x25), (3, .int x23), (2, .int x20), (0, .ref (a0 0)), (1, .int i1)]) hx hb dX6_rate_78 hl (by decide) rfl (fun ls hl => ?_)
        refine lv_fload hx hb dX6_rate_80 (lv_at hl 1 rfl) ?_
        refine lv_fload hx hb dX6_rate_82 (lv_at hl 0 rfl) ?_
        obtain ⟨h27, hf⟩ := gnan_some hf
        refine lv_fdiv hx hb dX6_rate_84 h27 ?_
        obtain ⟨q28, hq28, hf⟩ := bd_some hf
        refine g_callSi S (As := [.float (FP.fdiv x25 x26)]) (gs' := [mdW G a0 u16]) (c_X6_bitsOf l G (FP.fdiv x25 x26) hq28) (va_cwS 1 hts gX6_rate_X6_bitsOf rfl rfl rfl hd_X6_bitsOf.2 ⟨Nat.le_of_ble_eq_true rfl, Nat.le_of_ble_eq_true rfl⟩) hK hP hD hS hA (is := []) rfl rfl rfl hl.1 rfl (Nat.le_of_ble_eq_true rfl) dX6_rate_85 ⟨Nat.le_of_ble_eq_true rfl, Nat.le_of_ble_eq_true rfl⟩ rfl (fun H locs hP hD hS => ?_)
        cases hf
        exact g_iret hx hb hr hlocks hP hS dX6_rate_88
      · rw [if_pos c24] at hf
        refine lv_iconst (v := (0:Int32)) hx hb dX6_rate_70 (by decide) ?_
        cases hf
        exact g_iret hx hb hr hlocks hP hS dX6_rate_71
    · rw [if_neg c17] at hf
      refine lv_iconst (v := (0:Int32)) hx hb dX6_rate_24 (by decide) ?_
      cases hf
      exact g_iret hx hb hr hlocks hP hS dX6_rate_25
theorem kX6_addMember_0 : Cond.fieldLink RX6 7 "SavingsCircleModel" "z" "[I" ∈ wsX6_addMember := (List.mem_cons_of_mem _ (List.mem_append_left _ (List.mem_of_getElem? (i := 0) rfl)))
theorem kX6_addMember_1 : Cond.fieldLink RX6 38 "SavingsCircleModel" "thrown" "I" ∈ wsX6_addMember := (List.mem_cons_of_mem _ (List.mem_append_left _ (List.mem_of_getElem? (i := 1) rfl)))
theorem kX6_addMember_2 : Cond.constant RX6 49 (-99999) ∈ wsX6_addMember := (List.mem_cons_of_mem _ (List.mem_append_left _ (List.mem_of_getElem? (i := 2) rfl)))
theorem iwX6_addMember_X6 : ∀ w ∈ wsX60, w ∈ wsX6_addMember := fun w h => (List.mem_cons_of_mem _ (List.mem_append_right _ h))
set_option maxHeartbeats 4000000 in
set_option maxRecDepth 100000 in
theorem c_X6_addMember (l : Launch) (G : uG) (a0 : Nat → Nat) (v0 : MdV) (i1 : Int32) {q : Int32 × (MdV)} (hf : f_X6_addMember v0 i1 = some q) : mQ l yX6_addMember wsX6_addMember ({ frames := 1, cells := 0, slots := 0, locals := 22 } : Room) G [.ref (a0 0), .int i1] [mdW G a0 v0] [mdW G a0 q.2] (qI G [mdW G a0 q.2] q.1) := by
  unfold f_X6_addMember at hf
  refine m_of (cc := cX6_addMember) (maxL := 3) (ret := (some .int)) (by decide) rfl rfl (Nat.le_of_ble_eq_true rfl) ?_
  intro p e s m args below meth c A ls S hK hA hP hD hS hl
  obtain ⟨hx, hb, hml, hown, hts, hr, hlocks⟩ := id S
  have hl : lv_has ls 3 [(0, .ref (a0 0)), (1, .int i1)] := hl
  refine lv_aload_n hx hb dX6_addMember_0 rfl (lv_at hl 0 rfl) ?_
  refine lv_iload_n hx hb dX6_addMember_1 rfl (lv_at hl 1 rfl) ?_
  refine lv_iconst (v := (0:Int32)) hx hb dX6_addMember_2 (by decide) ?_
  refine lv_sipush (v := (999:Int32)) hx hb dX6_addMember_3 (by decide) ?_
  obtain ⟨q1, hq1, hf⟩ := bd_some hf
  refine g_callSi S (As := [.int i1, .int (0:Int32), .int (999:Int32)]) (gs' := [mdW G a0 v0]) (c_X6_in l G i1 (0:Int32) (999:Int32) hq1) (va_cwS 3 hts gX6_addMember_X6_in rfl rfl rfl hd_X6_in.2 ⟨Nat.le_of_ble_eq_true rfl, Nat.le_of_ble_eq_true rfl⟩) hK hP hD hS hA (is := []) rfl rfl rfl hl.1 rfl (Nat.le_of_ble_eq_true rfl) dX6_addMember_6 ⟨Nat.le_of_ble_eq_true rfl, Nat.le_of_ble_eq_true rfl⟩ rfl (fun H locs hP hD hS => ?_)
  refine lv_if_ne (tgt := 16) hx hb dX6_addMember_9 (by decide) (fun c2 => ?_) (fun c2 => ?_)
  · rw [if_neg c2] at hf
    refine lv_aload_n hx hb dX6_addMember_16 rfl (lv_at hl 0 rfl) ?_
    refine g_get (C := RX6) (T := TX6) (N := 15) hx hb hts iwX6_addMember_X6 hown hK hP 0 0 rfl rfl rfl 1 (Nat.le_of_ble_eq_true rfl) (hts _ kX6_addMember_0) (fun _ h9 => h9) rfl dX6_addMember_17 ?_
    refine lv_iconst (v := (0:Int32)) hx hb dX6_addMember_20 (by decide) ?_
    obtain ⟨h3, hf⟩ := gi_some hf
    refine g_iald hx hb hK hP 0 1 0 rfl rfl rfl h3 dX6_addMember_21 ?_
    refine lv_bipush (v := (8:Int32)) hx hb dX6_addMember_22 (by decide) ?_
    refine lv_icmp_ne (tgt := 31) hx hb dX6_addMember_24 (by decide) (fun c4 => ?_) (fun c4 => ?_)
    · rw [if_neg c4] at hf
      refine lv_iconst (v := (0:Int32)) hx hb dX6_addMember_31 (by decide) ?_
      obtain ⟨u5, eu5, hf⟩ := lt_some hf
      refine g_put (ty := .int) (C := RX6) (T := TX6) (N := 15) (gs' := [mdW G a0 u5]) hx hb hts iwX6_addMember_X6 tyX6 tyX6_ok nmX6 hown hK hP hD hS 0 0 rfl rfl rfl 0 (Nat.le_of_ble_eq_true rfl) (hts _ kX6_addMember_1) (fun _ h9 => h9) rfl (by decide +kernel) rfl rfl (Nat.le_of_ble_eq_true rfl) dX6_addMember_32 (by rw [eu5]; rfl) (fun H locs hP hD hS => ?_)
      refine lv_aload_n hx hb dX6_addMember_35 rfl (lv_at hl 0 rfl) ?_
      refine g_get (C := RX6) (T := TX6) (N := 15) hx hb hts iwX6_addMember_X6 hown hK hP 0 0 rfl rfl rfl 0 (Nat.le_of_ble_eq_true rfl) (hts _ kX6_addMember_1) (fun _ h9 => h9) rfl dX6_addMember_36 ?_
      refine lv_if_le (tgt := 44) hx hb dX6_addMember_39 (by decide) (fun c6 => ?_) (fun c6 => ?_)
      · rw [if_pos c6] at hf
        refine lv_aload_n hx hb dX6_addMember_44 rfl (lv_at hl 0 rfl) ?_
        obtain ⟨q7, hq7, hf⟩ := bd_some hf
        refine g_callVv S (As := []) (gs' := [mdW G a0 q7.2]) (c_X6_remember l G a0 u5 hq7) (cwV 0 hts gX6_addMember_X6_remember rfl rfl rfl hd_X6_remember ⟨Nat.le_of_ble_eq_true rfl, Nat.le_of_ble_eq_true rfl⟩) hK hP hD hS hA (is := [0]) rfl rfl 0 rfl rfl rfl rfl hl.1 rfl (Nat.le_of_ble_eq_true rfl) dX6_addMember_45 ⟨Nat.le_of_ble_eq_true rfl, Nat.le_of_ble_eq_true rfl⟩ rfl (fun H locs hP hD hS => ?_)
        refine lv_aload_n hx hb dX6_addMember_48 rfl (lv_at hl 0 rfl) ?_
        refine g_get (C := RX6) (T := TX6) (N := 15) hx hb hts iwX6_addMember_X6 hown hK hP 0 0 rfl rfl rfl 1 (Nat.le_of_ble_eq_true rfl) (hts _ kX6_addMember_0) (fun _ h9 => h9) rfl dX6_addMember_49 ?_
        refine lv_iconst (v := (0:Int32)) hx hb dX6_addMember_52 (by decide) ?_
        obtain ⟨h8, hf⟩ := gi_some hf
        refine g_iald hx hb hK hP 0 1 0 rfl rfl rfl h8 dX6_addMember_53 ?_
        obtain ⟨x9, ex9, hf⟩ := lt_some hf
        refine lv_nmi ex9 ?_
        refine lv_istore_n (lv' := [(2, .int x9), (0, .ref (a0 0)), (1, .int i1)]) hx hb dX6_addMember_54 rfl hl (by decide) rfl (fun ls hl => ?_)
        refine lv_aload_n hx hb dX6_addMember_55 rfl (lv_at hl 1 rfl) ?_
        refine g_get (C := RX6) (T := TX6) (N := 15) hx hb hts iwX6_addMember_X6 hown hK hP 0 0 rfl rfl rfl 1 (Nat.le_of_ble_eq_true rfl) (hts _ kX6_addMember_0) (fun _ h9 => h9) rfl dX6_addMember_56 ?_
        refine lv_iconst (v := (0:Int32)) hx hb dX6_addMember_59 (by decide) ?_
        refine lv_dup2_11 hx hb dX6_addMember_60 rfl rfl ?_
        obtain ⟨h10, hf⟩ := gi_some hf
        refine g_iald hx hb hK hP 0 1 0 rfl rfl rfl h10 dX6_addMember_61 ?_
        refine lv_iconst (v := (1:Int32)) hx hb dX6_addMember_62 (by decide) ?_
        refine lv_iadd hx hb dX6_addMember_63 ?_
        obtain ⟨x11, ex11, hf⟩ := lt_some hf
        refine lv_nmi ex11 ?_
        obtain ⟨h12, hf⟩ := gi_some hf
        obtain ⟨u13, eu13, hf⟩ := lt_some hf
        refine g_iast (gs' := [mdW G a0 u13]) hx hb hK hP hD hS 0 1 0 rfl rfl rfl h12 dX6_addMember_64 (by rw [eu13]; rfl) (fun H locs hP hD hS => ?_)
        refine lv_aload_n hx hb dX6_addMember_65 rfl (lv_at hl 1 rfl) ?_
        refine g_get (C := RX6) (T := TX6) (N := 15) hx hb hts iwX6_addMember_X6 hown hK hP 0 0 rfl rfl rfl 1 (Nat.le_of_ble_eq_true rfl) (hts _ kX6_addMember_0) (fun _ h9 => h9) rfl dX6_addMember_66 ?_
        refine lv_iconst (v := (5:Int32)) hx hb dX6_addMember_69 (by decide) ?_
        refine lv_iload_n hx hb dX6_addMember_70 rfl (lv_at hl 0 rfl) ?_
        refine lv_iadd hx hb dX6_addMember_71 ?_
        refine lv_iload_n hx hb dX6_addMember_72 rfl (lv_at hl 2 rfl) ?_
        obtain ⟨h14, hf⟩ := gi_some hf
        obtain ⟨u15, eu15, hf⟩ := lt_some hf
        refine g_iast (gs' := [mdW G a0 u15]) hx hb hK hP hD hS 0 1 0 rfl rfl rfl h14 dX6_addMember_73 (by rw [eu15]; rfl) (fun H locs hP hD hS => ?_)
        refine lv_aload_n hx hb dX6_addMember_74 rfl (lv_at hl 1 rfl) ?_
        refine g_get (C := RX6) (T := TX6) (N := 15) hx hb hts iwX6_addMember_X6 hown hK hP 0 0 rfl rfl rfl 1 (Nat.le_of_ble_eq_true rfl) (hts _ kX6_addMember_0) (fun _ h9 => h9) rfl dX6_addMember_75 ?_
        refine lv_bipush (v := (13:Int32)) hx hb dX6_addMember_78 (by decide) ?_
        refine lv_iload_n hx hb dX6_addMember_80 rfl (lv_at hl 0 rfl) ?_
        refine lv_iadd hx hb dX6_addMember_81 ?_
        refine lv_ldc (v := (-99999:Int32)) hx hb hown (hts _ kX6_addMember_2) dX6_addMember_82 ?_
        obtain ⟨h16, hf⟩ := gi_some hf
        obtain ⟨u17, eu17, hf⟩ := lt_some hf
        refine g_iast (gs' := [mdW G a0 u17]) hx hb hK hP hD hS 0 1 0 rfl rfl rfl h16 dX6_addMember_84 (by rw [eu17]; rfl) (fun H locs hP hD hS => ?_)
        refine lv_aload_n hx hb dX6_addMember_85 rfl (lv_at hl 1 rfl) ?_
        refine g_get (C := RX6) (T := TX6) (N := 15) hx hb hts iwX6_addMember_X6 hown hK hP 0 0 rfl rfl rfl 1 (Nat.le_of_ble_eq_true rfl) (hts _ kX6_addMember_0) (fun _ h9 => h9) rfl dX6_addMember_86 ?_
        refine lv_bipush (v := (45:Int32)) hx hb dX6_addMember_89 (by decide) ?_
        refine lv_iload_n hx hb dX6_addMember_91 rfl (lv_at hl 0 rfl) ?_
        refine lv_iadd hx hb dX6_addMember_92 ?_
        refine lv_iconst (v := (1:Int32)) hx hb dX6_addMember_93 (by decide) ?_
        obtain ⟨h18, hf⟩ := gi_some hf
        obtain ⟨u19, eu19, hf⟩ := lt_some hf
        refine g_iast (gs' := [mdW G a0 u19]) hx hb hK hP hD hS 0 1 0 rfl rfl rfl h18 dX6_addMember_94 (by rw [eu19]; rfl) (fun H locs hP hD hS => ?_)
        refine lv_aload_n hx hb dX6_addMember_95 rfl (lv_at hl 1 rfl) ?_
        refine g_get (C := RX6) (T := TX6) (N := 15) hx hb hts iwX6_addMember_X6 hown hK hP 0 0 rfl rfl rfl 1 (Nat.le_of_ble_eq_true rfl) (hts _ kX6_addMember_0) (fun _ h9 => h9) rfl dX6_addMember_96 ?_
        refine lv_iconst (v := (4:Int32)) hx hb dX6_addMember_99 (by decide) ?_
        refine lv_dup2_11 hx hb dX6_addMember_100 rfl rfl ?_
        obtain ⟨h20, hf⟩ := gi_some hf
        refine g_iald hx hb hK hP 0 1 0 rfl rfl rfl h20 dX6_addMember_101 ?_
        refine lv_iload_n hx hb dX6_addMember_102 rfl (lv_at hl 2 rfl) ?_
        refine lv_iadd hx hb dX6_addMember_103 ?_
        obtain ⟨h21, hf⟩ := gi_some hf
        obtain ⟨u22, eu22, hf⟩ := lt_some hf
        refine g_iast (gs' := [mdW G a0 u22]) hx hb hK hP hD hS 0 1 0 rfl rfl rfl h21 dX6_addMember_104 (by rw [eu22]; rfl) (fun H locs hP hD hS => ?_)
        refine lv_iload_n hx hb dX6_addMember_105 rfl (lv_at hl 0 rfl) ?_
        cases hf
        exact g_iret hx hb hr hlocks hP hS dX6_addMember_106
      · rw [if_neg c6] at hf
        refine lv_iconst (v := (0:Int32)) hx hb dX6_addMember_42 (by decide) ?_
        cases hf
        exact g_iret hx hb hr hlocks hP hS dX6_addMember_43
    · rw [if_pos c4] at hf
      refine lv_iconst (v := (2:Int32)) hx hb dX6_addMember_27 (by decide) ?_
      refine lv_goto (tgt := 32) hx hb dX6_addMember_28 (by decide) ?_
      obtain ⟨u23, eu23, hf⟩ := lt_some hf
      refine g_put (ty := .int) (C := RX6) (T := TX6) (N := 15) (gs' := [mdW G a0 u23]) hx hb hts iwX6_addMember_X6 tyX6 tyX6_ok nmX6 hown hK hP hD hS 0 0 rfl rfl rfl 0 (Nat.le_of_ble_eq_true rfl) (hts _ kX6_addMember_1) (fun _ h9 => h9) rfl (by decide +kernel) rfl rfl (Nat.le_of_ble_eq_true rfl) dX6_addMember_32 (by rw [eu23]; rfl) (fun H locs hP hD hS => ?_)
      refine lv_aload_n hx hb dX6_addMember_35 rfl (lv_at hl 0 rfl) ?_
      refine g_get (C := RX6) (T := TX6) (N := 15) hx hb hts iwX6_addMember_X6 hown hK hP 0 0 rfl rfl rfl 0 (Nat.le_of_ble_eq_true rfl) (hts _ kX6_addMember_1) (fun _ h9 => h9) rfl dX6_addMember_36 ?_
      refine lv_if_le (tgt := 44) hx hb dX6_addMember_39 (by decide) (fun c24 => ?_) (fun c24 => ?_)
      · rw [if_pos c24] at hf
        refine lv_aload_n hx hb dX6_addMember_44 rfl (lv_at hl 0 rfl) ?_
        obtain ⟨q25, hq25, hf⟩ := bd_some hf
        refine g_callVv S (As := []) (gs' := [mdW G a0 q25.2]) (c_X6_remember l G a0 u23 hq25) (cwV 0 hts gX6_addMember_X6_remember rfl rfl rfl hd_X6_remember ⟨Nat.le_of_ble_eq_true rfl, Nat.le_of_ble_eq_true rfl⟩) hK hP hD hS hA (is := [0]) rfl rfl 0 rfl rfl rfl rfl hl.1 rfl (Nat.le_of_ble_eq_true rfl) dX6_addMember_45 ⟨Nat.le_of_ble_eq_true rfl, Nat.le_of_ble_eq_true rfl⟩ rfl (fun H locs hP hD hS => ?_)
        refine lv_aload_n hx hb dX6_addMember_48 rfl (lv_at hl 0 rfl) ?_
        refine g_get (C := RX6) (T := TX6) (N := 15) hx hb hts iwX6_addMember_X6 hown hK hP 0 0 rfl rfl rfl 1 (Nat.le_of_ble_eq_true rfl) (hts _ kX6_addMember_0) (fun _ h9 => h9) rfl dX6_addMember_49 ?_
        refine lv_iconst (v := (0:Int32)) hx hb dX6_addMember_52 (by decide) ?_
        obtain ⟨h26, hf⟩ := gi_some hf
        refine g_iald hx hb hK hP 0 1 0 rfl rfl rfl h26 dX6_addMember_53 ?_
        obtain ⟨x27, ex27, hf⟩ := lt_some hf
        refine lv_nmi ex27 ?_
        refine lv_istore_n (lv' := [(2, .int x27), (0, .ref (a0 0)), (1, .int i1)]) hx hb dX6_addMember_54 rfl hl (by decide) rfl (fun ls hl => ?_)
        refine lv_aload_n hx hb dX6_addMember_55 rfl (lv_at hl 1 rfl) ?_
        refine g_get (C := RX6) (T := TX6) (N := 15) hx hb hts iwX6_addMember_X6 hown hK hP 0 0 rfl rfl rfl 1 (Nat.le_of_ble_eq_true rfl) (hts _ kX6_addMember_0) (fun _ h9 => h9) rfl dX6_addMember_56 ?_
        refine lv_iconst (v := (0:Int32)) hx hb dX6_addMember_59 (by decide) ?_
        refine lv_dup2_11 hx hb dX6_addMember_60 rfl rfl ?_
        obtain ⟨h28, hf⟩ := gi_some hf
        refine g_iald hx hb hK hP 0 1 0 rfl rfl rfl h28 dX6_addMember_61 ?_
        refine lv_iconst (v := (1:Int32)) hx hb dX6_addMember_62 (by decide) ?_
        refine lv_iadd hx hb dX6_addMember_63 ?_
        obtain ⟨x29, ex29, hf⟩ := lt_some hf
        refine lv_nmi ex29 ?_
        obtain ⟨h30, hf⟩ := gi_some hf
        obtain ⟨u31, eu31, hf⟩ := lt_some hf
        refine g_iast (gs' := [mdW G a0 u31]) hx hb hK hP hD hS 0 1 0 rfl rfl rfl h30 dX6_addMember_64 (by rw [eu31]; rfl) (fun H locs hP hD hS => ?_)
        refine lv_aload_n hx hb dX6_addMember_65 rfl (lv_at hl 1 rfl) ?_
        refine g_get (C := RX6) (T := TX6) (N := 15) hx hb hts iwX6_addMember_X6 hown hK hP 0 0 rfl rfl rfl 1 (Nat.le_of_ble_eq_true rfl) (hts _ kX6_addMember_0) (fun _ h9 => h9) rfl dX6_addMember_66 ?_
        refine lv_iconst (v := (5:Int32)) hx hb dX6_addMember_69 (by decide) ?_
        refine lv_iload_n hx hb dX6_addMember_70 rfl (lv_at hl 0 rfl) ?_
        refine lv_iadd hx hb dX6_addMember_71 ?_
        refine lv_iload_n hx hb dX6_addMember_72 rfl (lv_at hl 2 rfl) ?_
        obtain ⟨h32, hf⟩ := gi_some hf
        obtain ⟨u33, eu33, hf⟩ := lt_some hf
        refine g_iast (gs' := [mdW G a0 u33]) hx hb hK hP hD hS 0 1 0 rfl rfl rfl h32 dX6_addMember_73 (by rw [eu33]; rfl) (fun H locs hP hD hS => ?_)
        refine lv_aload_n hx hb dX6_addMember_74 rfl (lv_at hl 1 rfl) ?_
        refine g_get (C := RX6) (T := TX6) (N := 15) hx hb hts iwX6_addMember_X6 hown hK hP 0 0 rfl rfl rfl 1 (Nat.le_of_ble_eq_true rfl) (hts _ kX6_addMember_0) (fun _ h9 => h9) rfl dX6_addMember_75 ?_
        refine lv_bipush (v := (13:Int32)) hx hb dX6_addMember_78 (by decide) ?_
        refine lv_iload_n hx hb dX6_addMember_80 rfl (lv_at hl 0 rfl) ?_
        refine lv_iadd hx hb dX6_addMember_81 ?_
        refine lv_ldc (v := (-99999:Int32)) hx hb hown (hts _ kX6_addMember_2) dX6_addMember_82 ?_
        obtain ⟨h34, hf⟩ := gi_some hf
        obtain ⟨u35, eu35, hf⟩ := lt_some hf
        refine g_iast (gs' := [mdW G a0 u35]) hx hb hK hP hD hS 0 1 0 rfl rfl rfl h34 dX6_addMember_84 (by rw [eu35]; rfl) (fun H locs hP hD hS => ?_)
        refine lv_aload_n hx hb dX6_addMember_85 rfl (lv_at hl 1 rfl) ?_
        refine g_get (C := RX6) (T := TX6) (N := 15) hx hb hts iwX6_addMember_X6 hown hK hP 0 0 rfl rfl rfl 1 (Nat.le_of_ble_eq_true rfl) (hts _ kX6_addMember_0) (fun _ h9 => h9) rfl dX6_addMember_86 ?_
        refine lv_bipush (v := (45:Int32)) hx hb dX6_addMember_89 (by decide) ?_
        refine lv_iload_n hx hb dX6_addMember_91 rfl (lv_at hl 0 rfl) ?_
        refine lv_iadd hx hb dX6_addMember_92 ?_
        refine lv_iconst (v := (1:Int32)) hx hb dX6_addMember_93 (by decide) ?_
        obtain ⟨h36, hf⟩ := gi_some hf
        obtain ⟨u37, eu37, hf⟩ := lt_some hf
        refine g_iast (gs' := [mdW G a0 u37]) hx hb hK hP hD hS 0 1 0 rfl rfl rfl h36 dX6_addMember_94 (by rw [eu37]; rfl) (fun H locs hP hD hS => ?_)
        refine lv_aload_n hx hb dX6_addMember_95 rfl (lv_at hl 1 rfl) ?_
        refine g_get (C := RX6) (T := TX6) (N := 15) hx hb hts iwX6_addMember_X6 hown hK hP 0 0 rfl rfl rfl 1 (Nat.le_of_ble_eq_true rfl) (hts _ kX6_addMember_0) (fun _ h9 => h9) rfl dX6_addMember_96 ?_
        refine lv_iconst (v := (4:Int32)) hx hb dX6_addMember_99 (by decide) ?_
        refine lv_dup2_11 hx hb dX6_addMember_100 rfl rfl ?_
        obtain ⟨h38, hf⟩ := gi_some hf
        refine g_iald hx hb hK hP 0 1 0 rfl rfl rfl h38 dX6_addMember_101 ?_
        refine lv_iload_n hx hb dX6_addMember_102 rfl (lv_at hl 2 rfl) ?_
        refine lv_iadd hx hb dX6_addMember_103 ?_
        obtain ⟨h39, hf⟩ := gi_some hf
        obtain ⟨u40, eu40, hf⟩ := lt_some hf
        refine g_iast (gs' := [mdW G a0 u40]) hx hb hK hP hD hS 0 1 0 rfl rfl rfl h39 dX6_addMember_104 (by rw [eu40]; rfl) (fun H locs hP hD hS => ?_)
        refine lv_iload_n hx hb dX6_addMember_105 rfl (lv_at hl 0 rfl) ?_
        cases hf
        exact g_iret hx hb hr hlocks hP hS dX6_addMember_106
      · rw [if_neg c24] at hf
        refine lv_iconst (v := (0:Int32)) hx hb dX6_addMember_42 (by decide) ?_
        cases hf
        exact g_iret hx hb hr hlocks hP hS dX6_addMember_43
  · rw [if_pos c2] at hf
    refine lv_iconst (v := (1:Int32)) hx hb dX6_addMember_12 (by decide) ?_
    refine lv_goto (tgt := 32) hx hb dX6_addMember_13 (by decide) ?_
    obtain ⟨u41, eu41, hf⟩ := lt_some hf
    refine g_put (ty := .int) (C := RX6) (T := TX6) (N := 15) (gs' := [mdW G a0 u41]) hx hb hts iwX6_addMember_X6 tyX6 tyX6_ok nmX6 hown hK hP hD hS 0 0 rfl rfl rfl 0 (Nat.le_of_ble_eq_true rfl) (hts _ kX6_addMember_1) (fun _ h9 => h9) rfl (by decide +kernel) rfl rfl (Nat.le_of_ble_eq_true rfl) dX6_addMember_32 (by rw [eu41]; rfl) (fun H locs hP hD hS => ?_)
    refine lv_aload_n hx hb dX6_addMember_35 rfl (lv_at hl 0 rfl) ?_
    refine g_get (C := RX6) (T := TX6) (N := 15) hx hb hts iwX6_addMember_X6 hown hK hP 0 0 rfl rfl rfl 0 (Nat.le_of_ble_eq_true rfl) (hts _ kX6_addMember_1) (fun _ h9 => h9) rfl dX6_addMember_36 ?_
    refine lv_if_le (tgt := 44) hx hb dX6_addMember_39 (by decide) (fun c42 => ?_) (fun c42 => ?_)
    · rw [if_pos c42] at hf
      refine lv_aload_n hx hb dX6_addMember_44 rfl (lv_at hl 0 rfl) ?_
      obtain ⟨q43, hq43, hf⟩ := bd_some hf
      refine g_callVv S (As := []) (gs' := [mdW G a0 q43.2]) (c_X6_remember l G a0 u41 hq43) (cwV 0 hts gX6_addMember_X6_remember rfl rfl rfl hd_X6_remember ⟨Nat.le_of_ble_eq_true rfl, Nat.le_of_ble_eq_true rfl⟩) hK hP hD hS hA (is := [0]) rfl rfl 0 rfl rfl rfl rfl hl.1 rfl (Nat.le_of_ble_eq_true rfl) dX6_addMember_45 ⟨Nat.le_of_ble_eq_true rfl, Nat.le_of_ble_eq_true rfl⟩ rfl (fun H locs hP hD hS => ?_)
      refine lv_aload_n hx hb dX6_addMember_48 rfl (lv_at hl 0 rfl) ?_
      refine g_get (C := RX6) (T := TX6) (N := 15) hx hb hts iwX6_addMember_X6 hown hK hP 0 0 rfl rfl rfl 1 (Nat.le_of_ble_eq_true rfl) (hts _ kX6_addMember_0) (fun _ h9 => h9) rfl dX6_addMember_49 ?_
      refine lv_iconst (v := (0:Int32)) hx hb dX6_addMember_52 (by decide) ?_
      obtain ⟨h44, hf⟩ := gi_some hf
      refine g_iald hx hb hK hP 0 1 0 rfl rfl rfl h44 dX6_addMember_53 ?_
      obtain ⟨x45, ex45, hf⟩ := lt_some hf
      refine lv_nmi ex45 ?_
      refine lv_istore_n (lv' := [(2, .int x45), (0, .ref (a0 0)), (1, .int i1)]) hx hb dX6_addMember_54 rfl hl (by decide) rfl (fun ls hl => ?_)
      refine lv_aload_n hx hb dX6_addMember_55 rfl (lv_at hl 1 rfl) ?_
      refine g_get (C := RX6) (T := TX6) (N := 15) hx hb hts iwX6_addMember_X6 hown hK hP 0 0 rfl rfl rfl 1 (Nat.le_of_ble_eq_true rfl) (hts _ kX6_addMember_0) (fun _ h9 => h9) rfl dX6_addMember_56 ?_
      refine lv_iconst (v := (0:Int32)) hx hb dX6_addMember_59 (by decide) ?_
      refine lv_dup2_11 hx hb dX6_addMember_60 rfl rfl ?_
      obtain ⟨h46, hf⟩ := gi_some hf
      refine g_iald hx hb hK hP 0 1 0 rfl rfl rfl h46 dX6_addMember_61 ?_
      refine lv_iconst (v := (1:Int32)) hx hb dX6_addMember_62 (by decide) ?_
      refine lv_iadd hx hb dX6_addMember_63 ?_
      obtain ⟨x47, ex47, hf⟩ := lt_some hf
      refine lv_nmi ex47 ?_
      obtain ⟨h48, hf⟩ := gi_some hf
      obtain ⟨u49, eu49, hf⟩ := lt_some hf
      refine g_iast (gs' := [mdW G a0 u49]) hx hb hK hP hD hS 0 1 0 rfl rfl rfl h48 dX6_addMember_64 (by rw [eu49]; rfl) (fun H locs hP hD hS => ?_)
      refine lv_aload_n hx hb dX6_addMember_65 rfl (lv_at hl 1 rfl) ?_
      refine g_get (C := RX6) (T := TX6) (N := 15) hx hb hts iwX6_addMember_X6 hown hK hP 0 0 rfl rfl rfl 1 (Nat.le_of_ble_eq_true rfl) (hts _ kX6_addMember_0) (fun _ h9 => h9) rfl dX6_addMember_66 ?_
      refine lv_iconst (v := (5:Int32)) hx hb dX6_addMember_69 (by decide) ?_
      refine lv_iload_n hx hb dX6_addMember_70 rfl (lv_at hl 0 rfl) ?_
      refine lv_iadd hx hb dX6_addMember_71 ?_
      refine lv_iload_n hx hb dX6_addMember_72 rfl (lv_at hl 2 rfl) ?_
      obtain ⟨h50, hf⟩ := gi_some hf
      obtain ⟨u51, eu51, hf⟩ := lt_some hf
      refine g_iast (gs' := [mdW G a0 u51]) hx hb hK hP hD hS 0 1 0 rfl rfl rfl h50 dX6_addMember_73 (by rw [eu51]; rfl) (fun H locs hP hD hS => ?_)
      refine lv_aload_n hx hb dX6_addMember_74 rfl (lv_at hl 1 rfl) ?_
      refine g_get (C := RX6) (T := TX6) (N := 15) hx hb hts iwX6_addMember_X6 hown hK hP 0 0 rfl rfl rfl 1 (Nat.le_of_ble_eq_true rfl) (hts _ kX6_addMember_0) (fun _ h9 => h9) rfl dX6_addMember_75 ?_
      refine lv_bipush (v := (13:Int32)) hx hb dX6_addMember_78 (by decide) ?_
      refine lv_iload_n hx hb dX6_addMember_80 rfl (lv_at hl 0 rfl) ?_
      refine lv_iadd hx hb dX6_addMember_81 ?_
      refine lv_ldc (v := (-99999:Int32)) hx hb hown (hts _ kX6_addMember_2) dX6_addMember_82 ?_
      obtain ⟨h52, hf⟩ := gi_some hf
      obtain ⟨u53, eu53, hf⟩ := lt_some hf
      refine g_iast (gs' := [mdW G a0 u53]) hx hb hK hP hD hS 0 1 0 rfl rfl rfl h52 dX6_addMember_84 (by rw [eu53]; rfl) (fun H locs hP hD hS => ?_)
      refine lv_aload_n hx hb dX6_addMember_85 rfl (lv_at hl 1 rfl) ?_
      refine g_get (C := RX6) (T := TX6) (N := 15) hx hb hts iwX6_addMember_X6 hown hK hP 0 0 rfl rfl rfl 1 (Nat.le_of_ble_eq_true rfl) (hts _ kX6_addMember_0) (fun _ h9 => h9) rfl dX6_addMember_86 ?_
      refine lv_bipush (v := (45:Int32)) hx hb dX6_addMember_89 (by decide) ?_
      refine lv_iload_n hx hb dX6_addMember_91 rfl (lv_at hl 0 rfl) ?_
      refine lv_iadd hx hb dX6_addMember_92 ?_
      refine lv_iconst (v := (1:Int32)) hx hb dX6_addMember_93 (by decide) ?_
      obtain ⟨h54, hf⟩ := gi_some hf
      obtain ⟨u55, eu55, hf⟩ := lt_some hf
      refine g_iast (gs' := [mdW G a0 u55]) hx hb hK hP hD hS 0 1 0 rfl rfl rfl h54 dX6_addMember_94 (by rw [eu55]; rfl) (fun H locs hP hD hS => ?_)
      refine lv_aload_n hx hb dX6_addMember_95 rfl (lv_at hl 1 rfl) ?_
      refine g_get (C := RX6) (T := TX6) (N := 15) hx hb hts iwX6_addMember_X6 hown hK hP 0 0 rfl rfl rfl 1 (Nat.le_of_ble_eq_true rfl) (hts _ kX6_addMember_0) (fun _ h9 => h9) rfl dX6_addMember_96 ?_
      refine lv_iconst (v := (4:Int32)) hx hb dX6_addMember_99 (by decide) ?_
      refine lv_dup2_11 hx hb dX6_addMember_100 rfl rfl ?_
      obtain ⟨h56, hf⟩ := gi_some hf
      refine g_iald hx hb hK hP 0 1 0 rfl rfl rfl h56 dX6_addMember_101 ?_
      refine lv_iload_n hx hb dX6_addMember_102 rfl (lv_at hl 2 rfl) ?_
      refine lv_iadd hx hb dX6_addMember_103 ?_
      obtain ⟨h57, hf⟩ := gi_some hf
      obtain ⟨u58, eu58, hf⟩ := lt_some hf
      refine g_iast (gs' := [mdW G a0 u58]) hx hb hK hP hD hS 0 1 0 rfl rfl rfl h57 dX6_addMember_104 (by rw [eu58]; rfl) (fun H locs hP hD hS => ?_)
      refine lv_iload_n hx hb dX6_addMember_105 rfl (lv_at hl 0 rfl) ?_
      cases hf
      exact g_iret hx hb hr hlocks hP hS dX6_addMember_106
    · rw [if_neg c42] at hf
      refine lv_iconst (v := (0:Int32)) hx hb dX6_addMember_42 (by decide) ?_
      cases hf
      exact g_iret hx hb hr hlocks hP hS dX6_addMember_43
theorem kX6_setContribution_0 : Cond.fieldLink RX6 38 "SavingsCircleModel" "thrown" "I" ∈ wsX6_setContribution := (List.mem_cons_of_mem _ (List.mem_append_left _ (List.mem_of_getElem? (i := 0) rfl)))
theorem kX6_setContribution_1 : Cond.fieldLink RX6 7 "SavingsCircleModel" "z" "[I" ∈ wsX6_setContribution := (List.mem_cons_of_mem _ (List.mem_append_left _ (List.mem_of_getElem? (i := 1) rfl)))
theorem iwX6_setContribution_X6 : ∀ w ∈ wsX60, w ∈ wsX6_setContribution := fun w h => (List.mem_cons_of_mem _ (List.mem_append_right _ h))
set_option maxHeartbeats 4000000 in
set_option maxRecDepth 100000 in
theorem c_X6_setContribution (l : Launch) (G : uG) (a0 : Nat → Nat) (v0 : MdV) (i1 : Int32) {q : Int32 × (MdV)} (hf : f_X6_setContribution v0 i1 = some q) : mQ l yX6_setContribution wsX6_setContribution ({ frames := 1, cells := 0, slots := 0, locals := 22 } : Room) G [.ref (a0 0), .int i1] [mdW G a0 v0] [mdW G a0 q.2] (qI G [mdW G a0 q.2] q.1) := by
  unfold f_X6_setContribution at hf
  refine m_of (cc := cX6_setContribution) (maxL := 3) (ret := (some .int)) (by decide) rfl rfl (Nat.le_of_ble_eq_true rfl) ?_
  intro p e s m args below meth c A ls S hK hA hP hD hS hl
  obtain ⟨hx, hb, hml, hown, hts, hr, hlocks⟩ := id S
  have hl : lv_has ls 3 [(0, .ref (a0 0)), (1, .int i1)] := hl
  refine lv_aload_n hx hb dX6_setContribution_0 rfl (lv_at hl 0 rfl) ?_
  refine lv_iload_n hx hb dX6_setContribution_1 rfl (lv_at hl 1 rfl) ?_
  refine lv_iconst (v := (1:Int32)) hx hb dX6_setContribution_2 (by decide) ?_
  refine lv_bipush (v := (50:Int32)) hx hb dX6_setContribution_3 (by decide) ?_
  obtain ⟨q1, hq1, hf⟩ := bd_some hf
  refine g_callSi S (As := [.int i1, .int (1:Int32), .int (50:Int32)]) (gs' := [mdW G a0 v0]) (c_X6_in l G i1 (1:Int32) (50:Int32) hq1) (va_cwS 3 hts gX6_setContribution_X6_in rfl rfl rfl hd_X6_in.2 ⟨Nat.le_of_ble_eq_true rfl, Nat.le_of_ble_eq_true rfl⟩) hK hP hD hS hA (is := []) rfl rfl rfl hl.1 rfl (Nat.le_of_ble_eq_true rfl) dX6_setContribution_5 ⟨Nat.le_of_ble_eq_true rfl, Nat.le_of_ble_eq_true rfl⟩ rfl (fun H locs hP hD hS => ?_)
  refine lv_if_eq (tgt := 15) hx hb dX6_setContribution_8 (by decide) (fun c2 => ?_) (fun c2 => ?_)
  · rw [if_pos c2] at hf
    refine lv_iconst (v := (1:Int32)) hx hb dX6_setContribution_15 (by decide) ?_
    obtain ⟨u3, eu3, hf⟩ := lt_some hf
    refine g_put (ty := .int) (C := RX6) (T := TX6) (N := 15) (gs' := [mdW G a0 u3]) hx hb hts iwX6_setContribution_X6 tyX6 tyX6_ok nmX6 hown hK hP hD hS 0 0 rfl rfl rfl 0 (Nat.le_of_ble_eq_true rfl) (hts _ kX6_setContribution_0) (fun _ h9 => h9) rfl (by decide +kernel) rfl rfl (Nat.le_of_ble_eq_true rfl) dX6_setContribution_16 (by rw [eu3]; rfl) (fun H locs hP hD hS => ?_)
    refine lv_aload_n hx hb dX6_setContribution_19 rfl (lv_at hl 0 rfl) ?_
    refine g_get (C := RX6) (T := TX6) (N := 15) hx hb hts iwX6_setContribution_X6 hown hK hP 0 0 rfl rfl rfl 0 (Nat.le_of_ble_eq_true rfl) (hts _ kX6_setContribution_0) (fun _ h9 => h9) rfl dX6_setContribution_20 ?_
    refine lv_if_le (tgt := 28) hx hb dX6_setContribution_23 (by decide) (fun c4 => ?_) (fun c4 => ?_)
    · rw [if_pos c4] at hf
      refine lv_aload_n hx hb dX6_setContribution_28 rfl (lv_at hl 0 rfl) ?_
      obtain ⟨q5, hq5, hf⟩ := bd_some hf
      refine g_callVv S (As := []) (gs' := [mdW G a0 q5.2]) (c_X6_remember l G a0 u3 hq5) (cwV 0 hts gX6_setContribution_X6_remember rfl rfl rfl hd_X6_remember ⟨Nat.le_of_ble_eq_true rfl, Nat.le_of_ble_eq_true rfl⟩) hK hP hD hS hA (is := [0]) rfl rfl 0 rfl rfl rfl rfl hl.1 rfl (Nat.le_of_ble_eq_true rfl) dX6_setContribution_29 ⟨Nat.le_of_ble_eq_true rfl, Nat.le_of_ble_eq_true rfl⟩ rfl (fun H locs hP hD hS => ?_)
      refine lv_aload_n hx hb dX6_setContribution_32 rfl (lv_at hl 0 rfl) ?_
      refine g_get (C := RX6) (T := TX6) (N := 15) hx hb hts iwX6_setContribution_X6 hown hK hP 0 0 rfl rfl rfl 1 (Nat.le_of_ble_eq_true rfl) (hts _ kX6_setContribution_1) (fun _ h9 => h9) rfl dX6_setContribution_33 ?_
      refine lv_iconst (v := (1:Int32)) hx hb dX6_setContribution_36 (by decide) ?_
      obtain ⟨h6, hf⟩ := gi_some hf
      refine g_iald hx hb hK hP 0 1 0 rfl rfl rfl h6 dX6_setContribution_37 ?_
      obtain ⟨x7, ex7, hf⟩ := lt_some hf
      refine lv_nmi ex7 ?_
      refine lv_istore_n (lv' := [(2, .int x7), (0, .ref (a0 0)), (1, .int i1)]) hx hb dX6_setContribution_38 rfl hl (by decide) rfl (fun ls hl => ?_)
      refine lv_aload_n hx hb dX6_setContribution_39 rfl (lv_at hl 1 rfl) ?_
      refine g_get (C := RX6) (T := TX6) (N := 15) hx hb hts iwX6_setContribution_X6 hown hK hP 0 0 rfl rfl rfl 1 (Nat.le_of_ble_eq_true rfl) (hts _ kX6_setContribution_1) (fun _ h9 => h9) rfl dX6_setContribution_40 ?_
      refine lv_iconst (v := (1:Int32)) hx hb dX6_setContribution_43 (by decide) ?_
      refine lv_iload_n hx hb dX6_setContribution_44 rfl (lv_at hl 2 rfl) ?_
      obtain ⟨h8, hf⟩ := gi_some hf
      obtain ⟨u9, eu9, hf⟩ := lt_some hf
      refine g_iast (gs' := [mdW G a0 u9]) hx hb hK hP hD hS 0 1 0 rfl rfl rfl h8 dX6_setContribution_45 (by rw [eu9]; rfl) (fun H locs hP hD hS => ?_)
      refine lv_iload_n hx hb dX6_setContribution_46 rfl (lv_at hl 0 rfl) ?_
      cases hf
      exact g_iret hx hb hr hlocks hP hS dX6_setContribution_47
    · rw [if_neg c4] at hf
      refine lv_iconst (v := (0:Int32)) hx hb dX6_setContribution_26 (by decide) ?_
      cases hf
      exact g_iret hx hb hr hlocks hP hS dX6_setContribution_27
  · rw [if_neg c2] at hf
    refine lv_iconst (v := (0:Int32)) hx hb dX6_setContribution_11 (by decide) ?_
    refine lv_goto (tgt := 16) hx hb dX6_setContribution_12 (by decide) ?_
    obtain ⟨u10, eu10, hf⟩ := lt_some hf
    refine g_put (ty := .int) (C := RX6) (T := TX6) (N := 15) (gs' := [mdW G a0 u10]) hx hb hts iwX6_setContribution_X6 tyX6 tyX6_ok nmX6 hown hK hP hD hS 0 0 rfl rfl rfl 0 (Nat.le_of_ble_eq_true rfl) (hts _ kX6_setContribution_0) (fun _ h9 => h9) rfl (by decide +kernel) rfl rfl (Nat.le_of_ble_eq_true rfl) dX6_setContribution_16 (by rw [eu10]; rfl) (fun H locs hP hD hS => ?_)
    refine lv_aload_n hx hb dX6_setContribution_19 rfl (lv_at hl 0 rfl) ?_
    refine g_get (C := RX6) (T := TX6) (N := 15) hx hb hts iwX6_setContribution_X6 hown hK hP 0 0 rfl rfl rfl 0 (Nat.le_of_ble_eq_true rfl) (hts _ kX6_setContribution_0) (fun _ h9 => h9) rfl dX6_setContribution_20 ?_
    refine lv_if_le (tgt := 28) hx hb dX6_setContribution_23 (by decide) (fun c11 => ?_) (fun c11 => ?_)
    · rw [if_pos c11] at hf
      refine lv_aload_n hx hb dX6_setContribution_28 rfl (lv_at hl 0 rfl) ?_
      obtain ⟨q12, hq12, hf⟩ := bd_some hf
      refine g_callVv S (As := []) (gs' := [mdW G a0 q12.2]) (c_X6_remember l G a0 u10 hq12) (cwV 0 hts gX6_setContribution_X6_remember rfl rfl rfl hd_X6_remember ⟨Nat.le_of_ble_eq_true rfl, Nat.le_of_ble_eq_true rfl⟩) hK hP hD hS hA (is := [0]) rfl rfl 0 rfl rfl rfl rfl hl.1 rfl (Nat.le_of_ble_eq_true rfl) dX6_setContribution_29 ⟨Nat.le_of_ble_eq_true rfl, Nat.le_of_ble_eq_true rfl⟩ rfl (fun H locs hP hD hS => ?_)
      refine lv_aload_n hx hb dX6_setContribution_32 rfl (lv_at hl 0 rfl) ?_
      refine g_get (C := RX6) (T := TX6) (N := 15) hx hb hts iwX6_setContribution_X6 hown hK hP 0 0 rfl rfl rfl 1 (Nat.le_of_ble_eq_true rfl) (hts _ kX6_setContribution_1) (fun _ h9 => h9) rfl dX6_setContribution_33 ?_
      refine lv_iconst (v := (1:Int32)) hx hb dX6_setContribution_36 (by decide) ?_
      obtain ⟨h13, hf⟩ := gi_some hf
      refine g_iald hx hb hK hP 0 1 0 rfl rfl rfl h13 dX6_setContribution_37 ?_
      obtain ⟨x14, ex14, hf⟩ := lt_some hf
      refine lv_nmi ex14 ?_
      refine lv_istore_n (lv' := [(2, .int x14), (0, .ref (a0 0)), (1, .int i1)]) hx hb dX6_setContribution_38 rfl hl (by decide) rfl (fun ls hl => ?_)
      refine lv_aload_n hx hb dX6_setContribution_39 rfl (lv_at hl 1 rfl) ?_
      refine g_get (C := RX6) (T := TX6) (N := 15) hx hb hts iwX6_setContribution_X6 hown hK hP 0 0 rfl rfl rfl 1 (Nat.le_of_ble_eq_true rfl) (hts _ kX6_setContribution_1) (fun _ h9 => h9) rfl dX6_setContribution_40 ?_
      refine lv_iconst (v := (1:Int32)) hx hb dX6_setContribution_43 (by decide) ?_
      refine lv_iload_n hx hb dX6_setContribution_44 rfl (lv_at hl 2 rfl) ?_
      obtain ⟨h15, hf⟩ := gi_some hf
      obtain ⟨u16, eu16, hf⟩ := lt_some hf
      refine g_iast (gs' := [mdW G a0 u16]) hx hb hK hP hD hS 0 1 0 rfl rfl rfl h15 dX6_setContribution_45 (by rw [eu16]; rfl) (fun H locs hP hD hS => ?_)
      refine lv_iload_n hx hb dX6_setContribution_46 rfl (lv_at hl 0 rfl) ?_
      cases hf
      exact g_iret hx hb hr hlocks hP hS dX6_setContribution_47
    · rw [if_neg c11] at hf
      refine lv_iconst (v := (0:Int32)) hx hb dX6_setContribution_26 (by decide) ?_
      cases hf
      exact g_iret hx hb hr hlocks hP hS dX6_setContribution_27
theorem kX6_setGuarantor_0 : Cond.fieldLink RX6 38 "SavingsCircleModel" "thrown" "I" ∈ wsX6_setGuarantor := (List.mem_cons_of_mem _ (List.mem_append_left _ (List.mem_of_getElem? (i := 1) rfl)))
theorem kX6_setGuarantor_1 : Cond.fieldLink RX6 7 "SavingsCircleModel" "z" "[I" ∈ wsX6_setGuarantor := (List.mem_cons_of_mem _ (List.mem_append_left _ (List.mem_of_getElem? (i := 2) rfl)))
theorem kX6_setGuarantor_2 : Cond.constant RX6 49 (-99999) ∈ wsX6_setGuarantor := (List.mem_cons_of_mem _ (List.mem_append_left _ (List.mem_of_getElem? (i := 0) rfl)))
theorem iwX6_setGuarantor_X6 : ∀ w ∈ wsX60, w ∈ wsX6_setGuarantor := fun w h => (List.mem_cons_of_mem _ (List.mem_append_right _ h))
set_option maxHeartbeats 4000000 in
set_option maxRecDepth 100000 in
theorem c_X6_setGuarantor (l : Launch) (G : uG) (a0 : Nat → Nat) (v0 : MdV) (i1 : Int32) (i2 : Int32) {q : Int32 × (MdV)} (hf : f_X6_setGuarantor v0 i1 i2 = some q) : mQ l yX6_setGuarantor wsX6_setGuarantor ({ frames := 1, cells := 0, slots := 0, locals := 21 } : Room) G [.ref (a0 0), .int i1, .int i2] [mdW G a0 v0] [mdW G a0 q.2] (qI G [mdW G a0 q.2] q.1) := by
  unfold f_X6_setGuarantor at hf
  refine m_of (cc := cX6_setGuarantor) (maxL := 4) (ret := (some .int)) (by decide) rfl rfl (Nat.le_of_ble_eq_true rfl) ?_
  intro p e s m args below meth c A ls S hK hA hP hD hS hl
  obtain ⟨hx, hb, hml, hown, hts, hr, hlocks⟩ := id S
  have hl : lv_has ls 4 [(0, .ref (a0 0)), (1, .int i1), (2, .int i2)] := hl
  refine lv_aload_n hx hb dX6_setGuarantor_0 rfl (lv_at hl 0 rfl) ?_
  refine lv_aload_n hx hb dX6_setGuarantor_1 rfl (lv_at hl 0 rfl) ?_
  refine lv_iload_n hx hb dX6_setGuarantor_2 rfl (lv_at hl 1 rfl) ?_
  obtain ⟨q1, hq1, hf⟩ := bd_some hf
  refine g_callVi S (As := [.int i1]) (gs' := [mdW G a0 v0]) (c_X6_isMember l G a0 v0 i1 hq1) (cwV 1 hts gX6_setGuarantor_X6_isMember rfl rfl rfl hd_X6_isMember ⟨Nat.le_of_ble_eq_true rfl, Nat.le_of_ble_eq_true rfl⟩) hK hP hD hS hA (is := [0]) rfl rfl 0 rfl rfl rfl rfl hl.1 rfl (Nat.le_of_ble_eq_true rfl) dX6_setGuarantor_3 ⟨Nat.le_of_ble_eq_true rfl, Nat.le_of_ble_eq_true rfl⟩ rfl (fun H locs hP hD hS => ?_)
  refine lv_if_eq (tgt := 23) hx hb dX6_setGuarantor_6 (by decide) (fun c2 => ?_) (fun c2 => ?_)
  · rw [if_pos c2] at hf
    refine lv_iconst (v := (1:Int32)) hx hb dX6_setGuarantor_23 (by decide) ?_
    refine lv_goto (tgt := 37) hx hb dX6_setGuarantor_24 (by decide) ?_
    obtain ⟨u3, eu3, hf⟩ := lt_some hf
    refine g_put (ty := .int) (C := RX6) (T := TX6) (N := 15) (gs' := [mdW G a0 u3]) hx hb hts iwX6_setGuarantor_X6 tyX6 tyX6_ok nmX6 hown hK hP hD hS 0 0 rfl rfl rfl 0 (Nat.le_of_ble_eq_true rfl) (hts _ kX6_setGuarantor_0) (fun _ h9 => h9) rfl (by decide +kernel) rfl rfl (Nat.le_of_ble_eq_true rfl) dX6_setGuarantor_37 (by rw [eu3]; rfl) (fun H locs hP hD hS => ?_)
    refine lv_aload_n hx hb dX6_setGuarantor_40 rfl (lv_at hl 0 rfl) ?_
    refine g_get (C := RX6) (T := TX6) (N := 15) hx hb hts iwX6_setGuarantor_X6 hown hK hP 0 0 rfl rfl rfl 0 (Nat.le_of_ble_eq_true rfl) (hts _ kX6_setGuarantor_0) (fun _ h9 => h9) rfl dX6_setGuarantor_41 ?_
    refine lv_if_le (tgt := 49) hx hb dX6_setGuarantor_44 (by decide) (fun c4 => ?_) (fun c4 => ?_)
    · rw [if_pos c4] at hf
      refine lv_aload_n hx hb dX6_setGuarantor_49 rfl (lv_at hl 0 rfl) ?_
      obtain ⟨q5, hq5, hf⟩ := bd_some hf
      refine g_callVv S (As := []) (gs' := [mdW G a0 q5.2]) (c_X6_remember l G a0 u3 hq5) (cwV 0 hts gX6_setGuarantor_X6_remember rfl rfl rfl hd_X6_remember ⟨Nat.le_of_ble_eq_true rfl, Nat.le_of_ble_eq_true rfl⟩) hK hP hD hS hA (is := [0]) rfl rfl 0 rfl rfl rfl rfl hl.1 rfl (Nat.le_of_ble_eq_true rfl) dX6_setGuarantor_50 ⟨Nat.le_of_ble_eq_true rfl, Nat.le_of_ble_eq_true rfl⟩ rfl (fun H locs hP hD hS => ?_)
      refine lv_aload_n hx hb dX6_setGuarantor_53 rfl (lv_at hl 0 rfl) ?_
      refine g_get (C := RX6) (T := TX6) (N := 15) hx hb hts iwX6_setGuarantor_X6 hown hK hP 0 0 rfl rfl rfl 1 (Nat.le_of_ble_eq_true rfl) (hts _ kX6_setGuarantor_1) (fun _ h9 => h9) rfl dX6_setGuarantor_54 ?_
      refine lv_bipush (v := (13:Int32)) hx hb dX6_setGuarantor_57 (by decide) ?_
      refine lv_iload_n hx hb dX6_setGuarantor_59 rfl (lv_at hl 1 rfl) ?_
      refine lv_iadd hx hb dX6_setGuarantor_60 ?_
      obtain ⟨h6, hf⟩ := gi_some hf
      refine g_iald hx hb hK hP 0 1 0 rfl rfl rfl h6 dX6_setGuarantor_61 ?_
      obtain ⟨x7, ex7, hf⟩ := lt_some hf
      refine lv_nmi ex7 ?_
      refine lv_istore_n (lv' := [(3, .int x7), (0, .ref (a0 0)), (1, .int i1), (2, .int i2)]) hx hb dX6_setGuarantor_62 rfl hl (by decide) rfl (fun ls hl => ?_)
      refine lv_aload_n hx hb dX6_setGuarantor_63 rfl (lv_at hl 1 rfl) ?_
      refine g_get (C := RX6) (T := TX6) (N := 15) hx hb hts iwX6_setGuarantor_X6 hown hK hP 0 0 rfl rfl rfl 1 (Nat.le_of_ble_eq_true rfl) (hts _ kX6_setGuarantor_1) (fun _ h9 => h9) rfl dX6_setGuarantor_64 ?_
      refine lv_bipush (v := (13:Int32)) hx hb dX6_setGuarantor_67 (by decide) ?_
      refine lv_iload_n hx hb dX6_setGuarantor_69 rfl (lv_at hl 2 rfl) ?_
      refine lv_iadd hx hb dX6_setGuarantor_70 ?_
      refine lv_iload_n hx hb dX6_setGuarantor_71 rfl (lv_at hl 3 rfl) ?_
      obtain ⟨h8, hf⟩ := gi_some hf
      obtain ⟨u9, eu9, hf⟩ := lt_some hf
      refine g_iast (gs' := [mdW G a0 u9]) hx hb hK hP hD hS 0 1 0 rfl rfl rfl h8 dX6_setGuarantor_72 (by rw [eu9]; rfl) (fun H locs hP hD hS => ?_)
      refine lv_iload_n hx hb dX6_setGuarantor_73 rfl (lv_at hl 0 rfl) ?_
      cases hf
      exact g_iret hx hb hr hlocks hP hS dX6_setGuarantor_74
    · rw [if_neg c4] at hf
      refine lv_iconst (v := (0:Int32)) hx hb dX6_setGuarantor_47 (by decide) ?_
      cases hf
      exact g_iret hx hb hr hlocks hP hS dX6_setGuarantor_48
  · rw [if_neg c2] at hf
    refine lv_iload_n hx hb dX6_setGuarantor_9 rfl (lv_at hl 2 rfl) ?_
    refine lv_ldc (v := (-99999:Int32)) hx hb hown (hts _ kX6_setGuarantor_2) dX6_setGuarantor_10 ?_
    refine lv_icmp_eq (tgt := 27) hx hb dX6_setGuarantor_12 (by decide) (fun c10 => ?_) (fun c10 => ?_)
    · rw [if_pos c10] at hf
      refine lv_iload_n hx hb dX6_setGuarantor_27 rfl (lv_at hl 1 rfl) ?_
      refine lv_iload_n hx hb dX6_setGuarantor_28 rfl (lv_at hl 2 rfl) ?_
      refine lv_icmp_ne (tgt := 36) hx hb dX6_setGuarantor_29 (by decide) (fun c11 => ?_) (fun c11 => ?_)
      · rw [if_neg c11] at hf
        refine lv_iconst (v := (0:Int32)) hx hb dX6_setGuarantor_36 (by decide) ?_
        obtain ⟨u12, eu12, hf⟩ := lt_some hf
        refine g_put (ty := .int) (C := RX6) (T := TX6) (N := 15) (gs' := [mdW G a0 u12]) hx hb hts iwX6_setGuarantor_X6 tyX6 tyX6_ok nmX6 hown hK hP hD hS 0 0 rfl rfl rfl 0 (Nat.le_of_ble_eq_true rfl) (hts _ kX6_setGuarantor_0) (fun _ h9 => h9) rfl (by decide +kernel) rfl rfl (Nat.le_of_ble_eq_true rfl) dX6_setGuarantor_37 (by rw [eu12]; rfl) (fun H locs hP hD hS => ?_)
        refine lv_aload_n hx hb dX6_setGuarantor_40 rfl (lv_at hl 0 rfl) ?_
        refine g_get (C := RX6) (T := TX6) (N := 15) hx hb hts iwX6_setGuarantor_X6 hown hK hP 0 0 rfl rfl rfl 0 (Nat.le_of_ble_eq_true rfl) (hts _ kX6_setGuarantor_0) (fun _ h9 => h9) rfl dX6_setGuarantor_41 ?_
        refine lv_if_le (tgt := 49) hx hb dX6_setGuarantor_44 (by decide) (fun c13 => ?_) (fun c13 => ?_)
        · rw [if_pos c13] at hf
          refine lv_aload_n hx hb dX6_setGuarantor_49 rfl (lv_at hl 0 rfl) ?_
          obtain ⟨q14, hq14, hf⟩ := bd_some hf
          refine g_callVv S (As := []) (gs' := [mdW G a0 q14.2]) (c_X6_remember l G a0 u12 hq14) (cwV 0 hts gX6_setGuarantor_X6_remember rfl rfl rfl hd_X6_remember ⟨Nat.le_of_ble_eq_true rfl, Nat.le_of_ble_eq_true rfl⟩) hK hP hD hS hA (is := [0]) rfl rfl 0 rfl rfl rfl rfl hl.1 rfl (Nat.le_of_ble_eq_true rfl) dX6_setGuarantor_50 ⟨Nat.le_of_ble_eq_true rfl, Nat.le_of_ble_eq_true rfl⟩ rfl (fun H locs hP hD hS => ?_)
          refine lv_aload_n hx hb dX6_setGuarantor_53 rfl (lv_at hl 0 rfl) ?_
          refine g_get (C := RX6) (T := TX6) (N := 15) hx hb hts iwX6_setGuarantor_X6 hown hK hP 0 0 rfl rfl rfl 1 (Nat.le_of_ble_eq_true rfl) (hts _ kX6_setGuarantor_1) (fun _ h9 => h9) rfl dX6_setGuarantor_54 ?_
          refine lv_bipush (v := (13:Int32)) hx hb dX6_setGuarantor_57 (by decide) ?_
          refine lv_iload_n hx hb dX6_setGuarantor_59 rfl (lv_at hl 1 rfl) ?_
          refine lv_iadd hx hb dX6_setGuarantor_60 ?_
          obtain ⟨h15, hf⟩ := gi_some hf
          refine g_iald hx hb hK hP 0 1 0 rfl rfl rfl h15 dX6_setGuarantor_61 ?_
          obtain ⟨x16, ex16, hf⟩ := lt_some hf
          refine lv_nmi ex16 ?_
          refine lv_istore_n (lv' := [(3, .int x16), (0, .ref (a0 0)), (1, .int i1), (2, .int i2)]) hx hb dX6_setGuarantor_62 rfl hl (by decide) rfl (fun ls hl => ?_)
          refine lv_aload_n hx hb dX6_setGuarantor_63 rfl (lv_at hl 1 rfl) ?_
          refine g_get (C := RX6) (T := TX6) (N := 15) hx hb hts iwX6_setGuarantor_X6 hown hK hP 0 0 rfl rfl rfl 1 (Nat.le_of_ble_eq_true rfl) (hts _ kX6_setGuarantor_1) (fun _ h9 => h9) rfl dX6_setGuarantor_64 ?_
          refine lv_bipush (v := (13:Int32)) hx hb dX6_setGuarantor_67 (by decide) ?_
          refine lv_iload_n hx hb dX6_setGuarantor_69 rfl (lv_at hl 2 rfl) ?_
          refine lv_iadd hx hb dX6_setGuarantor_70 ?_
          refine lv_iload_n hx hb dX6_setGuarantor_71 rfl (lv_at hl 3 rfl) ?_
          obtain ⟨h17, hf⟩ := gi_some hf
          obtain ⟨u18, eu18, hf⟩ := lt_some hf
          refine g_iast (gs' := [mdW G a0 u18]) hx hb hK hP hD hS 0 1 0 rfl rfl rfl h17 dX6_setGuarantor_72 (by rw [eu18]; rfl) (fun H locs hP hD hS => ?_)
          refine lv_iload_n hx hb dX6_setGuarantor_73 rfl (lv_at hl 0 rfl) ?_
          cases hf
          exact g_iret hx hb hr hlocks hP hS dX6_setGuarantor_74
        · rw [if_neg c13] at hf
          refine lv_iconst (v := (0:Int32)) hx hb dX6_setGuarantor_47 (by decide) ?_
          cases hf
          exact g_iret hx hb hr hlocks hP hS dX6_setGuarantor_48
      · rw [if_pos c11] at hf
        refine lv_iconst (v := (2:Int32)) hx hb dX6_setGuarantor_32 (by decide) ?_
        refine lv_goto (tgt := 37) hx hb dX6_setGuarantor_33 (by decide) ?_
        obtain ⟨u19, eu19, hf⟩ := lt_some hf
        refine g_put (ty := .int) (C := RX6) (T := TX6) (N := 15) (gs' := [mdW G a0 u19]) hx hb hts iwX6_setGuarantor_X6 tyX6 tyX6_ok nmX6 hown hK hP hD hS 0 0 rfl rfl rfl 0 (Nat.le_of_ble_eq_true rfl) (hts _ kX6_setGuarantor_0) (fun _ h9 => h9) rfl (by decide +kernel) rfl rfl (Nat.le_of_ble_eq_true rfl) dX6_setGuarantor_37 (by rw [eu19]; rfl) (fun H locs hP hD hS => ?_)
        refine lv_aload_n hx hb dX6_setGuarantor_40 rfl (lv_at hl 0 rfl) ?_
        refine g_get (C := RX6) (T := TX6) (N := 15) hx hb hts iwX6_setGuarantor_X6 hown hK hP 0 0 rfl rfl rfl 0 (Nat.le_of_ble_eq_true rfl) (hts _ kX6_setGuarantor_0) (fun _ h9 => h9) rfl dX6_setGuarantor_41 ?_
        refine lv_if_le (tgt := 49) hx hb dX6_setGuarantor_44 (by decide) (fun c20 => ?_) (fun c20 => ?_)
        · rw [if_pos c20] at hf
          refine lv_aload_n hx hb dX6_setGuarantor_49 rfl (lv_at hl 0 rfl) ?_
          obtain ⟨q21, hq21, hf⟩ := bd_some hf
          refine g_callVv S (As := []) (gs' := [mdW G a0 q21.2]) (c_X6_remember l G a0 u19 hq21) (cwV 0 hts gX6_setGuarantor_X6_remember rfl rfl rfl hd_X6_remember ⟨Nat.le_of_ble_eq_true rfl, Nat.le_of_ble_eq_true rfl⟩) hK hP hD hS hA (is := [0]) rfl rfl 0 rfl rfl rfl rfl hl.1 rfl (Nat.le_of_ble_eq_true rfl) dX6_setGuarantor_50 ⟨Nat.le_of_ble_eq_true rfl, Nat.le_of_ble_eq_true rfl⟩ rfl (fun H locs hP hD hS => ?_)
          refine lv_aload_n hx hb dX6_setGuarantor_53 rfl (lv_at hl 0 rfl) ?_
          refine g_get (C := RX6) (T := TX6) (N := 15) hx hb hts iwX6_setGuarantor_X6 hown hK hP 0 0 rfl rfl rfl 1 (Nat.le_of_ble_eq_true rfl) (hts _ kX6_setGuarantor_1) (fun _ h9 => h9) rfl dX6_setGuarantor_54 ?_
          refine lv_bipush (v := (13:Int32)) hx hb dX6_setGuarantor_57 (by decide) ?_
          refine lv_iload_n hx hb dX6_setGuarantor_59 rfl (lv_at hl 1 rfl) ?_
          refine lv_iadd hx hb dX6_setGuarantor_60 ?_
          obtain ⟨h22, hf⟩ := gi_some hf
          refine g_iald hx hb hK hP 0 1 0 rfl rfl rfl h22 dX6_setGuarantor_61 ?_
          obtain ⟨x23, ex23, hf⟩ := lt_some hf
          refine lv_nmi ex23 ?_
          refine lv_istore_n (lv' := [(3, .int x23), (0, .ref (a0 0)), (1, .int i1), (2, .int i2)]) hx hb dX6_setGuarantor_62 rfl hl (by decide) rfl (fun ls hl => ?_)
          refine lv_aload_n hx hb dX6_setGuarantor_63 rfl (lv_at hl 1 rfl) ?_
          refine g_get (C := RX6) (T := TX6) (N := 15) hx hb hts iwX6_setGuarantor_X6 hown hK hP 0 0 rfl rfl rfl 1 (Nat.le_of_ble_eq_true rfl) (hts _ kX6_setGuarantor_1) (fun _ h9 => h9) rfl dX6_setGuarantor_64 ?_
          refine lv_bipush (v := (13:Int32)) hx hb dX6_setGuarantor_67 (by decide) ?_
          refine lv_iload_n hx hb dX6_setGuarantor_69 rfl (lv_at hl 2 rfl) ?_
          refine lv_iadd hx hb dX6_setGuarantor_70 ?_
          refine lv_iload_n hx hb dX6_setGuarantor_71 rfl (lv_at hl 3 rfl) ?_
          obtain ⟨h24, hf⟩ := gi_some hf
          obtain ⟨u25, eu25, hf⟩ := lt_some hf
          refine g_iast (gs' := [mdW G a0 u25]) hx hb hK hP hD hS 0 1 0 rfl rfl rfl h24 dX6_setGuarantor_72 (by rw [eu25]; rfl) (fun H locs hP hD hS => ?_)
          refine lv_iload_n hx hb dX6_setGuarantor_73 rfl (lv_at hl 0 rfl) ?_
          cases hf
          exact g_iret hx hb hr hlocks hP hS dX6_setGuarantor_74
        · rw [if_neg c20] at hf
          refine lv_iconst (v := (0:Int32)) hx hb dX6_setGuarantor_47 (by decide) ?_
          cases hf
          exact g_iret hx hb hr hlocks hP hS dX6_setGuarantor_48
    · rw [if_neg c10] at hf
      refine lv_aload_n hx hb dX6_setGuarantor_15 rfl (lv_at hl 0 rfl) ?_
      refine lv_iload_n hx hb dX6_setGuarantor_16 rfl (lv_at hl 2 rfl) ?_
      obtain ⟨q26, hq26, hf⟩ := bd_some hf
      refine g_callVi S (As := [.int i2]) (gs' := [mdW G a0 v0]) (c_X6_isMember l G a0 v0 i2 hq26) (cwV 1 hts gX6_setGuarantor_X6_isMember rfl rfl rfl hd_X6_isMember ⟨Nat.le_of_ble_eq_true rfl, Nat.le_of_ble_eq_true rfl⟩) hK hP hD hS hA (is := [0]) rfl rfl 0 rfl rfl rfl rfl hl.1 rfl (Nat.le_of_ble_eq_true rfl) dX6_setGuarantor_17 ⟨Nat.le_of_ble_eq_true rfl, Nat.le_of_ble_eq_true rfl⟩ rfl (fun H locs hP hD hS => ?_)
      refine lv_if_ne (tgt := 27) hx hb dX6_setGuarantor_20 (by decide) (fun c27 => ?_) (fun c27 => ?_)
      · rw [if_neg c27] at hf
        refine lv_iload_n hx hb dX6_setGuarantor_27 rfl (lv_at hl 1 rfl) ?_
        refine lv_iload_n hx hb dX6_setGuarantor_28 rfl (lv_at hl 2 rfl) ?_
        refine lv_icmp_ne (tgt := 36) hx hb dX6_setGuarantor_29 (by decide) (fun c28 => ?_) (fun c28 => ?_)
        · rw [if_neg c28] at hf
          refine lv_iconst (v := (0:Int32)) hx hb dX6_setGuarantor_36 (by decide) ?_
          obtain ⟨u29, eu29, hf⟩ := lt_some hf
          refine g_put (ty := .int) (C := RX6) (T := TX6) (N := 15) (gs' := [mdW G a0 u29]) hx hb hts iwX6_setGuarantor_X6 tyX6 tyX6_ok nmX6 hown hK hP hD hS 0 0 rfl rfl rfl 0 (Nat.le_of_ble_eq_true rfl) (hts _ kX6_setGuarantor_0) (fun _ h9 => h9) rfl (by decide +kernel) rfl rfl (Nat.le_of_ble_eq_true rfl) dX6_setGuarantor_37 (by rw [eu29]; rfl) (fun H locs hP hD hS => ?_)
          refine lv_aload_n hx hb dX6_setGuarantor_40 rfl (lv_at hl 0 rfl) ?_
          refine g_get (C := RX6) (T := TX6) (N := 15) hx hb hts iwX6_setGuarantor_X6 hown hK hP 0 0 rfl rfl rfl 0 (Nat.le_of_ble_eq_true rfl) (hts _ kX6_setGuarantor_0) (fun _ h9 => h9) rfl dX6_setGuarantor_41 ?_
          refine lv_if_le (tgt := 49) hx hb dX6_setGuarantor_44 (by decide) (fun c30 => ?_) (fun c30 => ?_)
          · rw [if_pos c30] at hf
            refine lv_aload_n hx hb dX6_setGuarantor_49 rfl (lv_at hl 0 rfl) ?_
            obtain ⟨q31, hq31, hf⟩ := bd_some hf
            refine g_callVv S (As := []) (gs' := [mdW G a0 q31.2]) (c_X6_remember l G a0 u29 hq31) (cwV 0 hts gX6_setGuarantor_X6_remember rfl rfl rfl hd_X6_remember ⟨Nat.le_of_ble_eq_true rfl, Nat.le_of_ble_eq_true rfl⟩) hK hP hD hS hA (is := [0]) rfl rfl 0 rfl rfl rfl rfl hl.1 rfl (Nat.le_of_ble_eq_true rfl) dX6_setGuarantor_50 ⟨Nat.le_of_ble_eq_true rfl, Nat.le_of_ble_eq_true rfl⟩ rfl (fun H locs hP hD hS => ?_)
            refine lv_aload_n hx hb dX6_setGuarantor_53 rfl (lv_at hl 0 rfl) ?_
            refine g_get (C := RX6) (T := TX6) (N := 15) hx hb hts iwX6_setGuarantor_X6 hown hK hP 0 0 rfl rfl rfl 1 (Nat.le_of_ble_eq_true rfl) (hts _ kX6_setGuarantor_1) (fun _ h9 => h9) rfl dX6_setGuarantor_54 ?_
            refine lv_bipush (v := (13:Int32)) hx hb dX6_setGuarantor_57 (by decide) ?_
            refine lv_iload_n hx hb dX6_setGuarantor_59 rfl (lv_at hl 1 rfl) ?_
            refine lv_iadd hx hb dX6_setGuarantor_60 ?_
            obtain ⟨h32, hf⟩ := gi_some hf
            refine g_iald hx hb hK hP 0 1 0 rfl rfl rfl h32 dX6_setGuarantor_61 ?_
            obtain ⟨x33, ex33, hf⟩ := lt_some hf
            refine lv_nmi ex33 ?_
            refine lv_istore_n (lv' := [(3, .int x33), (0, .ref (a0 0)), (1, .int i1), (2, .int i2)]) hx hb dX6_setGuarantor_62 rfl hl (by decide) rfl (fun ls hl => ?_)
            refine lv_aload_n hx hb dX6_setGuarantor_63 rfl (lv_at hl 1 rfl) ?_
            refine g_get (C := RX6) (T := TX6) (N := 15) hx hb hts iwX6_setGuarantor_X6 hown hK hP 0 0 rfl rfl rfl 1 (Nat.le_of_ble_eq_true rfl) (hts _ kX6_setGuarantor_1) (fun _ h9 => h9) rfl dX6_setGuarantor_64 ?_
            refine lv_bipush (v := (13:Int32)) hx hb dX6_setGuarantor_67 (by decide) ?_
            refine lv_iload_n hx hb dX6_setGuarantor_69 rfl (lv_at hl 2 rfl) ?_
            refine lv_iadd hx hb dX6_setGuarantor_70 ?_
            refine lv_iload_n hx hb dX6_setGuarantor_71 rfl (lv_at hl 3 rfl) ?_
            obtain ⟨h34, hf⟩ := gi_some hf
            obtain ⟨u35, eu35, hf⟩ := lt_some hf
            refine g_iast (gs' := [mdW G a0 u35]) hx hb hK hP hD hS 0 1 0 rfl rfl rfl h34 dX6_setGuarantor_72 (by rw [eu35]; rfl) (fun H locs hP hD hS => ?_)
            refine lv_iload_n hx hb dX6_setGuarantor_73 rfl (lv_at hl 0 rfl) ?_
            cases hf
            exact g_iret hx hb hr hlocks hP hS dX6_setGuarantor_74
          · rw [if_neg c30] at hf
            refine lv_iconst (v := (0:Int32)) hx hb dX6_setGuarantor_47 (by decide) ?_
            cases hf
            exact g_iret hx hb hr hlocks hP hS dX6_setGuarantor_48
        · rw [if_pos c28] at hf
          refine lv_iconst (v := (2:Int32)) hx hb dX6_setGuarantor_32 (by decide) ?_
          refine lv_goto (tgt := 37) hx hb dX6_setGuarantor_33 (by decide) ?_
          obtain ⟨u36, eu36, hf⟩ := lt_some hf
          refine g_put (ty := .int) (C := RX6) (T := TX6) (N := 15) (gs' := [mdW G a0 u36]) hx hb hts iwX6_setGuarantor_X6 tyX6 tyX6_ok nmX6 hown hK hP hD hS 0 0 rfl rfl rfl 0 (Nat.le_of_ble_eq_true rfl) (hts _ kX6_setGuarantor_0) (fun _ h9 => h9) rfl (by decide +kernel) rfl rfl (Nat.le_of_ble_eq_true rfl) dX6_setGuarantor_37 (by rw [eu36]; rfl) (fun H locs hP hD hS => ?_)
          refine lv_aload_n hx hb dX6_setGuarantor_40 rfl (lv_at hl 0 rfl) ?_
          refine g_get (C := RX6) (T := TX6) (N := 15) hx hb hts iwX6_setGuarantor_X6 hown hK hP 0 0 rfl rfl rfl 0 (Nat.le_of_ble_eq_true rfl) (hts _ kX6_setGuarantor_0) (fun _ h9 => h9) rfl dX6_setGuarantor_41 ?_
          refine lv_if_le (tgt := 49) hx hb dX6_setGuarantor_44 (by decide) (fun c37 => ?_) (fun c37 => ?_)
          · rw [if_pos c37] at hf
            refine lv_aload_n hx hb dX6_setGuarantor_49 rfl (lv_at hl 0 rfl) ?_
            obtain ⟨q38, hq38, hf⟩ := bd_some hf
            refine g_callVv S (As := []) (gs' := [mdW G a0 q38.2]) (c_X6_remember l G a0 u36 hq38) (cwV 0 hts gX6_setGuarantor_X6_remember rfl rfl rfl hd_X6_remember ⟨Nat.le_of_ble_eq_true rfl, Nat.le_of_ble_eq_true rfl⟩) hK hP hD hS hA (is := [0]) rfl rfl 0 rfl rfl rfl rfl hl.1 rfl (Nat.le_of_ble_eq_true rfl) dX6_setGuarantor_50 ⟨Nat.le_of_ble_eq_true rfl, Nat.le_of_ble_eq_true rfl⟩ rfl (fun H locs hP hD hS => ?_)
            refine lv_aload_n hx hb dX6_setGuarantor_53 rfl (lv_at hl 0 rfl) ?_
            refine g_get (C := RX6) (T := TX6) (N := 15) hx hb hts iwX6_setGuarantor_X6 hown hK hP 0 0 rfl rfl rfl 1 (Nat.le_of_ble_eq_true rfl) (hts _ kX6_setGuarantor_1) (fun _ h9 => h9) rfl dX6_setGuarantor_54 ?_
            refine lv_bipush (v := (13:Int32)) hx hb dX6_setGuarantor_57 (by decide) ?_
            refine lv_iload_n hx hb dX6_setGuarantor_59 rfl (lv_at hl 1 rfl) ?_
            refine lv_iadd hx hb dX6_setGuarantor_60 ?_
            obtain ⟨h39, hf⟩ := gi_some hf
            refine g_iald hx hb hK hP 0 1 0 rfl rfl rfl h39 dX6_setGuarantor_61 ?_
            obtain ⟨x40, ex40, hf⟩ := lt_some hf
            refine lv_nmi ex40 ?_
            refine lv_istore_n (lv' := [(3, .int x40), (0, .ref (a0 0)), (1, .int i1), (2, .int i2)]) hx hb dX6_setGuarantor_62 rfl hl (by decide) rfl (fun ls hl => ?_)
            refine lv_aload_n hx hb dX6_setGuarantor_63 rfl (lv_at hl 1 rfl) ?_
            refine g_get (C := RX6) (T := TX6) (N := 15) hx hb hts iwX6_setGuarantor_X6 hown hK hP 0 0 rfl rfl rfl 1 (Nat.le_of_ble_eq_true rfl) (hts _ kX6_setGuarantor_1) (fun _ h9 => h9) rfl dX6_setGuarantor_64 ?_
            refine lv_bipush (v := (13:Int32)) hx hb dX6_setGuarantor_67 (by decide) ?_
            refine lv_iload_n hx hb dX6_setGuarantor_69 rfl (lv_at hl 2 rfl) ?_
            refine lv_iadd hx hb dX6_setGuarantor_70 ?_
            refine lv_iload_n hx hb dX6_setGuarantor_71 rfl (lv_at hl 3 rfl) ?_
            obtain ⟨h41, hf⟩ := gi_some hf
            obtain ⟨u42, eu42, hf⟩ := lt_some hf
            refine g_iast (gs' := [mdW G a0 u42]) hx hb hK hP hD hS 0 1 0 rfl rfl rfl h41 dX6_setGuarantor_72 (by rw [eu42]; rfl) (fun H locs hP hD hS => ?_)
            refine lv_iload_n hx hb dX6_setGuarantor_73 rfl (lv_at hl 0 rfl) ?_
            cases hf
            exact g_iret hx hb hr hlocks hP hS dX6_setGuarantor_74
          · rw [if_neg c37] at hf
            refine lv_iconst (v := (0:Int32)) hx hb dX6_setGuarantor_47 (by decide) ?_
            cases hf
            exact g_iret hx hb hr hlocks hP hS dX6_setGuarantor_48
      · rw [if_pos c27] at hf
        refine lv_iconst (v := (1:Int32)) hx hb dX6_setGuarantor_23 (by decide) ?_
        refine lv_goto (tgt := 37) hx hb dX6_setGuarantor_24 (by decide) ?_
        obtain ⟨u43, eu43, hf⟩ := lt_some hf
        refine g_put (ty := .int) (C := RX6) (T := TX6) (N := 15) (gs' := [mdW G a0 u43]) hx hb hts iwX6_setGuarantor_X6 tyX6 tyX6_ok nmX6 hown hK hP hD hS 0 0 rfl rfl rfl 0 (Nat.le_of_ble_eq_true rfl) (hts _ kX6_setGuarantor_0) (fun _ h9 => h9) rfl (by decide +kernel) rfl rfl (Nat.le_of_ble_eq_true rfl) dX6_setGuarantor_37 (by rw [eu43]; rfl) (fun H locs hP hD hS => ?_)
        refine lv_aload_n hx hb dX6_setGuarantor_40 rfl (lv_at hl 0 rfl) ?_
        refine g_get (C := RX6) (T := TX6) (N := 15) hx hb hts iwX6_setGuarantor_X6 hown hK hP 0 0 rfl rfl rfl 0 (Nat.le_of_ble_eq_true rfl) (hts _ kX6_setGuarantor_0) (fun _ h9 => h9) rfl dX6_setGuarantor_41 ?_
        refine lv_if_le (tgt := 49) hx hb dX6_setGuarantor_44 (by decide) (fun c44 => ?_) (fun c44 => ?_)
        · rw [if_pos c44] at hf
          refine lv_aload_n hx hb dX6_setGuarantor_49 rfl (lv_at hl 0 rfl) ?_
          obtain ⟨q45, hq45, hf⟩ := bd_some hf
          refine g_callVv S (As := []) (gs' := [mdW G a0 q45.2]) (c_X6_remember l G a0 u43 hq45) (cwV 0 hts gX6_setGuarantor_X6_remember rfl rfl rfl hd_X6_remember ⟨Nat.le_of_ble_eq_true rfl, Nat.le_of_ble_eq_true rfl⟩) hK hP hD hS hA (is := [0]) rfl rfl 0 rfl rfl rfl rfl hl.1 rfl (Nat.le_of_ble_eq_true rfl) dX6_setGuarantor_50 ⟨Nat.le_of_ble_eq_true rfl, Nat.le_of_ble_eq_true rfl⟩ rfl (fun H locs hP hD hS => ?_)
          refine lv_aload_n hx hb dX6_setGuarantor_53 rfl (lv_at hl 0 rfl) ?_
          refine g_get (C := RX6) (T := TX6) (N := 15) hx hb hts iwX6_setGuarantor_X6 hown hK hP 0 0 rfl rfl rfl 1 (Nat.le_of_ble_eq_true rfl) (hts _ kX6_setGuarantor_1) (fun _ h9 => h9) rfl dX6_setGuarantor_54 ?_
          refine lv_bipush (v := (13:Int32)) hx hb dX6_setGuarantor_57 (by decide) ?_
          refine lv_iload_n hx hb dX6_setGuarantor_59 rfl (lv_at hl 1 rfl) ?_
          refine lv_iadd hx hb dX6_setGuarantor_60 ?_
          obtain ⟨h46, hf⟩ := gi_some hf
          refine g_iald hx hb hK hP 0 1 0 rfl rfl rfl h46 dX6_setGuarantor_61 ?_
          obtain ⟨x47, ex47, hf⟩ := lt_some hf
          refine lv_nmi ex47 ?_
          refine lv_istore_n (lv' := [(3, .int x47), (0, .ref (a0 0)), (1, .int i1), (2, .int i2)]) hx hb dX6_setGuarantor_62 rfl hl (by decide) rfl (fun ls hl => ?_)
          refine lv_aload_n hx hb dX6_setGuarantor_63 rfl (lv_at hl 1 rfl) ?_
          refine g_get (C := RX6) (T := TX6) (N := 15) hx hb hts iwX6_setGuarantor_X6 hown hK hP 0 0 rfl rfl rfl 1 (Nat.le_of_ble_eq_true rfl) (hts _ kX6_setGuarantor_1) (fun _ h9 => h9) rfl dX6_setGuarantor_64 ?_
          refine lv_bipush (v := (13:Int32)) hx hb dX6_setGuarantor_67 (by decide) ?_
          refine lv_iload_n hx hb dX6_setGuarantor_69 rfl (lv_at hl 2 rfl) ?_
          refine lv_iadd hx hb dX6_setGuarantor_70 ?_
          refine lv_iload_n hx hb dX6_setGuarantor_71 rfl (lv_at hl 3 rfl) ?_
          obtain ⟨h48, hf⟩ := gi_some hf
          obtain ⟨u49, eu49, hf⟩ := lt_some hf
          refine g_iast (gs' := [mdW G a0 u49]) hx hb hK hP hD hS 0 1 0 rfl rfl rfl h48 dX6_setGuarantor_72 (by rw [eu49]; rfl) (fun H locs hP hD hS => ?_)
          refine lv_iload_n hx hb dX6_setGuarantor_73 rfl (lv_at hl 0 rfl) ?_
          cases hf
          exact g_iret hx hb hr hlocks hP hS dX6_setGuarantor_74
        · rw [if_neg c44] at hf
          refine lv_iconst (v := (0:Int32)) hx hb dX6_setGuarantor_47 (by decide) ?_
          cases hf
          exact g_iret hx hb hr hlocks hP hS dX6_setGuarantor_48
theorem kX6_whyNotBid_0 : Cond.fieldLink RX6 7 "SavingsCircleModel" "z" "[I" ∈ wsX6_whyNotBid := (List.mem_cons_of_mem _ (List.mem_append_left _ (List.mem_of_getElem? (i := 0) rfl)))
theorem iwX6_whyNotBid_X6 : ∀ w ∈ wsX60, w ∈ wsX6_whyNotBid := fun w h => (List.mem_cons_of_mem _ (List.mem_append_right _ h))
set_option maxHeartbeats 4000000 in
set_option maxRecDepth 100000 in
theorem c_X6_whyNotBid (l : Launch) (G : uG) (a0 : Nat → Nat) (v0 : MdV) (i1 : Int32) (i2 : Int32) {q : Int32 × (Unit)} (hf : f_X6_whyNotBid v0 i1 i2 = some q) : mQ l yX6_whyNotBid wsX6_whyNotBid ({ frames := 1, cells := 0, slots := 0, locals := 22 } : Room) G [.ref (a0 0), .int i1, .int i2] [mdW G a0 v0] [mdW G a0 v0] (qI G [mdW G a0 v0] q.1) := by
  unfold f_X6_whyNotBid at hf
  refine m_of (cc := cX6_whyNotBid) (maxL := 3) (ret := (some .int)) (by decide) rfl rfl (Nat.le_of_ble_eq_true rfl) ?_
  intro p e s m args below meth c A ls S hK hA hP hD hS hl
  obtain ⟨hx, hb, hml, hown, hts, hr, hlocks⟩ := id S
  have hl : lv_has ls 3 [(0, .ref (a0 0)), (1, .int i1), (2, .int i2)] := hl
  refine lv_aload_n hx hb dX6_whyNotBid_0 rfl (lv_at hl 0 rfl) ?_
  refine lv_iload_n hx hb dX6_whyNotBid_1 rfl (lv_at hl 1 rfl) ?_
  obtain ⟨q1, hq1, hf⟩ := bd_some hf
  refine g_callVi S (As := [.int i1]) (gs' := [mdW G a0 v0]) (c_X6_isMember l G a0 v0 i1 hq1) (cwV 1 hts gX6_whyNotBid_X6_isMember rfl rfl rfl hd_X6_isMember ⟨Nat.le_of_ble_eq_true rfl, Nat.le_of_ble_eq_true rfl⟩) hK hP hD hS hA (is := [0]) rfl rfl 0 rfl rfl rfl rfl hl.1 rfl (Nat.le_of_ble_eq_true rfl) dX6_whyNotBid_2 ⟨Nat.le_of_ble_eq_true rfl, Nat.le_of_ble_eq_true rfl⟩ rfl (fun H locs hP hD hS => ?_)
  refine lv_if_ne (tgt := 10) hx hb dX6_whyNotBid_5 (by decide) (fun c2 => ?_) (fun c2 => ?_)
  · rw [if_neg c2] at hf
    refine lv_iload_n hx hb dX6_whyNotBid_10 rfl (lv_at hl 2 rfl) ?_
    refine lv_iconst (v := (0:Int32)) hx hb dX6_whyNotBid_11 (by decide) ?_
    refine lv_sipush (v := (999:Int32)) hx hb dX6_whyNotBid_12 (by decide) ?_
    obtain ⟨q3, hq3, hf⟩ := bd_some hf
    refine g_callSi S (As := [.int i2, .int (0:Int32), .int (999:Int32)]) (gs' := [mdW G a0 v0]) (c_X6_in l G i2 (0:Int32) (999:Int32) hq3) (va_cwS 3 hts gX6_whyNotBid_X6_in rfl rfl rfl hd_X6_in.2 ⟨Nat.le_of_ble_eq_true rfl, Nat.le_of_ble_eq_true rfl⟩) hK hP hD hS hA (is := []) rfl rfl rfl hl.1 rfl (Nat.le_of_ble_eq_true rfl) dX6_whyNotBid_15 ⟨Nat.le_of_ble_eq_true rfl, Nat.le_of_ble_eq_true rfl⟩ rfl (fun H locs hP hD hS => ?_)
    refine lv_if_ne (tgt := 23) hx hb dX6_whyNotBid_18 (by decide) (fun c4 => ?_) (fun c4 => ?_)
    · rw [if_neg c4] at hf
      refine lv_aload_n hx hb dX6_whyNotBid_23 rfl (lv_at hl 0 rfl) ?_
      refine g_get (C := RX6) (T := TX6) (N := 15) hx hb hts iwX6_whyNotBid_X6 hown hK hP 0 0 rfl rfl rfl 1 (Nat.le_of_ble_eq_true rfl) (hts _ kX6_whyNotBid_0) (fun _ h9 => h9) rfl dX6_whyNotBid_24 ?_
      refine lv_bipush (v := (45:Int32)) hx hb dX6_whyNotBid_27 (by decide) ?_
      refine lv_iload_n hx hb dX6_whyNotBid_29 rfl (lv_at hl 1 rfl) ?_
      refine lv_iadd hx hb dX6_whyNotBid_30 ?_
      obtain ⟨h5, hf⟩ := gi_some hf
      refine g_iald hx hb hK hP 0 1 0 rfl rfl rfl h5 dX6_whyNotBid_31 ?_
      refine lv_if_eq (tgt := 48) hx hb dX6_whyNotBid_32 (by decide) (fun c6 => ?_) (fun c6 => ?_)
      · rw [if_pos c6] at hf
        refine lv_iconst (v := (3:Int32)) hx hb dX6_whyNotBid_48 (by decide) ?_
        refine lv_goto (tgt := 53) hx hb dX6_whyNotBid_49 (by decide) ?_
        cases hf
        exact g_iret hx hb hr hlocks hP hS dX6_whyNotBid_53
      · rw [if_neg c6] at hf
        refine lv_aload_n hx hb dX6_whyNotBid_35 rfl (lv_at hl 0 rfl) ?_
        refine g_get (C := RX6) (T := TX6) (N := 15) hx hb hts iwX6_whyNotBid_X6 hown hK hP 0 0 rfl rfl rfl 1 (Nat.le_of_ble_eq_true rfl) (hts _ kX6_whyNotBid_0) (fun _ h9 => h9) rfl dX6_whyNotBid_36 ?_
        refine lv_bipush (v := (37:Int32)) hx hb dX6_whyNotBid_39 (by decide) ?_
        refine lv_iload_n hx hb dX6_whyNotBid_41 rfl (lv_at hl 1 rfl) ?_
        refine lv_iadd hx hb dX6_whyNotBid_42 ?_
        obtain ⟨h7, hf⟩ := gi_some hf
        refine g_iald hx hb hK hP 0 1 0 rfl rfl rfl h7 dX6_whyNotBid_43 ?_
        refine lv_iconst (v := (1:Int32)) hx hb dX6_whyNotBid_44 (by decide) ?_
        refine lv_icmp_ne (tgt := 52) hx hb dX6_whyNotBid_45 (by decide) (fun c8 => ?_) (fun c8 => ?_)
        · rw [if_neg c8] at hf
          refine lv_iconst (v := (0:Int32)) hx hb dX6_whyNotBid_52 (by decide) ?_
          cases hf
          exact g_iret hx hb hr hlocks hP hS dX6_whyNotBid_53
        · rw [if_pos c8] at hf
          refine lv_iconst (v := (3:Int32)) hx hb dX6_whyNotBid_48 (by decide) ?_
          refine lv_goto (tgt := 53) hx hb dX6_whyNotBid_49 (by decide) ?_
          cases hf
          exact g_iret hx hb hr hlocks hP hS dX6_whyNotBid_53
    · rw [if_pos c4] at hf
      refine lv_iconst (v := (2:Int32)) hx hb dX6_whyNotBid_21 (by decide) ?_
      cases hf
      exact g_iret hx hb hr hlocks hP hS dX6_whyNotBid_22
  · rw [if_pos c2] at hf
    refine lv_iconst (v := (1:Int32)) hx hb dX6_whyNotBid_8 (by decide) ?_
    cases hf
    exact g_iret hx hb hr hlocks hP hS dX6_whyNotBid_9
theorem kX6_bid_0 : Cond.fieldLink RX6 38 "SavingsCircleModel" "thrown" "I" ∈ wsX6_bid := (List.mem_cons_of_mem _ (List.mem_append_left _ (List.mem_of_getElem? (i := 0) rfl)))
theorem kX6_bid_1 : Cond.fieldLink RX6 7 "SavingsCircleModel" "z" "[I" ∈ wsX6_bid := (List.mem_cons_of_mem _ (List.mem_append_left _ (List.mem_of_getElem? (i := 1) rfl)))
theorem iwX6_bid_X6 : ∀ w ∈ wsX60, w ∈ wsX6_bid := fun w h => (List.mem_cons_of_mem _ (List.mem_append_right _ h))
set_option maxHeartbeats 4000000 in
set_option maxRecDepth 100000 in
theorem c_X6_bid (l : Launch) (G : uG) (a0 : Nat → Nat) (v0 : MdV) (i1 : Int32) (i2 : Int32) {q : Int32 × (MdV)} (hf : f_X6_bid v0 i1 i2 = some q) : mQ l yX6_bid wsX6_bid ({ frames := 2, cells := 0, slots := 0, locals := 44 } : Room) G [.ref (a0 0), .int i1, .int i2] [mdW G a0 v0] [mdW G a0 q.2] (qI G [mdW G a0 q.2] q.1) := by
  unfold f_X6_bid at hf
  refine m_of (cc := cX6_bid) (maxL := 4) (ret := (some .int)) (by decide) rfl rfl (Nat.le_of_ble_eq_true rfl) ?_
  intro p e s m args below meth c A ls S hK hA hP hD hS hl
  obtain ⟨hx, hb, hml, hown, hts, hr, hlocks⟩ := id S
  have hl : lv_has ls 4 [(0, .ref (a0 0)), (1, .int i1), (2, .int i2)] := hl
  refine lv_aload_n hx hb dX6_bid_0 rfl (lv_at hl 0 rfl) ?_
  refine lv_aload_n hx hb dX6_bid_1 rfl (lv_at hl 0 rfl) ?_
  refine lv_iload_n hx hb dX6_bid_2 rfl (lv_at hl 1 rfl) ?_
  refine lv_iload_n hx hb dX6_bid_3 rfl (lv_at hl 2 rfl) ?_
  obtain ⟨q1, hq1, hf⟩ := bd_some hf
  refine g_callVi S (As := [.int i1, .int i2]) (gs' := [mdW G a0 v0]) (c_X6_whyNotBid l G a0 v0 i1 i2 hq1) (cwV 2 hts gX6_bid_X6_whyNotBid rfl rfl rfl hd_X6_whyNotBid ⟨Nat.le_of_ble_eq_true rfl, Nat.le_of_ble_eq_true rfl⟩) hK hP hD hS hA (is := [0]) rfl rfl 0 rfl rfl rfl rfl hl.1 rfl (Nat.le_of_ble_eq_true rfl) dX6_bid_4 ⟨Nat.le_of_ble_eq_true rfl, Nat.le_of_ble_eq_true rfl⟩ rfl (fun H locs hP hD hS => ?_)
  obtain ⟨u2, eu2, hf⟩ := lt_some hf
  refine g_put (ty := .int) (C := RX6) (T := TX6) (N := 15) (gs' := [mdW G a0 u2]) hx hb hts iwX6_bid_X6 tyX6 tyX6_ok nmX6 hown hK hP hD hS 0 0 rfl rfl rfl 0 (Nat.le_of_ble_eq_true rfl) (hts _ kX6_bid_0) (fun _ h9 => h9) rfl (by decide +kernel) rfl rfl (Nat.le_of_ble_eq_true rfl) dX6_bid_7 (by rw [eu2]; rfl) (fun H locs hP hD hS => ?_)
  refine lv_aload_n hx hb dX6_bid_10 rfl (lv_at hl 0 rfl) ?_
  refine g_get (C := RX6) (T := TX6) (N := 15) hx hb hts iwX6_bid_X6 hown hK hP 0 0 rfl rfl rfl 0 (Nat.le_of_ble_eq_true rfl) (hts _ kX6_bid_0) (fun _ h9 => h9) rfl dX6_bid_11 ?_
  refine lv_if_le (tgt := 19) hx hb dX6_bid_14 (by decide) (fun c3 => ?_) (fun c3 => ?_)
  · rw [if_pos c3] at hf
    refine lv_aload_n hx hb dX6_bid_19 rfl (lv_at hl 0 rfl) ?_
    obtain ⟨q4, hq4, hf⟩ := bd_some hf
    refine g_callVv S (As := []) (gs' := [mdW G a0 q4.2]) (c_X6_remember l G a0 u2 hq4) (cwV 0 hts gX6_bid_X6_remember rfl rfl rfl hd_X6_remember ⟨Nat.le_of_ble_eq_true rfl, Nat.le_of_ble_eq_true rfl⟩) hK hP hD hS hA (is := [0]) rfl rfl 0 rfl rfl rfl rfl hl.1 rfl (Nat.le_of_ble_eq_true rfl) dX6_bid_20 ⟨Nat.le_of_ble_eq_true rfl, Nat.le_of_ble_eq_true rfl⟩ rfl (fun H locs hP hD hS => ?_)
    refine lv_aload_n hx hb dX6_bid_23 rfl (lv_at hl 0 rfl) ?_
    refine g_get (C := RX6) (T := TX6) (N := 15) hx hb hts iwX6_bid_X6 hown hK hP 0 0 rfl rfl rfl 1 (Nat.le_of_ble_eq_true rfl) (hts _ kX6_bid_1) (fun _ h9 => h9) rfl dX6_bid_24 ?_
    refine lv_bipush (v := (21:Int32)) hx hb dX6_bid_27 (by decide) ?_
    refine lv_iload_n hx hb dX6_bid_29 rfl (lv_at hl 1 rfl) ?_
    refine lv_iadd hx hb dX6_bid_30 ?_
    obtain ⟨h5, hf⟩ := gi_some hf
    refine g_iald hx hb hK hP 0 1 0 rfl rfl rfl h5 dX6_bid_31 ?_
    obtain ⟨x6, ex6, hf⟩ := lt_some hf
    refine lv_nmi ex6 ?_
    refine lv_istore_n (lv' := [(3, .int x6), (0, .ref (a0 0)), (1, .int i1), (2, .int i2)]) hx hb dX6_bid_32 rfl hl (by decide) rfl (fun ls hl => ?_)
    refine lv_aload_n hx hb dX6_bid_33 rfl (lv_at hl 1 rfl) ?_
    refine g_get (C := RX6) (T := TX6) (N := 15) hx hb hts iwX6_bid_X6 hown hK hP 0 0 rfl rfl rfl 1 (Nat.le_of_ble_eq_true rfl) (hts _ kX6_bid_1) (fun _ h9 => h9) rfl dX6_bid_34 ?_
    refine lv_bipush (v := (21:Int32)) hx hb dX6_bid_37 (by decide) ?_
    refine lv_iload_n hx hb dX6_bid_39 rfl (lv_at hl 2 rfl) ?_
    refine lv_iadd hx hb dX6_bid_40 ?_
    refine lv_iload_n hx hb dX6_bid_41 rfl (lv_at hl 3 rfl) ?_
    obtain ⟨h7, hf⟩ := gi_some hf
    obtain ⟨u8, eu8, hf⟩ := lt_some hf
    refine g_iast (gs' := [mdW G a0 u8]) hx hb hK hP hD hS 0 1 0 rfl rfl rfl h7 dX6_bid_42 (by rw [eu8]; rfl) (fun H locs hP hD hS => ?_)
    refine lv_iload_n hx hb dX6_bid_43 rfl (lv_at hl 0 rfl) ?_
    cases hf
    exact g_iret hx hb hr hlocks hP hS dX6_bid_44
  · rw [if_neg c3] at hf
    refine lv_iconst (v := (0:Int32)) hx hb dX6_bid_17 (by decide) ?_
    cases hf
    exact g_iret hx hb hr hlocks hP hS dX6_bid_18
theorem kX6_stayAway_0 : Cond.fieldLink RX6 38 "SavingsCircleModel" "thrown" "I" ∈ wsX6_stayAway := (List.mem_cons_of_mem _ (List.mem_append_left _ (List.mem_of_getElem? (i := 0) rfl)))
theorem kX6_stayAway_1 : Cond.fieldLink RX6 7 "SavingsCircleModel" "z" "[I" ∈ wsX6_stayAway := (List.mem_cons_of_mem _ (List.mem_append_left _ (List.mem_of_getElem? (i := 1) rfl)))
theorem iwX6_stayAway_X6 : ∀ w ∈ wsX60, w ∈ wsX6_stayAway := fun w h => (List.mem_cons_of_mem _ (List.mem_append_right _ h))
set_option maxHeartbeats 4000000 in
set_option maxRecDepth 100000 in
theorem c_X6_stayAway (l : Launch) (G : uG) (a0 : Nat → Nat) (v0 : MdV) (i1 : Int32) (i2 : Int32) {q : Int32 × (MdV)} (hf : f_X6_stayAway v0 i1 i2 = some q) : mQ l yX6_stayAway wsX6_stayAway ({ frames := 1, cells := 0, slots := 0, locals := 21 } : Room) G [.ref (a0 0), .int i1, .int i2] [mdW G a0 v0] [mdW G a0 q.2] (qI G [mdW G a0 q.2] q.1) := by
  unfold f_X6_stayAway at hf
  refine m_of (cc := cX6_stayAway) (maxL := 4) (ret := (some .boolean)) (by decide) rfl rfl (Nat.le_of_ble_eq_true rfl) ?_
  intro p e s m args below meth c A ls S hK hA hP hD hS hl
  obtain ⟨hx, hb, hml, hown, hts, hr, hlocks⟩ := id S
  have hl : lv_has ls 4 [(0, .ref (a0 0)), (1, .int i1), (2, .int i2)] := hl
  refine lv_aload_n hx hb dX6_stayAway_0 rfl (lv_at hl 0 rfl) ?_
  refine lv_aload_n hx hb dX6_stayAway_1 rfl (lv_at hl 0 rfl) ?_
  refine lv_iload_n hx hb dX6_stayAway_2 rfl (lv_at hl 1 rfl) ?_
  obtain ⟨q1, hq1, hf⟩ := bd_some hf
  refine g_callVi S (As := [.int i1]) (gs' := [mdW G a0 v0]) (c_X6_isMember l G a0 v0 i1 hq1) (cwV 1 hts gX6_stayAway_X6_isMember rfl rfl rfl hd_X6_isMember ⟨Nat.le_of_ble_eq_true rfl, Nat.le_of_ble_eq_true rfl⟩) hK hP hD hS hA (is := [0]) rfl rfl 0 rfl rfl rfl rfl hl.1 rfl (Nat.le_of_ble_eq_true rfl) dX6_stayAway_3 ⟨Nat.le_of_ble_eq_true rfl, Nat.le_of_ble_eq_true rfl⟩ rfl (fun H locs hP hD hS => ?_)
  refine lv_if_eq (tgt := 13) hx hb dX6_stayAway_6 (by decide) (fun c2 => ?_) (fun c2 => ?_)
  · rw [if_pos c2] at hf
    refine lv_iconst (v := (1:Int32)) hx hb dX6_stayAway_13 (by decide) ?_
    obtain ⟨u3, eu3, hf⟩ := lt_some hf
    refine g_put (ty := .int) (C := RX6) (T := TX6) (N := 15) (gs' := [mdW G a0 u3]) hx hb hts iwX6_stayAway_X6 tyX6 tyX6_ok nmX6 hown hK hP hD hS 0 0 rfl rfl rfl 0 (Nat.le_of_ble_eq_true rfl) (hts _ kX6_stayAway_0) (fun _ h9 => h9) rfl (by decide +kernel) rfl rfl (Nat.le_of_ble_eq_true rfl) dX6_stayAway_14 (by rw [eu3]; rfl) (fun H locs hP hD hS => ?_)
    refine lv_aload_n hx hb dX6_stayAway_17 rfl (lv_at hl 0 rfl) ?_
    refine g_get (C := RX6) (T := TX6) (N := 15) hx hb hts iwX6_stayAway_X6 hown hK hP 0 0 rfl rfl rfl 0 (Nat.le_of_ble_eq_true rfl) (hts _ kX6_stayAway_0) (fun _ h9 => h9) rfl dX6_stayAway_18 ?_
    refine lv_if_le (tgt := 26) hx hb dX6_stayAway_21 (by decide) (fun c4 => ?_) (fun c4 => ?_)
    · rw [if_pos c4] at hf
      refine lv_aload_n hx hb dX6_stayAway_26 rfl (lv_at hl 0 rfl) ?_
      obtain ⟨q5, hq5, hf⟩ := bd_some hf
      refine g_callVv S (As := []) (gs' := [mdW G a0 q5.2]) (c_X6_remember l G a0 u3 hq5) (cwV 0 hts gX6_stayAway_X6_remember rfl rfl rfl hd_X6_remember ⟨Nat.le_of_ble_eq_true rfl, Nat.le_of_ble_eq_true rfl⟩) hK hP hD hS hA (is := [0]) rfl rfl 0 rfl rfl rfl rfl hl.1 rfl (Nat.le_of_ble_eq_true rfl) dX6_stayAway_27 ⟨Nat.le_of_ble_eq_true rfl, Nat.le_of_ble_eq_true rfl⟩ rfl (fun H locs hP hD hS => ?_)
      refine lv_aload_n hx hb dX6_stayAway_30 rfl (lv_at hl 0 rfl) ?_
      refine g_get (C := RX6) (T := TX6) (N := 15) hx hb hts iwX6_stayAway_X6 hown hK hP 0 0 rfl rfl rfl 1 (Nat.le_of_ble_eq_true rfl) (hts _ kX6_stayAway_1) (fun _ h9 => h9) rfl dX6_stayAway_31 ?_
      refine lv_bipush (v := (29:Int32)) hx hb dX6_stayAway_34 (by decide) ?_
      refine lv_iload_n hx hb dX6_stayAway_36 rfl (lv_at hl 1 rfl) ?_
      refine lv_iadd hx hb dX6_stayAway_37 ?_
      obtain ⟨h6, hf⟩ := gi_some hf
      refine g_iald hx hb hK hP 0 1 0 rfl rfl rfl h6 dX6_stayAway_38 ?_
      refine lv_iconst (v := (1:Int32)) hx hb dX6_stayAway_39 (by decide) ?_
      refine lv_icmp_ne (tgt := 47) hx hb dX6_stayAway_40 (by decide) (fun c7 => ?_) (fun c7 => ?_)
      · rw [if_neg c7] at hf
        refine lv_iconst (v := (0:Int32)) hx hb dX6_stayAway_47 (by decide) ?_
        refine lv_istore_n (lv' := [(3, .int (0:Int32)), (0, .ref (a0 0)), (1, .int i1), (2, .int i2)]) hx hb dX6_stayAway_48 rfl hl (by decide) rfl (fun ls hl => ?_)
        refine lv_aload_n hx hb dX6_stayAway_49 rfl (lv_at hl 1 rfl) ?_
        refine g_get (C := RX6) (T := TX6) (N := 15) hx hb hts iwX6_stayAway_X6 hown hK hP 0 0 rfl rfl rfl 1 (Nat.le_of_ble_eq_true rfl) (hts _ kX6_stayAway_1) (fun _ h9 => h9) rfl dX6_stayAway_50 ?_
        refine lv_bipush (v := (29:Int32)) hx hb dX6_stayAway_53 (by decide) ?_
        refine lv_iload_n hx hb dX6_stayAway_55 rfl (lv_at hl 2 rfl) ?_
        refine lv_iadd hx hb dX6_stayAway_56 ?_
        refine lv_iload_n hx hb dX6_stayAway_57 rfl (lv_at hl 3 rfl) ?_
        refine lv_if_eq (tgt := 65) hx hb dX6_stayAway_58 (by decide) (fun c8 => ?_) (fun c8 => ?_)
        · rw [if_pos c8] at hf
          refine lv_iconst (v := (0:Int32)) hx hb dX6_stayAway_65 (by decide) ?_
          obtain ⟨h9, hf⟩ := gi_some hf
          obtain ⟨u10, eu10, hf⟩ := lt_some hf
          refine g_iast (gs' := [mdW G a0 u10]) hx hb hK hP hD hS 0 1 0 rfl rfl rfl h9 dX6_stayAway_66 (by rw [eu10]; rfl) (fun H locs hP hD hS => ?_)
          refine lv_iload_n hx hb dX6_stayAway_67 rfl (lv_at hl 0 rfl) ?_
          cases hf
          exact g_zret hx hb hr gz0 hlocks hP hS dX6_stayAway_68
        · rw [if_neg c8] at hf
          refine lv_iconst (v := (1:Int32)) hx hb dX6_stayAway_61 (by decide) ?_
          refine lv_goto (tgt := 66) hx hb dX6_stayAway_62 (by decide) ?_
          obtain ⟨h11, hf⟩ := gi_some hf
          obtain ⟨u12, eu12, hf⟩ := lt_some hf
          refine g_iast (gs' := [mdW G a0 u12]) hx hb hK hP hD hS 0 1 0 rfl rfl rfl h11 dX6_stayAway_66 (by rw [eu12]; rfl) (fun H locs hP hD hS => ?_)
          refine lv_iload_n hx hb dX6_stayAway_67 rfl (lv_at hl 0 rfl) ?_
          cases hf
          exact g_zret hx hb hr gz0 hlocks hP hS dX6_stayAway_68
      · rw [if_pos c7] at hf
        refine lv_iconst (v := (1:Int32)) hx hb dX6_stayAway_43 (by decide) ?_
        refine lv_goto (tgt := 48) hx hb dX6_stayAway_44 (by decide) ?_
        refine lv_istore_n (lv' := [(3, .int (1:Int32)), (0, .ref (a0 0)), (1, .int i1), (2, .int i2)]) hx hb dX6_stayAway_48 rfl hl (by decide) rfl (fun ls hl => ?_)
        refine lv_aload_n hx hb dX6_stayAway_49 rfl (lv_at hl 1 rfl) ?_
        refine g_get (C := RX6) (T := TX6) (N := 15) hx hb hts iwX6_stayAway_X6 hown hK hP 0 0 rfl rfl rfl 1 (Nat.le_of_ble_eq_true rfl) (hts _ kX6_stayAway_1) (fun _ h9 => h9) rfl dX6_stayAway_50 ?_
        refine lv_bipush (v := (29:Int32)) hx hb dX6_stayAway_53 (by decide) ?_
        refine lv_iload_n hx hb dX6_stayAway_55 rfl (lv_at hl 2 rfl) ?_
        refine lv_iadd hx hb dX6_stayAway_56 ?_
        refine lv_iload_n hx hb dX6_stayAway_57 rfl (lv_at hl 3 rfl) ?_
        refine lv_if_eq (tgt := 65) hx hb dX6_stayAway_58 (by decide) (fun c13 => ?_) (fun c13 => ?_)
        · rw [if_pos c13] at hf
          refine lv_iconst (v := (0:Int32)) hx hb dX6_stayAway_65 (by decide) ?_
          obtain ⟨h14, hf⟩ := gi_some hf
          obtain ⟨u15, eu15, hf⟩ := lt_some hf
          refine g_iast (gs' := [mdW G a0 u15]) hx hb hK hP hD hS 0 1 0 rfl rfl rfl h14 dX6_stayAway_66 (by rw [eu15]; rfl) (fun H locs hP hD hS => ?_)
          refine lv_iload_n hx hb dX6_stayAway_67 rfl (lv_at hl 0 rfl) ?_
          cases hf
          exact g_zret hx hb hr gz1 hlocks hP hS dX6_stayAway_68
        · rw [if_neg c13] at hf
          refine lv_iconst (v := (1:Int32)) hx hb dX6_stayAway_61 (by decide) ?_
          refine lv_goto (tgt := 66) hx hb dX6_stayAway_62 (by decide) ?_
          obtain ⟨h16, hf⟩ := gi_some hf
          obtain ⟨u17, eu17, hf⟩ := lt_some hf
          refine g_iast (gs' := [mdW G a0 u17]) hx hb hK hP hD hS 0 1 0 rfl rfl rfl h16 dX6_stayAway_66 (by rw [eu17]; rfl) (fun H locs hP hD hS => ?_)
          refine lv_iload_n hx hb dX6_stayAway_67 rfl (lv_at hl 0 rfl) ?_
          cases hf
          exact g_zret hx hb hr gz1 hlocks hP hS dX6_stayAway_68
    · rw [if_neg c4] at hf
      refine lv_iconst (v := (0:Int32)) hx hb dX6_stayAway_24 (by decide) ?_
      cases hf
      exact g_zret hx hb hr gz0 hlocks hP hS dX6_stayAway_25
  · rw [if_neg c2] at hf
    refine lv_iconst (v := (0:Int32)) hx hb dX6_stayAway_9 (by decide) ?_
    refine lv_goto (tgt := 14) hx hb dX6_stayAway_10 (by decide) ?_
    obtain ⟨u18, eu18, hf⟩ := lt_some hf
    refine g_put (ty := .int) (C := RX6) (T := TX6) (N := 15) (gs' := [mdW G a0 u18]) hx hb hts iwX6_stayAway_X6 tyX6 tyX6_ok nmX6 hown hK hP hD hS 0 0 rfl rfl rfl 0 (Nat.le_of_ble_eq_true rfl) (hts _ kX6_stayAway_0) (fun _ h9 => h9) rfl (by decide +kernel) rfl rfl (Nat.le_of_ble_eq_true rfl) dX6_stayAway_14 (by rw [eu18]; rfl) (fun H locs hP hD hS => ?_)
    refine lv_aload_n hx hb dX6_stayAway_17 rfl (lv_at hl 0 rfl) ?_
    refine g_get (C := RX6) (T := TX6) (N := 15) hx hb hts iwX6_stayAway_X6 hown hK hP 0 0 rfl rfl rfl 0 (Nat.le_of_ble_eq_true rfl) (hts _ kX6_stayAway_0) (fun _ h9 => h9) rfl dX6_stayAway_18 ?_
    refine lv_if_le (tgt := 26) hx hb dX6_stayAway_21 (by decide) (fun c19 => ?_) (fun c19 => ?_)
    · rw [if_pos c19] at hf
      refine lv_aload_n hx hb dX6_stayAway_26 rfl (lv_at hl 0 rfl) ?_
      obtain ⟨q20, hq20, hf⟩ := bd_some hf
      refine g_callVv S (As := []) (gs' := [mdW G a0 q20.2]) (c_X6_remember l G a0 u18 hq20) (cwV 0 hts gX6_stayAway_X6_remember rfl rfl rfl hd_X6_remember ⟨Nat.le_of_ble_eq_true rfl, Nat.le_of_ble_eq_true rfl⟩) hK hP hD hS hA (is := [0]) rfl rfl 0 rfl rfl rfl rfl hl.1 rfl (Nat.le_of_ble_eq_true rfl) dX6_stayAway_27 ⟨Nat.le_of_ble_eq_true rfl, Nat.le_of_ble_eq_true rfl⟩ rfl (fun H locs hP hD hS => ?_)
      refine lv_aload_n hx hb dX6_stayAway_30 rfl (lv_at hl 0 rfl) ?_
      refine g_get (C := RX6) (T := TX6) (N := 15) hx hb hts iwX6_stayAway_X6 hown hK hP 0 0 rfl rfl rfl 1 (Nat.le_of_ble_eq_true rfl) (hts _ kX6_stayAway_1) (fun _ h9 => h9) rfl dX6_stayAway_31 ?_
      refine lv_bipush (v := (29:Int32)) hx hb dX6_stayAway_34 (by decide) ?_
      refine lv_iload_n hx hb dX6_stayAway_36 rfl (lv_at hl 1 rfl) ?_
      refine lv_iadd hx hb dX6_stayAway_37 ?_
      obtain ⟨h21, hf⟩ := gi_some hf
      refine g_iald hx hb hK hP 0 1 0 rfl rfl rfl h21 dX6_stayAway_38 ?_
      refine lv_iconst (v := (1:Int32)) hx hb dX6_stayAway_39 (by decide) ?_
      refine lv_icmp_ne (tgt := 47) hx hb dX6_stayAway_40 (by decide) (fun c22 => ?_) (fun c22 => ?_)
      · rw [if_neg c22] at hf
        refine lv_iconst (v := (0:Int32)) hx hb dX6_stayAway_47 (by decide) ?_
        refine lv_istore_n (lv' := [(3, .int (0:Int32)), (0, .ref (a0 0)), (1, .int i1), (2, .int i2)]) hx hb dX6_stayAway_48 rfl hl (by decide) rfl (fun ls hl => ?_)
        refine lv_aload_n hx hb dX6_stayAway_49 rfl (lv_at hl 1 rfl) ?_
        refine g_get (C := RX6) (T := TX6) (N := 15) hx hb hts iwX6_stayAway_X6 hown hK hP 0 0 rfl rfl rfl 1 (Nat.le_of_ble_eq_true rfl) (hts _ kX6_stayAway_1) (fun _ h9 => h9) rfl dX6_stayAway_50 ?_
        refine lv_bipush (v := (29:Int32)) hx hb dX6_stayAway_53 (by decide) ?_
        refine lv_iload_n hx hb dX6_stayAway_55 rfl (lv_at hl 2 rfl) ?_
        refine lv_iadd hx hb dX6_stayAway_56 ?_
        refine lv_iload_n hx hb dX6_stayAway_57 rfl (lv_at hl 3 rfl) ?_
        refine lv_if_eq (tgt := 65) hx hb dX6_stayAway_58 (by decide) (fun c23 => ?_) (fun c23 => ?_)
        · rw [if_pos c23] at hf
          refine lv_iconst (v := (0:Int32)) hx hb dX6_stayAway_65 (by decide) ?_
          obtain ⟨h24, hf⟩ := gi_some hf
          obtain ⟨u25, eu25, hf⟩ := lt_some hf
          refine g_iast (gs' := [mdW G a0 u25]) hx hb hK hP hD hS 0 1 0 rfl rfl rfl h24 dX6_stayAway_66 (by rw [eu25]; rfl) (fun H locs hP hD hS => ?_)
          refine lv_iload_n hx hb dX6_stayAway_67 rfl (lv_at hl 0 rfl) ?_
          cases hf
          exact g_zret hx hb hr gz0 hlocks hP hS dX6_stayAway_68
        · rw [if_neg c23] at hf
          refine lv_iconst (v := (1:Int32)) hx hb dX6_stayAway_61 (by decide) ?_
          refine lv_goto (tgt := 66) hx hb dX6_stayAway_62 (by decide) ?_
          obtain ⟨h26, hf⟩ := gi_some hf
          obtain ⟨u27, eu27, hf⟩ := lt_some hf
          refine g_iast (gs' := [mdW G a0 u27]) hx hb hK hP hD hS 0 1 0 rfl rfl rfl h26 dX6_stayAway_66 (by rw [eu27]; rfl) (fun H locs hP hD hS => ?_)
          refine lv_iload_n hx hb dX6_stayAway_67 rfl (lv_at hl 0 rfl) ?_
          cases hf
          exact g_zret hx hb hr gz0 hlocks hP hS dX6_stayAway_68
      · rw [if_pos c22] at hf
        refine lv_iconst (v := (1:Int32)) hx hb dX6_stayAway_43 (by decide) ?_
        refine lv_goto (tgt := 48) hx hb dX6_stayAway_44 (by decide) ?_
        refine lv_istore_n (lv' := [(3, .int (1:Int32)), (0, .ref (a0 0)), (1, .int i1), (2, .int i2)]) hx hb dX6_stayAway_48 rfl hl (by decide) rfl (fun ls hl => ?_)
        refine lv_aload_n hx hb dX6_stayAway_49 rfl (lv_at hl 1 rfl) ?_
        refine g_get (C := RX6) (T := TX6) (N := 15) hx hb hts iwX6_stayAway_X6 hown hK hP 0 0 rfl rfl rfl 1 (Nat.le_of_ble_eq_true rfl) (hts _ kX6_stayAway_1) (fun _ h9 => h9) rfl dX6_stayAway_50 ?_
        refine lv_bipush (v := (29:Int32)) hx hb dX6_stayAway_53 (by decide) ?_
        refine lv_iload_n hx hb dX6_stayAway_55 rfl (lv_at hl 2 rfl) ?_
        refine lv_iadd hx hb dX6_stayAway_56 ?_
        refine lv_iload_n hx hb dX6_stayAway_57 rfl (lv_at hl 3 rfl) ?_
        refine lv_if_eq (tgt := 65) hx hb dX6_stayAway_58 (by decide) (fun c28 => ?_) (fun c28 => ?_)
        · rw [if_pos c28] at hf
          refine lv_iconst (v := (0:Int32)) hx hb dX6_stayAway_65 (by decide) ?_
          obtain ⟨h29, hf⟩ := gi_some hf
          obtain ⟨u30, eu30, hf⟩ := lt_some hf
          refine g_iast (gs' := [mdW G a0 u30]) hx hb hK hP hD hS 0 1 0 rfl rfl rfl h29 dX6_stayAway_66 (by rw [eu30]; rfl) (fun H locs hP hD hS => ?_)
          refine lv_iload_n hx hb dX6_stayAway_67 rfl (lv_at hl 0 rfl) ?_
          cases hf
          exact g_zret hx hb hr gz1 hlocks hP hS dX6_stayAway_68
        · rw [if_neg c28] at hf
          refine lv_iconst (v := (1:Int32)) hx hb dX6_stayAway_61 (by decide) ?_
          refine lv_goto (tgt := 66) hx hb dX6_stayAway_62 (by decide) ?_
          obtain ⟨h31, hf⟩ := gi_some hf
          obtain ⟨u32, eu32, hf⟩ := lt_some hf
          refine g_iast (gs' := [mdW G a0 u32]) hx hb hK hP hD hS 0 1 0 rfl rfl rfl h31 dX6_stayAway_66 (by rw [eu32]; rfl) (fun H locs hP hD hS => ?_)
          refine lv_iload_n hx hb dX6_stayAway_67 rfl (lv_at hl 0 rfl) ?_
          cases hf
          exact g_zret hx hb hr gz1 hlocks hP hS dX6_stayAway_68
    · rw [if_neg c19] at hf
      refine lv_iconst (v := (0:Int32)) hx hb dX6_stayAway_24 (by decide) ?_
      cases hf
      exact g_zret hx hb hr gz0 hlocks hP hS dX6_stayAway_25
theorem kX6_whyNotGive_0 : Cond.fieldLink RX6 7 "SavingsCircleModel" "z" "[I" ∈ wsX6_whyNotGive := (List.mem_cons_of_mem _ (List.mem_append_left _ (List.mem_of_getElem? (i := 0) rfl)))
theorem iwX6_whyNotGive_X6 : ∀ w ∈ wsX60, w ∈ wsX6_whyNotGive := fun w h => (List.mem_cons_of_mem _ (List.mem_append_right _ h))
set_option maxHeartbeats 4000000 in
set_option maxRecDepth 100000 in
theorem c_X6_whyNotGive (l : Launch) (G : uG) (a0 : Nat → Nat) (v0 : MdV) (i1 : Int32) (i2 : Int32) {q : Int32 × (Unit)} (hf : f_X6_whyNotGive v0 i1 i2 = some q) : mQ l yX6_whyNotGive wsX6_whyNotGive ({ frames := 1, cells := 0, slots := 0, locals := 22 } : Room) G [.ref (a0 0), .int i1, .int i2] [mdW G a0 v0] [mdW G a0 v0] (qI G [mdW G a0 v0] q.1) := by
  unfold f_X6_whyNotGive at hf
  refine m_of (cc := cX6_whyNotGive) (maxL := 3) (ret := (some .int)) (by decide) rfl rfl (Nat.le_of_ble_eq_true rfl) ?_
  intro p e s m args below meth c A ls S hK hA hP hD hS hl
  obtain ⟨hx, hb, hml, hown, hts, hr, hlocks⟩ := id S
  have hl : lv_has ls 3 [(0, .ref (a0 0)), (1, .int i1), (2, .int i2)] := hl
  refine lv_aload_n hx hb dX6_whyNotGive_0 rfl (lv_at hl 0 rfl) ?_
  refine lv_iload_n hx hb dX6_whyNotGive_1 rfl (lv_at hl 1 rfl) ?_
  obtain ⟨q1, hq1, hf⟩ := bd_some hf
  refine g_callVi S (As := [.int i1]) (gs' := [mdW G a0 v0]) (c_X6_isMember l G a0 v0 i1 hq1) (cwV 1 hts gX6_whyNotGive_X6_isMember rfl rfl rfl hd_X6_isMember ⟨Nat.le_of_ble_eq_true rfl, Nat.le_of_ble_eq_true rfl⟩) hK hP hD hS hA (is := [0]) rfl rfl 0 rfl rfl rfl rfl hl.1 rfl (Nat.le_of_ble_eq_true rfl) dX6_whyNotGive_2 ⟨Nat.le_of_ble_eq_true rfl, Nat.le_of_ble_eq_true rfl⟩ rfl (fun H locs hP hD hS => ?_)
  refine lv_if_ne (tgt := 10) hx hb dX6_whyNotGive_5 (by decide) (fun c2 => ?_) (fun c2 => ?_)
  · rw [if_neg c2] at hf
    refine lv_iload_n hx hb dX6_whyNotGive_10 rfl (lv_at hl 2 rfl) ?_
    refine lv_iconst (v := (1:Int32)) hx hb dX6_whyNotGive_11 (by decide) ?_
    refine lv_sipush (v := (999:Int32)) hx hb dX6_whyNotGive_12 (by decide) ?_
    obtain ⟨q3, hq3, hf⟩ := bd_some hf
    refine g_callSi S (As := [.int i2, .int (1:Int32), .int (999:Int32)]) (gs' := [mdW G a0 v0]) (c_X6_in l G i2 (1:Int32) (999:Int32) hq3) (va_cwS 3 hts gX6_whyNotGive_X6_in rfl rfl rfl hd_X6_in.2 ⟨Nat.le_of_ble_eq_true rfl, Nat.le_of_ble_eq_true rfl⟩) hK hP hD hS hA (is := []) rfl rfl rfl hl.1 rfl (Nat.le_of_ble_eq_true rfl) dX6_whyNotGive_15 ⟨Nat.le_of_ble_eq_true rfl, Nat.le_of_ble_eq_true rfl⟩ rfl (fun H locs hP hD hS => ?_)
    refine lv_if_ne (tgt := 25) hx hb dX6_whyNotGive_18 (by decide) (fun c4 => ?_) (fun c4 => ?_)
    · rw [if_neg c4] at hf
      refine lv_aload_n hx hb dX6_whyNotGive_25 rfl (lv_at hl 0 rfl) ?_
      refine g_get (C := RX6) (T := TX6) (N := 15) hx hb hts iwX6_whyNotGive_X6 hown hK hP 0 0 rfl rfl rfl 1 (Nat.le_of_ble_eq_true rfl) (hts _ kX6_whyNotGive_0) (fun _ h9 => h9) rfl dX6_whyNotGive_26 ?_
      refine lv_iconst (v := (4:Int32)) hx hb dX6_whyNotGive_29 (by decide) ?_
      obtain ⟨h5, hf⟩ := gi_some hf
      refine g_iald hx hb hK hP 0 1 0 rfl rfl rfl h5 dX6_whyNotGive_30 ?_
      refine lv_iload_n hx hb dX6_whyNotGive_31 rfl (lv_at hl 2 rfl) ?_
      refine lv_iadd hx hb dX6_whyNotGive_32 ?_
      refine lv_sipush (v := (9000:Int32)) hx hb dX6_whyNotGive_33 (by decide) ?_
      refine lv_icmp_le (tgt := 43) hx hb dX6_whyNotGive_36 (by decide) (fun c6 => ?_) (fun c6 => ?_)
      · rw [if_pos c6] at hf
        refine lv_iconst (v := (0:Int32)) hx hb dX6_whyNotGive_43 (by decide) ?_
        cases hf
        exact g_iret hx hb hr hlocks hP hS dX6_whyNotGive_44
      · rw [if_neg c6] at hf
        refine lv_iconst (v := (3:Int32)) hx hb dX6_whyNotGive_39 (by decide) ?_
        refine lv_goto (tgt := 44) hx hb dX6_whyNotGive_40 (by decide) ?_
        cases hf
        exact g_iret hx hb hr hlocks hP hS dX6_whyNotGive_44
    · rw [if_pos c4] at hf
      refine lv_iconst (v := (2:Int32)) hx hb dX6_whyNotGive_21 (by decide) ?_
      refine lv_goto (tgt := 44) hx hb dX6_whyNotGive_22 (by decide) ?_
      cases hf
      exact g_iret hx hb hr hlocks hP hS dX6_whyNotGive_44
  · rw [if_pos c2] at hf
    refine lv_iconst (v := (1:Int32)) hx hb dX6_whyNotGive_8 (by decide) ?_
    cases hf
    exact g_iret hx hb hr hlocks hP hS dX6_whyNotGive_9
theorem kX6_putInto_0 : Cond.fieldLink RX6 7 "SavingsCircleModel" "z" "[I" ∈ wsX6_putInto := (List.mem_cons_of_mem _ (List.mem_append_left _ (List.mem_of_getElem? (i := 0) rfl)))
theorem iwX6_putInto_X6 : ∀ w ∈ wsX60, w ∈ wsX6_putInto := fun w h => (List.mem_cons_of_mem _ (List.mem_append_right _ h))
set_option maxHeartbeats 4000000 in
set_option maxRecDepth 100000 in
theorem c_X6_putInto (l : Launch) (G : uG) (a0 : Nat → Nat) (v0 : MdV) (i1 : Int32) (i2 : Int32) {q : Unit × (MdV)} (hf : f_X6_putInto v0 i1 i2 = some q) : mQ l yX6_putInto wsX6_putInto ({ frames := 0, cells := 0, slots := 0, locals := 0 } : Room) G [.ref (a0 0), .int i1, .int i2] [mdW G a0 v0] [mdW G a0 q.2] (qV G [mdW G a0 q.2] q.1) := by
  unfold f_X6_putInto at hf
  refine m_of (cc := cX6_putInto) (maxL := 3) (ret := none) (by decide) rfl rfl (Nat.le_of_ble_eq_true rfl) ?_
  intro p e s m args below meth c A ls S hK hA hP hD hS hl
  obtain ⟨hx, hb, hml, hown, hts, hr, hlocks⟩ := id S
  have hl : lv_has ls 3 [(0, .ref (a0 0)), (1, .int i1), (2, .int i2)] := hl
  refine lv_aload_n hx hb dX6_putInto_0 rfl (lv_at hl 0 rfl) ?_
  refine g_get (C := RX6) (T := TX6) (N := 15) hx hb hts iwX6_putInto_X6 hown hK hP 0 0 rfl rfl rfl 1 (Nat.le_of_ble_eq_true rfl) (hts _ kX6_putInto_0) (fun _ h9 => h9) rfl dX6_putInto_1 ?_
  refine lv_iconst (v := (5:Int32)) hx hb dX6_putInto_4 (by decide) ?_
  refine lv_iload_n hx hb dX6_putInto_5 rfl (lv_at hl 1 rfl) ?_
  refine lv_iadd hx hb dX6_putInto_6 ?_
  obtain ⟨x1, ex1, hf⟩ := lt_some hf
  refine lv_nmi ex1 ?_
  refine lv_dup2_11 hx hb dX6_putInto_7 rfl rfl ?_
  obtain ⟨h2, hf⟩ := gi_some hf
  refine g_iald hx hb hK hP 0 1 0 rfl rfl rfl h2 dX6_putInto_8 ?_
  refine lv_iload_n hx hb dX6_putInto_9 rfl (lv_at hl 2 rfl) ?_
  refine lv_iadd hx hb dX6_putInto_10 ?_
  obtain ⟨h3, hf⟩ := gi_some hf
  obtain ⟨u4, eu4, hf⟩ := lt_some hf
  refine g_iast (gs' := [mdW G a0 u4]) hx hb hK hP hD hS 0 1 0 rfl rfl rfl h3 dX6_putInto_11 (by rw [eu4]; rfl) (fun H locs hP hD hS => ?_)
  refine lv_aload_n hx hb dX6_putInto_12 rfl (lv_at hl 0 rfl) ?_
  refine g_get (C := RX6) (T := TX6) (N := 15) hx hb hts iwX6_putInto_X6 hown hK hP 0 0 rfl rfl rfl 1 (Nat.le_of_ble_eq_true rfl) (hts _ kX6_putInto_0) (fun _ h9 => h9) rfl dX6_putInto_13 ?_
  refine lv_iconst (v := (4:Int32)) hx hb dX6_putInto_16 (by decide) ?_
  refine lv_dup2_11 hx hb dX6_putInto_17 rfl rfl ?_
  obtain ⟨h5, hf⟩ := gi_some hf
  refine g_iald hx hb hK hP 0 1 0 rfl rfl rfl h5 dX6_putInto_18 ?_
  refine lv_iload_n hx hb dX6_putInto_19 rfl (lv_at hl 2 rfl) ?_
  refine lv_iadd hx hb dX6_putInto_20 ?_
  obtain ⟨h6, hf⟩ := gi_some hf
  obtain ⟨u7, eu7, hf⟩ := lt_some hf
  refine g_iast (gs' := [mdW G a0 u7]) hx hb hK hP hD hS 0 1 0 rfl rfl rfl h6 dX6_putInto_21 (by rw [eu7]; rfl) (fun H locs hP hD hS => ?_)
  cases hf
  exact g_vret hx hb hr hlocks hP hS dX6_putInto_22
theorem kX6_give_0 : Cond.fieldLink RX6 38 "SavingsCircleModel" "thrown" "I" ∈ wsX6_give := (List.mem_cons_of_mem _ (List.mem_append_left _ (List.mem_of_getElem? (i := 0) rfl)))
theorem kX6_give_1 : Cond.fieldLink RX6 7 "SavingsCircleModel" "z" "[I" ∈ wsX6_give := (List.mem_cons_of_mem _ (List.mem_append_left _ (List.mem_of_getElem? (i := 1) rfl)))
theorem iwX6_give_X6 : ∀ w ∈ wsX60, w ∈ wsX6_give := fun w h => (List.mem_cons_of_mem _ (List.mem_append_right _ h))
set_option maxHeartbeats 4000000 in
set_option maxRecDepth 100000 in
theorem c_X6_give (l : Launch) (G : uG) (a0 : Nat → Nat) (v0 : MdV) (i1 : Int32) (i2 : Int32) {q : Int32 × (MdV)} (hf : f_X6_give v0 i1 i2 = some q) : mQ l yX6_give wsX6_give ({ frames := 2, cells := 0, slots := 0, locals := 44 } : Room) G [.ref (a0 0), .int i1, .int i2] [mdW G a0 v0] [mdW G a0 q.2] (qI G [mdW G a0 q.2] q.1) := by
  unfold f_X6_give at hf
  refine m_of (cc := cX6_give) (maxL := 3) (ret := (some .int)) (by decide) rfl rfl (Nat.le_of_ble_eq_true rfl) ?_
  intro p e s m args below meth c A ls S hK hA hP hD hS hl
  obtain ⟨hx, hb, hml, hown, hts, hr, hlocks⟩ := id S
  have hl : lv_has ls 3 [(0, .ref (a0 0)), (1, .int i1), (2, .int i2)] := hl
  refine lv_aload_n hx hb dX6_give_0 rfl (lv_at hl 0 rfl) ?_
  refine lv_aload_n hx hb dX6_give_1 rfl (lv_at hl 0 rfl) ?_
  refine lv_iload_n hx hb dX6_give_2 rfl (lv_at hl 1 rfl) ?_
  refine lv_iload_n hx hb dX6_give_3 rfl (lv_at hl 2 rfl) ?_
  obtain ⟨q1, hq1, hf⟩ := bd_some hf
  refine g_callVi S (As := [.int i1, .int i2]) (gs' := [mdW G a0 v0]) (c_X6_whyNotGive l G a0 v0 i1 i2 hq1) (cwV 2 hts gX6_give_X6_whyNotGive rfl rfl rfl hd_X6_whyNotGive ⟨Nat.le_of_ble_eq_true rfl, Nat.le_of_ble_eq_true rfl⟩) hK hP hD hS hA (is := [0]) rfl rfl 0 rfl rfl rfl rfl hl.1 rfl (Nat.le_of_ble_eq_true rfl) dX6_give_4 ⟨Nat.le_of_ble_eq_true rfl, Nat.le_of_ble_eq_true rfl⟩ rfl (fun H locs hP hD hS => ?_)
  obtain ⟨u2, eu2, hf⟩ := lt_some hf
  refine g_put (ty := .int) (C := RX6) (T := TX6) (N := 15) (gs' := [mdW G a0 u2]) hx hb hts iwX6_give_X6 tyX6 tyX6_ok nmX6 hown hK hP hD hS 0 0 rfl rfl rfl 0 (Nat.le_of_ble_eq_true rfl) (hts _ kX6_give_0) (fun _ h9 => h9) rfl (by decide +kernel) rfl rfl (Nat.le_of_ble_eq_true rfl) dX6_give_7 (by rw [eu2]; rfl) (fun H locs hP hD hS => ?_)
  refine lv_aload_n hx hb dX6_give_10 rfl (lv_at hl 0 rfl) ?_
  refine g_get (C := RX6) (T := TX6) (N := 15) hx hb hts iwX6_give_X6 hown hK hP 0 0 rfl rfl rfl 0 (Nat.le_of_ble_eq_true rfl) (hts _ kX6_give_0) (fun _ h9 => h9) rfl dX6_give_11 ?_
  refine lv_if_le (tgt := 19) hx hb dX6_give_14 (by decide) (fun c3 => ?_) (fun c3 => ?_)
  · rw [if_pos c3] at hf
    refine lv_aload_n hx hb dX6_give_19 rfl (lv_at hl 0 rfl) ?_
    obtain ⟨q4, hq4, hf⟩ := bd_some hf
    refine g_callVv S (As := []) (gs' := [mdW G a0 q4.2]) (c_X6_remember l G a0 u2 hq4) (cwV 0 hts gX6_give_X6_remember rfl rfl rfl hd_X6_remember ⟨Nat.le_of_ble_eq_true rfl, Nat.le_of_ble_eq_true rfl⟩) hK hP hD hS hA (is := [0]) rfl rfl 0 rfl rfl rfl rfl hl.1 rfl (Nat.le_of_ble_eq_true rfl) dX6_give_20 ⟨Nat.le_of_ble_eq_true rfl, Nat.le_of_ble_eq_true rfl⟩ rfl (fun H locs hP hD hS => ?_)
    refine lv_aload_n hx hb dX6_give_23 rfl (lv_at hl 0 rfl) ?_
    refine lv_iload_n hx hb dX6_give_24 rfl (lv_at hl 1 rfl) ?_
    refine lv_iload_n hx hb dX6_give_25 rfl (lv_at hl 2 rfl) ?_
    obtain ⟨q5, hq5, hf⟩ := bd_some hf
    refine g_callVv S (As := [.int i1, .int i2]) (gs' := [mdW G a0 q5.2]) (c_X6_putInto l G a0 q4.2 i1 i2 hq5) (cwV 2 hts gX6_give_X6_putInto rfl rfl rfl hd_X6_putInto ⟨Nat.le_of_ble_eq_true rfl, Nat.le_of_ble_eq_true rfl⟩) hK hP hD hS hA (is := [0]) rfl rfl 0 rfl rfl rfl rfl hl.1 rfl (Nat.le_of_ble_eq_true rfl) dX6_give_26 ⟨Nat.le_of_ble_eq_true rfl, Nat.le_of_ble_eq_true rfl⟩ rfl (fun H locs hP hD hS => ?_)
    refine lv_aload_n hx hb dX6_give_29 rfl (lv_at hl 0 rfl) ?_
    refine g_get (C := RX6) (T := TX6) (N := 15) hx hb hts iwX6_give_X6 hown hK hP 0 0 rfl rfl rfl 1 (Nat.le_of_ble_eq_true rfl) (hts _ kX6_give_1) (fun _ h9 => h9) rfl dX6_give_30 ?_
    refine lv_iconst (v := (5:Int32)) hx hb dX6_give_33 (by decide) ?_
    refine lv_iload_n hx hb dX6_give_34 rfl (lv_at hl 1 rfl) ?_
    refine lv_iadd hx hb dX6_give_35 ?_
    obtain ⟨h6, hf⟩ := gi_some hf
    refine g_iald hx hb hK hP 0 1 0 rfl rfl rfl h6 dX6_give_36 ?_
    cases hf
    exact g_iret hx hb hr hlocks hP hS dX6_give_37
  · rw [if_neg c3] at hf
    refine lv_iconst (v := (0:Int32)) hx hb dX6_give_17 (by decide) ?_
    cases hf
    exact g_iret hx hb hr hlocks hP hS dX6_give_18
theorem kX6_getsAtLeave_0 : Cond.fieldLink RX6 7 "SavingsCircleModel" "z" "[I" ∈ wsX6_getsAtLeave := (List.mem_cons_of_mem _ (List.mem_append_left _ (List.mem_of_getElem? (i := 0) rfl)))
theorem iwX6_getsAtLeave_X6 : ∀ w ∈ wsX60, w ∈ wsX6_getsAtLeave := fun w h => (List.mem_cons_of_mem _ (List.mem_append_right _ h))
set_option maxHeartbeats 4000000 in
set_option maxRecDepth 100000 in
theorem c_X6_getsAtLeave (l : Launch) (G : uG) (a0 : Nat → Nat) (v0 : MdV) (i1 : Int32) {q : Int32 × (Unit)} (hf : f_X6_getsAtLeave v0 i1 = some q) : mQ l yX6_getsAtLeave wsX6_getsAtLeave ({ frames := 1, cells := 0, slots := 0, locals := 22 } : Room) G [.ref (a0 0), .int i1] [mdW G a0 v0] [mdW G a0 v0] (qI G [mdW G a0 v0] q.1) := by
  unfold f_X6_getsAtLeave at hf
  refine m_of (cc := cX6_getsAtLeave) (maxL := 3) (ret := (some .int)) (by decide) rfl rfl (Nat.le_of_ble_eq_true rfl) ?_
  intro p e s m args below meth c A ls S hK hA hP hD hS hl
  obtain ⟨hx, hb, hml, hown, hts, hr, hlocks⟩ := id S
  have hl : lv_has ls 3 [(0, .ref (a0 0)), (1, .int i1)] := hl
  refine lv_aload_n hx hb dX6_getsAtLeave_0 rfl (lv_at hl 0 rfl) ?_
  refine g_get (C := RX6) (T := TX6) (N := 15) hx hb hts iwX6_getsAtLeave_X6 hown hK hP 0 0 rfl rfl rfl 1 (Nat.le_of_ble_eq_true rfl) (hts _ kX6_getsAtLeave_0) (fun _ h9 => h9) rfl dX6_getsAtLeave_1 ?_
  refine lv_bipush (v := (37:Int32)) hx hb dX6_getsAtLeave_4 (by decide) ?_
  refine lv_iload_n hx hb dX6_getsAtLeave_6 rfl (lv_at hl 1 rfl) ?_
  refine lv_iadd hx hb dX6_getsAtLeave_7 ?_
  obtain ⟨h1, hf⟩ := gi_some hf
  refine g_iald hx hb hK hP 0 1 0 rfl rfl rfl h1 dX6_getsAtLeave_8 ?_
  refine lv_if_ne (tgt := 45) hx hb dX6_getsAtLeave_9 (by decide) (fun c2 => ?_) (fun c2 => ?_)
  · rw [if_neg c2] at hf
    refine lv_aload_n hx hb dX6_getsAtLeave_45 rfl (lv_at hl 0 rfl) ?_
    refine g_get (C := RX6) (T := TX6) (N := 15) hx hb hts iwX6_getsAtLeave_X6 hown hK hP 0 0 rfl rfl rfl 1 (Nat.le_of_ble_eq_true rfl) (hts _ kX6_getsAtLeave_0) (fun _ h9 => h9) rfl dX6_getsAtLeave_46 ?_
    refine lv_iconst (v := (1:Int32)) hx hb dX6_getsAtLeave_49 (by decide) ?_
    obtain ⟨h3, hf⟩ := gi_some hf
    refine g_iald hx hb hK hP 0 1 0 rfl rfl rfl h3 dX6_getsAtLeave_50 ?_
    refine lv_ineg hx hb dX6_getsAtLeave_51 ?_
    refine lv_aload_n hx hb dX6_getsAtLeave_52 rfl (lv_at hl 0 rfl) ?_
    obtain ⟨q4, hq4, hf⟩ := bd_some hf
    refine g_callVi S (As := []) (gs' := [mdW G a0 v0]) (c_X6_waiting l G a0 v0 hq4) (cwV 0 hts gX6_getsAtLeave_X6_waiting rfl rfl rfl hd_X6_waiting ⟨Nat.le_of_ble_eq_true rfl, Nat.le_of_ble_eq_true rfl⟩) hK hP hD hS hA (is := [0]) rfl rfl 0 rfl rfl rfl rfl hl.1 rfl (Nat.le_of_ble_eq_true rfl) dX6_getsAtLeave_53 ⟨Nat.le_of_ble_eq_true rfl, Nat.le_of_ble_eq_true rfl⟩ rfl (fun H locs hP hD hS => ?_)
    refine lv_imul hx hb dX6_getsAtLeave_56 ?_
    cases hf
    exact g_iret hx hb hr hlocks hP hS dX6_getsAtLeave_57
  · rw [if_pos c2] at hf
    refine lv_aload_n hx hb dX6_getsAtLeave_12 rfl (lv_at hl 0 rfl) ?_
    refine g_get (C := RX6) (T := TX6) (N := 15) hx hb hts iwX6_getsAtLeave_X6 hown hK hP 0 0 rfl rfl rfl 1 (Nat.le_of_ble_eq_true rfl) (hts _ kX6_getsAtLeave_0) (fun _ h9 => h9) rfl dX6_getsAtLeave_13 ?_
    refine lv_bipush (v := (53:Int32)) hx hb dX6_getsAtLeave_16 (by decide) ?_
    refine lv_iload_n hx hb dX6_getsAtLeave_18 rfl (lv_at hl 1 rfl) ?_
    refine lv_iadd hx hb dX6_getsAtLeave_19 ?_
    obtain ⟨h5, hf⟩ := gi_some hf
    refine g_iald hx hb hK hP 0 1 0 rfl rfl rfl h5 dX6_getsAtLeave_20 ?_
    refine lv_iconst (v := (2:Int32)) hx hb dX6_getsAtLeave_21 (by decide) ?_
    obtain ⟨h6, hf⟩ := gz_some hf
    refine lv_idiv hx hb dX6_getsAtLeave_22 h6 ?_
    obtain ⟨x7, ex7, hf⟩ := lt_some hf
    refine lv_nmi ex7 ?_
    refine lv_istore_n (lv' := [(2, .int x7), (0, .ref (a0 0)), (1, .int i1)]) hx hb dX6_getsAtLeave_23 rfl hl (by decide) rfl (fun ls hl => ?_)
    refine lv_iload_n hx hb dX6_getsAtLeave_24 rfl (lv_at hl 0 rfl) ?_
    refine lv_aload_n hx hb dX6_getsAtLeave_25 rfl (lv_at hl 1 rfl) ?_
    refine g_get (C := RX6) (T := TX6) (N := 15) hx hb hts iwX6_getsAtLeave_X6 hown hK hP 0 0 rfl rfl rfl 1 (Nat.le_of_ble_eq_true rfl) (hts _ kX6_getsAtLeave_0) (fun _ h9 => h9) rfl dX6_getsAtLeave_26 ?_
    refine lv_iconst (v := (3:Int32)) hx hb dX6_getsAtLeave_29 (by decide) ?_
    obtain ⟨h8, hf⟩ := gi_some hf
    refine g_iald hx hb hK hP 0 1 0 rfl rfl rfl h8 dX6_getsAtLeave_30 ?_
    refine lv_icmp_ge (tgt := 38) hx hb dX6_getsAtLeave_31 (by decide) (fun c9 => ?_) (fun c9 => ?_)
    · rw [if_pos c9] at hf
      refine lv_aload_n hx hb dX6_getsAtLeave_38 rfl (lv_at hl 1 rfl) ?_
      refine g_get (C := RX6) (T := TX6) (N := 15) hx hb hts iwX6_getsAtLeave_X6 hown hK hP 0 0 rfl rfl rfl 1 (Nat.le_of_ble_eq_true rfl) (hts _ kX6_getsAtLeave_0) (fun _ h9 => h9) rfl dX6_getsAtLeave_39 ?_
      refine lv_iconst (v := (3:Int32)) hx hb dX6_getsAtLeave_42 (by decide) ?_
      obtain ⟨h10, hf⟩ := gi_some hf
      refine g_iald hx hb hK hP 0 1 0 rfl rfl rfl h10 dX6_getsAtLeave_43 ?_
      cases hf
      exact g_iret hx hb hr hlocks hP hS dX6_getsAtLeave_44
    · rw [if_neg c9] at hf
      refine lv_iload_n hx hb dX6_getsAtLeave_34 rfl (lv_at hl 0 rfl) ?_
      refine lv_goto (tgt := 44) hx hb dX6_getsAtLeave_35 (by decide) ?_
      cases hf
      exact g_iret hx hb hr hlocks hP hS dX6_getsAtLeave_44
theorem kX6_whyNotLeave_0 : Cond.fieldLink RX6 7 "SavingsCircleModel" "z" "[I" ∈ wsX6_whyNotLeave := (List.mem_cons_of_mem _ (List.mem_append_left _ (List.mem_of_getElem? (i := 0) rfl)))
theorem iwX6_whyNotLeave_X6 : ∀ w ∈ wsX60, w ∈ wsX6_whyNotLeave := fun w h => (List.mem_cons_of_mem _ (List.mem_append_right _ h))
set_option maxHeartbeats 4000000 in
set_option maxRecDepth 100000 in
theorem c_X6_whyNotLeave (l : Launch) (G : uG) (a0 : Nat → Nat) (v0 : MdV) (i1 : Int32) {q : Int32 × (Unit)} (hf : f_X6_whyNotLeave v0 i1 = some q) : mQ l yX6_whyNotLeave wsX6_whyNotLeave ({ frames := 2, cells := 0, slots := 0, locals := 44 } : Room) G [.ref (a0 0), .int i1] [mdW G a0 v0] [mdW G a0 v0] (qI G [mdW G a0 v0] q.1) := by
  unfold f_X6_whyNotLeave at hf
  refine m_of (cc := cX6_whyNotLeave) (maxL := 2) (ret := (some .int)) (by decide) rfl rfl (Nat.le_of_ble_eq_true rfl) ?_
  intro p e s m args below meth c A ls S hK hA hP hD hS hl
  obtain ⟨hx, hb, hml, hown, hts, hr, hlocks⟩ := id S
  have hl : lv_has ls 2 [(0, .ref (a0 0)), (1, .int i1)] := hl
  refine lv_aload_n hx hb dX6_whyNotLeave_0 rfl (lv_at hl 0 rfl) ?_
  refine lv_iload_n hx hb dX6_whyNotLeave_1 rfl (lv_at hl 1 rfl) ?_
  obtain ⟨q1, hq1, hf⟩ := bd_some hf
  refine g_callVi S (As := [.int i1]) (gs' := [mdW G a0 v0]) (c_X6_isMember l G a0 v0 i1 hq1) (cwV 1 hts gX6_whyNotLeave_X6_isMember rfl rfl rfl hd_X6_isMember ⟨Nat.le_of_ble_eq_true rfl, Nat.le_of_ble_eq_true rfl⟩) hK hP hD hS hA (is := [0]) rfl rfl 0 rfl rfl rfl rfl hl.1 rfl (Nat.le_of_ble_eq_true rfl) dX6_whyNotLeave_2 ⟨Nat.le_of_ble_eq_true rfl, Nat.le_of_ble_eq_true rfl⟩ rfl (fun H locs hP hD hS => ?_)
  refine lv_if_ne (tgt := 10) hx hb dX6_whyNotLeave_5 (by decide) (fun c2 => ?_) (fun c2 => ?_)
  · rw [if_neg c2] at hf
    refine lv_aload_n hx hb dX6_whyNotLeave_10 rfl (lv_at hl 0 rfl) ?_
    refine g_get (C := RX6) (T := TX6) (N := 15) hx hb hts iwX6_whyNotLeave_X6 hown hK hP 0 0 rfl rfl rfl 1 (Nat.le_of_ble_eq_true rfl) (hts _ kX6_whyNotLeave_0) (fun _ h9 => h9) rfl dX6_whyNotLeave_11 ?_
    refine lv_bipush (v := (45:Int32)) hx hb dX6_whyNotLeave_14 (by decide) ?_
    refine lv_iload_n hx hb dX6_whyNotLeave_16 rfl (lv_at hl 1 rfl) ?_
    refine lv_iadd hx hb dX6_whyNotLeave_17 ?_
    obtain ⟨h3, hf⟩ := gi_some hf
    refine g_iald hx hb hK hP 0 1 0 rfl rfl rfl h3 dX6_whyNotLeave_18 ?_
    refine lv_if_eq (tgt := 39) hx hb dX6_whyNotLeave_19 (by decide) (fun c4 => ?_) (fun c4 => ?_)
    · rw [if_pos c4] at hf
      refine lv_iconst (v := (2:Int32)) hx hb dX6_whyNotLeave_39 (by decide) ?_
      refine lv_goto (tgt := 44) hx hb dX6_whyNotLeave_40 (by decide) ?_
      cases hf
      exact g_iret hx hb hr hlocks hP hS dX6_whyNotLeave_44
    · rw [if_neg c4] at hf
      refine lv_aload_n hx hb dX6_whyNotLeave_22 rfl (lv_at hl 0 rfl) ?_
      refine g_get (C := RX6) (T := TX6) (N := 15) hx hb hts iwX6_whyNotLeave_X6 hown hK hP 0 0 rfl rfl rfl 1 (Nat.le_of_ble_eq_true rfl) (hts _ kX6_whyNotLeave_0) (fun _ h9 => h9) rfl dX6_whyNotLeave_23 ?_
      refine lv_iconst (v := (5:Int32)) hx hb dX6_whyNotLeave_26 (by decide) ?_
      refine lv_iload_n hx hb dX6_whyNotLeave_27 rfl (lv_at hl 1 rfl) ?_
      refine lv_iadd hx hb dX6_whyNotLeave_28 ?_
      obtain ⟨h5, hf⟩ := gi_some hf
      refine g_iald hx hb hK hP 0 1 0 rfl rfl rfl h5 dX6_whyNotLeave_29 ?_
      refine lv_aload_n hx hb dX6_whyNotLeave_30 rfl (lv_at hl 0 rfl) ?_
      refine lv_iload_n hx hb dX6_whyNotLeave_31 rfl (lv_at hl 1 rfl) ?_
      obtain ⟨q6, hq6, hf⟩ := bd_some hf
      refine g_callVi S (As := [.int i1]) (gs' := [mdW G a0 v0]) (c_X6_getsAtLeave l G a0 v0 i1 hq6) (cwV 1 hts gX6_whyNotLeave_X6_getsAtLeave rfl rfl rfl hd_X6_getsAtLeave ⟨Nat.le_of_ble_eq_true rfl, Nat.le_of_ble_eq_true rfl⟩) hK hP hD hS hA (is := [0]) rfl rfl 0 rfl rfl rfl rfl hl.1 rfl (Nat.le_of_ble_eq_true rfl) dX6_whyNotLeave_32 ⟨Nat.le_of_ble_eq_true rfl, Nat.le_of_ble_eq_true rfl⟩ rfl (fun H locs hP hD hS => ?_)
      refine lv_iadd hx hb dX6_whyNotLeave_35 ?_
      obtain ⟨x7, ex7, hf⟩ := lt_some hf
      refine lv_nmi ex7 ?_
      refine lv_if_ge (tgt := 43) hx hb dX6_whyNotLeave_36 (by decide) (fun c8 => ?_) (fun c8 => ?_)
      · rw [if_pos c8] at hf
        refine lv_iconst (v := (0:Int32)) hx hb dX6_whyNotLeave_43 (by decide) ?_
        cases hf
        exact g_iret hx hb hr hlocks hP hS dX6_whyNotLeave_44
      · rw [if_neg c8] at hf
        refine lv_iconst (v := (2:Int32)) hx hb dX6_whyNotLeave_39 (by decide) ?_
        refine lv_goto (tgt := 44) hx hb dX6_whyNotLeave_40 (by decide) ?_
        cases hf
        exact g_iret hx hb hr hlocks hP hS dX6_whyNotLeave_44
  · rw [if_pos c2] at hf
    refine lv_iconst (v := (1:Int32)) hx hb dX6_whyNotLeave_8 (by decide) ?_
    cases hf
    exact g_iret hx hb hr hlocks hP hS dX6_whyNotLeave_9
theorem kX6_goAway_0 : Cond.fieldLink RX6 7 "SavingsCircleModel" "z" "[I" ∈ wsX6_goAway := (List.mem_cons_of_mem _ (List.mem_append_left _ (List.mem_of_getElem? (i := 0) rfl)))
theorem iwX6_goAway_X6 : ∀ w ∈ wsX60, w ∈ wsX6_goAway := fun w h => (List.mem_cons_of_mem _ (List.mem_append_right _ h))
set_option maxHeartbeats 4000000 in
set_option maxRecDepth 100000 in
theorem c_X6_goAway (l : Launch) (G : uG) (a0 : Nat → Nat) (v0 : MdV) (i1 : Int32) {q : Int32 × (MdV)} (hf : f_X6_goAway v0 i1 = some q) : mQ l yX6_goAway wsX6_goAway ({ frames := 2, cells := 0, slots := 0, locals := 44 } : Room) G [.ref (a0 0), .int i1] [mdW G a0 v0] [mdW G a0 q.2] (qI G [mdW G a0 q.2] q.1) := by
  unfold f_X6_goAway at hf
  refine m_of (cc := cX6_goAway) (maxL := 3) (ret := (some .int)) (by decide) rfl rfl (Nat.le_of_ble_eq_true rfl) ?_
  intro p e s m args below meth c A ls S hK hA hP hD hS hl
  obtain ⟨hx, hb, hml, hown, hts, hr, hlocks⟩ := id S
  have hl : lv_has ls 3 [(0, .ref (a0 0)), (1, .int i1)] := hl
  refine lv_aload_n hx hb dX6_goAway_0 rfl (lv_at hl 0 rfl) ?_
  refine lv_iload_n hx hb dX6_goAway_1 rfl (lv_at hl 1 rfl) ?_
  obtain ⟨q1, hq1, hf⟩ := bd_some hf
  refine g_callVi S (As := [.int i1]) (gs' := [mdW G a0 v0]) (c_X6_getsAtLeave l G a0 v0 i1 hq1) (cwV 1 hts gX6_goAway_X6_getsAtLeave rfl rfl rfl hd_X6_getsAtLeave ⟨Nat.le_of_ble_eq_true rfl, Nat.le_of_ble_eq_true rfl⟩) hK hP hD hS hA (is := [0]) rfl rfl 0 rfl rfl rfl rfl hl.1 rfl (Nat.le_of_ble_eq_true rfl) dX6_goAway_2 ⟨Nat.le_of_ble_eq_true rfl, Nat.le_of_ble_eq_true rfl⟩ rfl (fun H locs hP hD hS => ?_)
  refine lv_istore_n (lv' := [(2, .int q1.1), (0, .ref (a0 0)), (1, .int i1)]) hx hb dX6_goAway_5 rfl hl (by decide) rfl (fun ls hl => ?_)
  refine lv_aload_n hx hb dX6_goAway_6 rfl (lv_at hl 1 rfl) ?_
  refine g_get (C := RX6) (T := TX6) (N := 15) hx hb hts iwX6_goAway_X6 hown hK hP 0 0 rfl rfl rfl 1 (Nat.le_of_ble_eq_true rfl) (hts _ kX6_goAway_0) (fun _ h9 => h9) rfl dX6_goAway_7 ?_
  refine lv_iconst (v := (5:Int32)) hx hb dX6_goAway_10 (by decide) ?_
  refine lv_iload_n hx hb dX6_goAway_11 rfl (lv_at hl 2 rfl) ?_
  refine lv_iadd hx hb dX6_goAway_12 ?_
  obtain ⟨x2, ex2, hf⟩ := lt_some hf
  refine lv_nmi ex2 ?_
  refine lv_dup2_11 hx hb dX6_goAway_13 rfl rfl ?_
  obtain ⟨h3, hf⟩ := gi_some hf
  refine g_iald hx hb hK hP 0 1 0 rfl rfl rfl h3 dX6_goAway_14 ?_
  refine lv_iload_n hx hb dX6_goAway_15 rfl (lv_at hl 0 rfl) ?_
  refine lv_iadd hx hb dX6_goAway_16 ?_
  obtain ⟨h4, hf⟩ := gi_some hf
  obtain ⟨u5, eu5, hf⟩ := lt_some hf
  refine g_iast (gs' := [mdW G a0 u5]) hx hb hK hP hD hS 0 1 0 rfl rfl rfl h4 dX6_goAway_17 (by rw [eu5]; rfl) (fun H locs hP hD hS => ?_)
  refine lv_aload_n hx hb dX6_goAway_18 rfl (lv_at hl 1 rfl) ?_
  refine g_get (C := RX6) (T := TX6) (N := 15) hx hb hts iwX6_goAway_X6 hown hK hP 0 0 rfl rfl rfl 1 (Nat.le_of_ble_eq_true rfl) (hts _ kX6_goAway_0) (fun _ h9 => h9) rfl dX6_goAway_19 ?_
  refine lv_iconst (v := (3:Int32)) hx hb dX6_goAway_22 (by decide) ?_
  refine lv_dup2_11 hx hb dX6_goAway_23 rfl rfl ?_
  obtain ⟨h6, hf⟩ := gi_some hf
  refine g_iald hx hb hK hP 0 1 0 rfl rfl rfl h6 dX6_goAway_24 ?_
  refine lv_iload_n hx hb dX6_goAway_25 rfl (lv_at hl 0 rfl) ?_
  refine lv_isub hx hb dX6_goAway_26 ?_
  obtain ⟨h7, hf⟩ := gi_some hf
  obtain ⟨u8, eu8, hf⟩ := lt_some hf
  refine g_iast (gs' := [mdW G a0 u8]) hx hb hK hP hD hS 0 1 0 rfl rfl rfl h7 dX6_goAway_27 (by rw [eu8]; rfl) (fun H locs hP hD hS => ?_)
  refine lv_aload_n hx hb dX6_goAway_28 rfl (lv_at hl 1 rfl) ?_
  refine g_get (C := RX6) (T := TX6) (N := 15) hx hb hts iwX6_goAway_X6 hown hK hP 0 0 rfl rfl rfl 1 (Nat.le_of_ble_eq_true rfl) (hts _ kX6_goAway_0) (fun _ h9 => h9) rfl dX6_goAway_29 ?_
  refine lv_bipush (v := (45:Int32)) hx hb dX6_goAway_32 (by decide) ?_
  refine lv_iload_n hx hb dX6_goAway_34 rfl (lv_at hl 2 rfl) ?_
  refine lv_iadd hx hb dX6_goAway_35 ?_
  refine lv_iconst (v := (0:Int32)) hx hb dX6_goAway_36 (by decide) ?_
  obtain ⟨h9, hf⟩ := gi_some hf
  obtain ⟨u10, eu10, hf⟩ := lt_some hf
  refine g_iast (gs' := [mdW G a0 u10]) hx hb hK hP hD hS 0 1 0 rfl rfl rfl h9 dX6_goAway_37 (by rw [eu10]; rfl) (fun H locs hP hD hS => ?_)
  refine lv_iload_n hx hb dX6_goAway_38 rfl (lv_at hl 0 rfl) ?_
  cases hf
  exact g_iret hx hb hr hlocks hP hS dX6_goAway_39
theorem kX6_leave_0 : Cond.fieldLink RX6 38 "SavingsCircleModel" "thrown" "I" ∈ wsX6_leave := (List.mem_cons_of_mem _ (List.mem_append_left _ (List.mem_append_left _ (List.mem_of_getElem? (i := 0) rfl))))
theorem iwX6_leave_X6 : ∀ w ∈ wsX60, w ∈ wsX6_leave := fun w h => (List.mem_cons_of_mem _ (List.mem_append_right _ h))
set_option maxHeartbeats 4000000 in
set_option maxRecDepth 100000 in
theorem c_X6_leave (l : Launch) (G : uG) (a0 : Nat → Nat) (v0 : MdV) (i1 : Int32) {q : Int32 × (MdV)} (hf : f_X6_leave v0 i1 = some q) : mQ l yX6_leave wsX6_leave ({ frames := 3, cells := 0, slots := 0, locals := 66 } : Room) G [.ref (a0 0), .int i1] [mdW G a0 v0] [mdW G a0 q.2] (qI G [mdW G a0 q.2] q.1) := by
  unfold f_X6_leave at hf
  refine m_of (cc := cX6_leave) (maxL := 2) (ret := (some .int)) (by decide) rfl rfl (Nat.le_of_ble_eq_true rfl) ?_
  intro p e s m args below meth c A ls S hK hA hP hD hS hl
  obtain ⟨hx, hb, hml, hown, hts, hr, hlocks⟩ := id S
  have hl : lv_has ls 2 [(0, .ref (a0 0)), (1, .int i1)] := hl
  refine lv_aload_n hx hb dX6_leave_0 rfl (lv_at hl 0 rfl) ?_
  refine lv_aload_n hx hb dX6_leave_1 rfl (lv_at hl 0 rfl) ?_
  refine lv_iload_n hx hb dX6_leave_2 rfl (lv_at hl 1 rfl) ?_
  obtain ⟨q1, hq1, hf⟩ := bd_some hf
  refine g_callVi S (As := [.int i1]) (gs' := [mdW G a0 v0]) (c_X6_whyNotLeave l G a0 v0 i1 hq1) (cwV 1 hts gX6_leave_X6_whyNotLeave rfl rfl rfl hd_X6_whyNotLeave ⟨Nat.le_of_ble_eq_true rfl, Nat.le_of_ble_eq_true rfl⟩) hK hP hD hS hA (is := [0]) rfl rfl 0 rfl rfl rfl rfl hl.1 rfl (Nat.le_of_ble_eq_true rfl) dX6_leave_3 ⟨Nat.le_of_ble_eq_true rfl, Nat.le_of_ble_eq_true rfl⟩ rfl (fun H locs hP hD hS => ?_)
  obtain ⟨u2, eu2, hf⟩ := lt_some hf
  refine g_put (ty := .int) (C := RX6) (T := TX6) (N := 15) (gs' := [mdW G a0 u2]) hx hb hts iwX6_leave_X6 tyX6 tyX6_ok nmX6 hown hK hP hD hS 0 0 rfl rfl rfl 0 (Nat.le_of_ble_eq_true rfl) (hts _ kX6_leave_0) (fun _ h9 => h9) rfl (by decide +kernel) rfl rfl (Nat.le_of_ble_eq_true rfl) dX6_leave_6 (by rw [eu2]; rfl) (fun H locs hP hD hS => ?_)
  refine lv_aload_n hx hb dX6_leave_9 rfl (lv_at hl 0 rfl) ?_
  refine g_get (C := RX6) (T := TX6) (N := 15) hx hb hts iwX6_leave_X6 hown hK hP 0 0 rfl rfl rfl 0 (Nat.le_of_ble_eq_true rfl) (hts _ kX6_leave_0) (fun _ h9 => h9) rfl dX6_leave_10 ?_
  refine lv_if_le (tgt := 18) hx hb dX6_leave_13 (by decide) (fun c3 => ?_) (fun c3 => ?_)
  · rw [if_pos c3] at hf
    refine lv_aload_n hx hb dX6_leave_18 rfl (lv_at hl 0 rfl) ?_
    obtain ⟨q4, hq4, hf⟩ := bd_some hf
    refine g_callVv S (As := []) (gs' := [mdW G a0 q4.2]) (c_X6_remember l G a0 u2 hq4) (cwV 0 hts gX6_leave_X6_remember rfl rfl rfl hd_X6_remember ⟨Nat.le_of_ble_eq_true rfl, Nat.le_of_ble_eq_true rfl⟩) hK hP hD hS hA (is := [0]) rfl rfl 0 rfl rfl rfl rfl hl.1 rfl (Nat.le_of_ble_eq_true rfl) dX6_leave_19 ⟨Nat.le_of_ble_eq_true rfl, Nat.le_of_ble_eq_true rfl⟩ rfl (fun H locs hP hD hS => ?_)
    refine lv_aload_n hx hb dX6_leave_22 rfl (lv_at hl 0 rfl) ?_
    refine lv_iload_n hx hb dX6_leave_23 rfl (lv_at hl 1 rfl) ?_
    obtain ⟨q5, hq5, hf⟩ := bd_some hf
    refine g_callVi S (As := [.int i1]) (gs' := [mdW G a0 q5.2]) (c_X6_goAway l G a0 q4.2 i1 hq5) (cwV 1 hts gX6_leave_X6_goAway rfl rfl rfl hd_X6_goAway ⟨Nat.le_of_ble_eq_true rfl, Nat.le_of_ble_eq_true rfl⟩) hK hP hD hS hA (is := [0]) rfl rfl 0 rfl rfl rfl rfl hl.1 rfl (Nat.le_of_ble_eq_true rfl) dX6_leave_24 ⟨Nat.le_of_ble_eq_true rfl, Nat.le_of_ble_eq_true rfl⟩ rfl (fun H locs hP hD hS => ?_)
    cases hf
    exact g_iret hx hb hr hlocks hP hS dX6_leave_27
  · rw [if_neg c3] at hf
    refine lv_iconst (v := (0:Int32)) hx hb dX6_leave_16 (by decide) ?_
    cases hf
    exact g_iret hx hb hr hlocks hP hS dX6_leave_17
theorem kX6_repay_0 : Cond.fieldLink RX6 38 "SavingsCircleModel" "thrown" "I" ∈ wsX6_repay := (List.mem_cons_of_mem _ (List.mem_append_left _ (List.mem_of_getElem? (i := 0) rfl)))
theorem kX6_repay_1 : Cond.fieldLink RX6 7 "SavingsCircleModel" "z" "[I" ∈ wsX6_repay := (List.mem_cons_of_mem _ (List.mem_append_left _ (List.mem_of_getElem? (i := 1) rfl)))
theorem iwX6_repay_X6 : ∀ w ∈ wsX60, w ∈ wsX6_repay := fun w h => (List.mem_cons_of_mem _ (List.mem_append_right _ h))
set_option maxHeartbeats 4000000 in
set_option maxRecDepth 100000 in
theorem c_X6_repay (l : Launch) (G : uG) (a0 : Nat → Nat) (v0 : MdV) (i1 : Int32) (i2 : Int32) {q : Int32 × (MdV)} (hf : f_X6_repay v0 i1 i2 = some q) : mQ l yX6_repay wsX6_repay ({ frames := 2, cells := 0, slots := 0, locals := 43 } : Room) G [.ref (a0 0), .int i1, .int i2] [mdW G a0 v0] [mdW G a0 q.2] (qI G [mdW G a0 q.2] q.1) := by
  unfold f_X6_repay at hf
  refine m_of (cc := cX6_repay) (maxL := 5) (ret := (some .int)) (by decide) rfl rfl (Nat.le_of_ble_eq_true rfl) ?_
  intro p e s m args below meth c A ls S hK hA hP hD hS hl
  obtain ⟨hx, hb, hml, hown, hts, hr, hlocks⟩ := id S
  have hl : lv_has ls 5 [(0, .ref (a0 0)), (1, .int i1), (2, .int i2)] := hl
  refine lv_aload_n hx hb dX6_repay_0 rfl (lv_at hl 0 rfl) ?_
  refine lv_aload_n hx hb dX6_repay_1 rfl (lv_at hl 0 rfl) ?_
  refine lv_iload_n hx hb dX6_repay_2 rfl (lv_at hl 1 rfl) ?_
  refine lv_iload_n hx hb dX6_repay_3 rfl (lv_at hl 2 rfl) ?_
  obtain ⟨q1, hq1, hf⟩ := bd_some hf
  refine g_callVi S (As := [.int i1, .int i2]) (gs' := [mdW G a0 v0]) (c_X6_whyNotTwo l G a0 v0 i1 i2 hq1) (cwV 2 hts gX6_repay_X6_whyNotTwo rfl rfl rfl hd_X6_whyNotTwo ⟨Nat.le_of_ble_eq_true rfl, Nat.le_of_ble_eq_true rfl⟩) hK hP hD hS hA (is := [0]) rfl rfl 0 rfl rfl rfl rfl hl.1 rfl (Nat.le_of_ble_eq_true rfl) dX6_repay_4 ⟨Nat.le_of_ble_eq_true rfl, Nat.le_of_ble_eq_true rfl⟩ rfl (fun H locs hP hD hS => ?_)
  obtain ⟨u2, eu2, hf⟩ := lt_some hf
  refine g_put (ty := .int) (C := RX6) (T := TX6) (N := 15) (gs' := [mdW G a0 u2]) hx hb hts iwX6_repay_X6 tyX6 tyX6_ok nmX6 hown hK hP hD hS 0 0 rfl rfl rfl 0 (Nat.le_of_ble_eq_true rfl) (hts _ kX6_repay_0) (fun _ h9 => h9) rfl (by decide +kernel) rfl rfl (Nat.le_of_ble_eq_true rfl) dX6_repay_7 (by rw [eu2]; rfl) (fun H locs hP hD hS => ?_)
  refine lv_aload_n hx hb dX6_repay_10 rfl (lv_at hl 0 rfl) ?_
  refine g_get (C := RX6) (T := TX6) (N := 15) hx hb hts iwX6_repay_X6 hown hK hP 0 0 rfl rfl rfl 0 (Nat.le_of_ble_eq_true rfl) (hts _ kX6_repay_0) (fun _ h9 => h9) rfl dX6_repay_11 ?_
  refine lv_if_le (tgt := 19) hx hb dX6_repay_14 (by decide) (fun c3 => ?_) (fun c3 => ?_)
  · rw [if_pos c3] at hf
    refine lv_aload_n hx hb dX6_repay_19 rfl (lv_at hl 0 rfl) ?_
    obtain ⟨q4, hq4, hf⟩ := bd_some hf
    refine g_callVv S (As := []) (gs' := [mdW G a0 q4.2]) (c_X6_remember l G a0 u2 hq4) (cwV 0 hts gX6_repay_X6_remember rfl rfl rfl hd_X6_remember ⟨Nat.le_of_ble_eq_true rfl, Nat.le_of_ble_eq_true rfl⟩) hK hP hD hS hA (is := [0]) rfl rfl 0 rfl rfl rfl rfl hl.1 rfl (Nat.le_of_ble_eq_true rfl) dX6_repay_20 ⟨Nat.le_of_ble_eq_true rfl, Nat.le_of_ble_eq_true rfl⟩ rfl (fun H locs hP hD hS => ?_)
    refine lv_aload_n hx hb dX6_repay_23 rfl (lv_at hl 0 rfl) ?_
    refine g_get (C := RX6) (T := TX6) (N := 15) hx hb hts iwX6_repay_X6 hown hK hP 0 0 rfl rfl rfl 1 (Nat.le_of_ble_eq_true rfl) (hts _ kX6_repay_1) (fun _ h9 => h9) rfl dX6_repay_24 ?_
    refine lv_bipush (v := (93:Int32)) hx hb dX6_repay_27 (by decide) ?_
    refine lv_bipush (v := (8:Int32)) hx hb dX6_repay_29 (by decide) ?_
    refine lv_iload_n hx hb dX6_repay_31 rfl (lv_at hl 1 rfl) ?_
    refine lv_imul hx hb dX6_repay_32 ?_
    refine lv_iadd hx hb dX6_repay_33 ?_
    refine lv_iload_n hx hb dX6_repay_34 rfl (lv_at hl 2 rfl) ?_
    refine lv_iadd hx hb dX6_repay_35 ?_
    obtain ⟨h5, hf⟩ := gi_some hf
    refine g_iald hx hb hK hP 0 1 0 rfl rfl rfl h5 dX6_repay_36 ?_
    obtain ⟨x6, ex6, hf⟩ := lt_some hf
    refine lv_nmi ex6 ?_
    refine lv_istore_n (lv' := [(3, .int x6), (0, .ref (a0 0)), (1, .int i1), (2, .int i2)]) hx hb dX6_repay_37 rfl hl (by decide) rfl (fun ls hl => ?_)
    refine lv_iload_n hx hb dX6_repay_38 rfl (lv_at hl 0 rfl) ?_
    refine lv_aload_n hx hb dX6_repay_39 rfl (lv_at hl 1 rfl) ?_
    refine g_get (C := RX6) (T := TX6) (N := 15) hx hb hts iwX6_repay_X6 hown hK hP 0 0 rfl rfl rfl 1 (Nat.le_of_ble_eq_true rfl) (hts _ kX6_repay_1) (fun _ h9 => h9) rfl dX6_repay_40 ?_
    refine lv_iconst (v := (5:Int32)) hx hb dX6_repay_43 (by decide) ?_
    refine lv_iload_n hx hb dX6_repay_44 rfl (lv_at hl 2 rfl) ?_
    refine lv_iadd hx hb dX6_repay_45 ?_
    obtain ⟨h7, hf⟩ := gi_some hf
    refine g_iald hx hb hK hP 0 1 0 rfl rfl rfl h7 dX6_repay_46 ?_
    refine lv_icmp_ge (tgt := 54) hx hb dX6_repay_47 (by decide) (fun c8 => ?_) (fun c8 => ?_)
    · rw [if_pos c8] at hf
      refine lv_aload_n hx hb dX6_repay_54 rfl (lv_at hl 1 rfl) ?_
      refine g_get (C := RX6) (T := TX6) (N := 15) hx hb hts iwX6_repay_X6 hown hK hP 0 0 rfl rfl rfl 1 (Nat.le_of_ble_eq_true rfl) (hts _ kX6_repay_1) (fun _ h9 => h9) rfl dX6_repay_55 ?_
      refine lv_iconst (v := (5:Int32)) hx hb dX6_repay_58 (by decide) ?_
      refine lv_iload_n hx hb dX6_repay_59 rfl (lv_at hl 2 rfl) ?_
      refine lv_iadd hx hb dX6_repay_60 ?_
      obtain ⟨h9, hf⟩ := gi_some hf
      refine g_iald hx hb hK hP 0 1 0 rfl rfl rfl h9 dX6_repay_61 ?_
      obtain ⟨x10, ex10, hf⟩ := lt_some hf
      refine lv_nmi ex10 ?_
      refine lv_istore (lv' := [(4, .int x10), (3, .int x6), (0, .ref (a0 0)), (1, .int i1), (2, .int i2)]) hx hb dX6_repay_62 hl (by decide) rfl (fun ls hl => ?_)
      refine lv_aload_n hx hb dX6_repay_64 rfl (lv_at hl 2 rfl) ?_
      refine g_get (C := RX6) (T := TX6) (N := 15) hx hb hts iwX6_repay_X6 hown hK hP 0 0 rfl rfl rfl 1 (Nat.le_of_ble_eq_true rfl) (hts _ kX6_repay_1) (fun _ h9 => h9) rfl dX6_repay_65 ?_
      refine lv_bipush (v := (93:Int32)) hx hb dX6_repay_68 (by decide) ?_
      refine lv_bipush (v := (8:Int32)) hx hb dX6_repay_70 (by decide) ?_
      refine lv_iload_n hx hb dX6_repay_72 rfl (lv_at hl 3 rfl) ?_
      refine lv_imul hx hb dX6_repay_73 ?_
      refine lv_iadd hx hb dX6_repay_74 ?_
      refine lv_iload_n hx hb dX6_repay_75 rfl (lv_at hl 4 rfl) ?_
      refine lv_iadd hx hb dX6_repay_76 ?_
      obtain ⟨x11, ex11, hf⟩ := lt_some hf
      refine lv_nmi ex11 ?_
      refine lv_dup2_11 hx hb dX6_repay_77 rfl rfl ?_
      obtain ⟨h12, hf⟩ := gi_some hf
      refine g_iald hx hb hK hP 0 1 0 rfl rfl rfl h12 dX6_repay_78 ?_
      refine lv_iload hx hb dX6_repay_79 (lv_at hl 0 rfl) ?_
      refine lv_isub hx hb dX6_repay_81 ?_
      obtain ⟨h13, hf⟩ := gi_some hf
      obtain ⟨u14, eu14, hf⟩ := lt_some hf
      refine g_iast (gs' := [mdW G a0 u14]) hx hb hK hP hD hS 0 1 0 rfl rfl rfl h13 dX6_repay_82 (by rw [eu14]; rfl) (fun H locs hP hD hS => ?_)
      refine lv_aload_n hx hb dX6_repay_83 rfl (lv_at hl 2 rfl) ?_
      refine g_get (C := RX6) (T := TX6) (N := 15) hx hb hts iwX6_repay_X6 hown hK hP 0 0 rfl rfl rfl 1 (Nat.le_of_ble_eq_true rfl) (hts _ kX6_repay_1) (fun _ h9 => h9) rfl dX6_repay_84 ?_
      refine lv_iconst (v := (5:Int32)) hx hb dX6_repay_87 (by decide) ?_
      refine lv_iload_n hx hb dX6_repay_88 rfl (lv_at hl 3 rfl) ?_
      refine lv_iadd hx hb dX6_repay_89 ?_
      obtain ⟨x15, ex15, hf⟩ := lt_some hf
      refine lv_nmi ex15 ?_
      refine lv_dup2_11 hx hb dX6_repay_90 rfl rfl ?_
      obtain ⟨h16, hf⟩ := gi_some hf
      refine g_iald hx hb hK hP 0 1 0 rfl rfl rfl h16 dX6_repay_91 ?_
      refine lv_iload hx hb dX6_repay_92 (lv_at hl 0 rfl) ?_
      refine lv_isub hx hb dX6_repay_94 ?_
      obtain ⟨h17, hf⟩ := gi_some hf
      obtain ⟨u18, eu18, hf⟩ := lt_some hf
      refine g_iast (gs' := [mdW G a0 u18]) hx hb hK hP hD hS 0 1 0 rfl rfl rfl h17 dX6_repay_95 (by rw [eu18]; rfl) (fun H locs hP hD hS => ?_)
      refine lv_aload_n hx hb dX6_repay_96 rfl (lv_at hl 2 rfl) ?_
      refine g_get (C := RX6) (T := TX6) (N := 15) hx hb hts iwX6_repay_X6 hown hK hP 0 0 rfl rfl rfl 1 (Nat.le_of_ble_eq_true rfl) (hts _ kX6_repay_1) (fun _ h9 => h9) rfl dX6_repay_97 ?_
      refine lv_iconst (v := (5:Int32)) hx hb dX6_repay_100 (by decide) ?_
      refine lv_iload_n hx hb dX6_repay_101 rfl (lv_at hl 4 rfl) ?_
      refine lv_iadd hx hb dX6_repay_102 ?_
      obtain ⟨x19, ex19, hf⟩ := lt_some hf
      refine lv_nmi ex19 ?_
      refine lv_dup2_11 hx hb dX6_repay_103 rfl rfl ?_
      obtain ⟨h20, hf⟩ := gi_some hf
      refine g_iald hx hb hK hP 0 1 0 rfl rfl rfl h20 dX6_repay_104 ?_
      refine lv_iload hx hb dX6_repay_105 (lv_at hl 0 rfl) ?_
      refine lv_iadd hx hb dX6_repay_107 ?_
      obtain ⟨h21, hf⟩ := gi_some hf
      obtain ⟨u22, eu22, hf⟩ := lt_some hf
      refine g_iast (gs' := [mdW G a0 u22]) hx hb hK hP hD hS 0 1 0 rfl rfl rfl h21 dX6_repay_108 (by rw [eu22]; rfl) (fun H locs hP hD hS => ?_)
      refine lv_iload hx hb dX6_repay_109 (lv_at hl 0 rfl) ?_
      cases hf
      exact g_iret hx hb hr hlocks hP hS dX6_repay_111
    · rw [if_neg c8] at hf
      refine lv_iload_n hx hb dX6_repay_50 rfl (lv_at hl 0 rfl) ?_
      refine lv_goto (tgt := 62) hx hb dX6_repay_51 (by decide) ?_
      refine lv_istore (lv' := [(4, .int x6), (3, .int x6), (0, .ref (a0 0)), (1, .int i1), (2, .int i2)]) hx hb dX6_repay_62 hl (by decide) rfl (fun ls hl => ?_)
      refine lv_aload_n hx hb dX6_repay_64 rfl (lv_at hl 2 rfl) ?_
      refine g_get (C := RX6) (T := TX6) (N := 15) hx hb hts iwX6_repay_X6 hown hK hP 0 0 rfl rfl rfl 1 (Nat.le_of_ble_eq_true rfl) (hts _ kX6_repay_1) (fun _ h9 => h9) rfl dX6_repay_65 ?_
      refine lv_bipush (v := (93:Int32)) hx hb dX6_repay_68 (by decide) ?_
      refine lv_bipush (v := (8:Int32)) hx hb dX6_repay_70 (by decide) ?_
      refine lv_iload_n hx hb dX6_repay_72 rfl (lv_at hl 3 rfl) ?_
      refine lv_imul hx hb dX6_repay_73 ?_
      refine lv_iadd hx hb dX6_repay_74 ?_
      refine lv_iload_n hx hb dX6_repay_75 rfl (lv_at hl 4 rfl) ?_
      refine lv_iadd hx hb dX6_repay_76 ?_
      obtain ⟨x23, ex23, hf⟩ := lt_some hf
      refine lv_nmi ex23 ?_
      refine lv_dup2_11 hx hb dX6_repay_77 rfl rfl ?_
      obtain ⟨h24, hf⟩ := gi_some hf
      refine g_iald hx hb hK hP 0 1 0 rfl rfl rfl h24 dX6_repay_78 ?_
      refine lv_iload hx hb dX6_repay_79 (lv_at hl 0 rfl) ?_
      refine lv_isub hx hb dX6_repay_81 ?_
      obtain ⟨h25, hf⟩ := gi_some hf
      obtain ⟨u26, eu26, hf⟩ := lt_some hf
      refine g_iast (gs' := [mdW G a0 u26]) hx hb hK hP hD hS 0 1 0 rfl rfl rfl h25 dX6_repay_82 (by rw [eu26]; rfl) (fun H locs hP hD hS => ?_)
      refine lv_aload_n hx hb dX6_repay_83 rfl (lv_at hl 2 rfl) ?_
      refine g_get (C := RX6) (T := TX6) (N := 15) hx hb hts iwX6_repay_X6 hown hK hP 0 0 rfl rfl rfl 1 (Nat.le_of_ble_eq_true rfl) (hts _ kX6_repay_1) (fun _ h9 => h9) rfl dX6_repay_84 ?_
      refine lv_iconst (v := (5:Int32)) hx hb dX6_repay_87 (by decide) ?_
      refine lv_iload_n hx hb dX6_repay_88 rfl (lv_at hl 3 rfl) ?_
      refine lv_iadd hx hb dX6_repay_89 ?_
      obtain ⟨x27, ex27, hf⟩ := lt_some hf
      refine lv_nmi ex27 ?_
      refine lv_dup2_11 hx hb dX6_repay_90 rfl rfl ?_
      obtain ⟨h28, hf⟩ := gi_some hf
      refine g_iald hx hb hK hP 0 1 0 rfl rfl rfl h28 dX6_repay_91 ?_
      refine lv_iload hx hb dX6_repay_92 (lv_at hl 0 rfl) ?_
      refine lv_isub hx hb dX6_repay_94 ?_
      obtain ⟨h29, hf⟩ := gi_some hf
      obtain ⟨u30, eu30, hf⟩ := lt_some hf
      refine g_iast (gs' := [mdW G a0 u30]) hx hb hK hP hD hS 0 1 0 rfl rfl rfl h29 dX6_repay_95 (by rw [eu30]; rfl) (fun H locs hP hD hS => ?_)
      refine lv_aload_n hx hb dX6_repay_96 rfl (lv_at hl 2 rfl) ?_
      refine g_get (C := RX6) (T := TX6) (N := 15) hx hb hts iwX6_repay_X6 hown hK hP 0 0 rfl rfl rfl 1 (Nat.le_of_ble_eq_true rfl) (hts _ kX6_repay_1) (fun _ h9 => h9) rfl dX6_repay_97 ?_
      refine lv_iconst (v := (5:Int32)) hx hb dX6_repay_100 (by decide) ?_
      refine lv_iload_n hx hb dX6_repay_101 rfl (lv_at hl 4 rfl) ?_
      refine lv_iadd hx hb dX6_repay_102 ?_
      obtain ⟨x31, ex31, hf⟩ := lt_some hf
      refine lv_nmi ex31 ?_
      refine lv_dup2_11 hx hb dX6_repay_103 rfl rfl ?_
      obtain ⟨h32, hf⟩ := gi_some hf
      refine g_iald hx hb hK hP 0 1 0 rfl rfl rfl h32 dX6_repay_104 ?_
      refine lv_iload hx hb dX6_repay_105 (lv_at hl 0 rfl) ?_
      refine lv_iadd hx hb dX6_repay_107 ?_
      obtain ⟨h33, hf⟩ := gi_some hf
      obtain ⟨u34, eu34, hf⟩ := lt_some hf
      refine g_iast (gs' := [mdW G a0 u34]) hx hb hK hP hD hS 0 1 0 rfl rfl rfl h33 dX6_repay_108 (by rw [eu34]; rfl) (fun H locs hP hD hS => ?_)
      refine lv_iload hx hb dX6_repay_109 (lv_at hl 0 rfl) ?_
      cases hf
      exact g_iret hx hb hr hlocks hP hS dX6_repay_111
  · rw [if_neg c3] at hf
    refine lv_iconst (v := (0:Int32)) hx hb dX6_repay_17 (by decide) ?_
    cases hf
    exact g_iret hx hb hr hlocks hP hS dX6_repay_18
