theorem hd_X0_forgetAll : yX0_forgetAll.cls = RX0 ∧ yX0_forgetAll.cls ≠ "java/lang/invoke/MethodHandle" ∧ yX0_forgetAll.cls ≠ "java/lang/invoke/VarHandle" ∧ (parseMethodDescriptor yX0_forgetAll.desc).map (fun d => d.parameters.length) = some 0 := by decide +kernel
theorem hd_X0_remember : yX0_remember.cls = RX0 ∧ yX0_remember.cls ≠ "java/lang/invoke/MethodHandle" ∧ yX0_remember.cls ≠ "java/lang/invoke/VarHandle" ∧ (parseMethodDescriptor yX0_remember.desc).map (fun d => d.parameters.length) = some 1 := by decide +kernel
theorem hd_X3_chainLength : yX3_chainLength.cls = RX3 ∧ yX3_chainLength.cls ≠ "java/lang/invoke/MethodHandle" ∧ yX3_chainLength.cls ≠ "java/lang/invoke/VarHandle" ∧ (parseMethodDescriptor yX3_chainLength.desc).map (fun d => d.parameters.length) = some 1 := by decide +kernel
theorem hd_X3_sumOfDebts : yX3_sumOfDebts.cls = RX3 ∧ yX3_sumOfDebts.cls ≠ "java/lang/invoke/MethodHandle" ∧ yX3_sumOfDebts.cls ≠ "java/lang/invoke/VarHandle" ∧ (parseMethodDescriptor yX3_sumOfDebts.desc).map (fun d => d.parameters.length) = some 0 := by decide +kernel
theorem hd_X3_sumOfPurses : yX3_sumOfPurses.cls = RX3 ∧ yX3_sumOfPurses.cls ≠ "java/lang/invoke/MethodHandle" ∧ yX3_sumOfPurses.cls ≠ "java/lang/invoke/VarHandle" ∧ (parseMethodDescriptor yX3_sumOfPurses.desc).map (fun d => d.parameters.length) = some 0 := by decide +kernel
theorem hd_X4_add : yX4_add.cls = RX4 ∧ yX4_add.cls ≠ "java/lang/invoke/MethodHandle" ∧ yX4_add.cls ≠ "java/lang/invoke/VarHandle" ∧ (parseMethodDescriptor yX4_add.desc).map (fun d => d.parameters.length) = some 1 := by decide +kernel
theorem hd_X4_readInto : yX4_readInto.cls = RX4 ∧ yX4_readInto.cls ≠ "java/lang/invoke/MethodHandle" ∧ yX4_readInto.cls ≠ "java/lang/invoke/VarHandle" ∧ (parseMethodDescriptor yX4_readInto.desc).map (fun d => d.parameters.length) = some 1 := by decide +kernel
theorem hd_X5_bitsOf : yX5_bitsOf.cls = RX5 ∧ yX5_bitsOf.cls ≠ "java/lang/invoke/MethodHandle" ∧ yX5_bitsOf.cls ≠ "java/lang/invoke/VarHandle" ∧ (parseMethodDescriptor yX5_bitsOf.desc).map (fun d => d.parameters.length) = some 1 := by decide +kernel
theorem hd_X5_requireMember : yX5_requireMember.cls = RX5 ∧ yX5_requireMember.cls ≠ "java/lang/invoke/MethodHandle" ∧ yX5_requireMember.cls ≠ "java/lang/invoke/VarHandle" ∧ (parseMethodDescriptor yX5_requireMember.desc).map (fun d => d.parameters.length) = some 1 := by decide +kernel
theorem hd_X5_requireRange : yX5_requireRange.cls = RX5 ∧ yX5_requireRange.cls ≠ "java/lang/invoke/MethodHandle" ∧ yX5_requireRange.cls ≠ "java/lang/invoke/VarHandle" ∧ (parseMethodDescriptor yX5_requireRange.desc).map (fun d => d.parameters.length) = some 3 := by decide +kernel
theorem hd_X5_requireTwoMembers : yX5_requireTwoMembers.cls = RX5 ∧ yX5_requireTwoMembers.cls ≠ "java/lang/invoke/MethodHandle" ∧ yX5_requireTwoMembers.cls ≠ "java/lang/invoke/VarHandle" ∧ (parseMethodDescriptor yX5_requireTwoMembers.desc).map (fun d => d.parameters.length) = some 2 := by decide +kernel
theorem kX5_requireRange_0 : Cond.classLink RX5 116 "java/lang/IllegalArgumentException" ∈ wsX5_requireRange := (List.mem_cons_of_mem _ (List.mem_append_left _ (List.mem_of_getElem? (i := 0) rfl)))
theorem kX5_requireRange_1 : Cond.initialized "java/lang/IllegalArgumentException" ∈ wsX5_requireRange := (List.mem_cons_of_mem _ (List.mem_append_left _ (List.mem_of_getElem? (i := 1) rfl)))
theorem atX5_requireRange_120 : ∀ w ∈ (vx_atS RX5 120 "java/lang/IllegalArgumentException" ["java/lang/RuntimeException", "java/lang/Exception"]).filter goodWord, w ∈ wsX5_requireRange := fun w h => (List.mem_cons_of_mem _ (List.mem_append_right _ h))
set_option maxHeartbeats 4000000 in
set_option maxRecDepth 100000 in
theorem c_X5_requireRange (l : Launch) (hl0 : l.stackTraces = false) (G : uG) (i0 : Int32) (i1 : Int32) (i2 : Int32) {q : (Unit × (Unit)) ⊕ (String × (Unit))} (hf : f_X5_requireRange i0 i1 i2 = some q) : mX l yX5_requireRange wsX5_requireRange ({ frames := 6, cells := 1, slots := 6, locals := 92 } : Room) G [.int i0, .int i1, .int i2] [] (om (fun (w9 : Unit) => []) q) (qVx G (om (fun (w9 : Unit) => []) q)) 1 6 := by
  unfold f_X5_requireRange at hf
  refine mX_of (cc := cX5_requireRange) (maxL := 3) (ret := none) (by decide) rfl (om_gad (fun _ => rfl)) (Nat.le_of_ble_eq_true rfl) ?_
  intro p e s m args below meth c A ls S hK hA hex hTH hP hD hS hl
  obtain ⟨hx, hb, hml, hown, hts, hr, hlocks⟩ := id S
  have hl : lv_has ls 3 [(0, .int i0), (1, .int i1), (2, .int i2)] := hl
  refine lv_iload_n hx hb dX5_requireRange_0 rfl (lv_at hl 0 rfl) ?_
  refine lv_iload_n hx hb dX5_requireRange_1 rfl (lv_at hl 1 rfl) ?_
  refine lv_icmp_lt (tgt := 10) hx hb dX5_requireRange_2 (by decide) (fun c1 => ?_) (fun c1 => ?_)
  · rw [if_pos c1] at hf
    cases hf
    exact g_throwW S (cls := "java/lang/IllegalArgumentException") (text := "an argument is out of its range") (names := ["java/lang/RuntimeException", "java/lang/Exception"]) rfl hex hl0 hTH vf_IllegalArgumentException vf_names (hts _ kX5_requireRange_0) (hts _ kX5_requireRange_1) (List.mem_of_getElem? (i := 14) rfl) atX5_requireRange_120 vg_RX5_120 vh_RX5_120 dX5_requireRange_10 dX5_requireRange_13 dX5_requireRange_14 dX5_requireRange_17 dX5_requireRange_20 (Nat.le_of_ble_eq_true rfl) (Nat.le_of_ble_eq_true rfl) (Nat.le_of_ble_eq_true rfl) (Nat.le_of_ble_eq_true rfl) (Nat.le_of_ble_eq_true rfl) (Nat.le_of_ble_eq_true rfl) hl.1 rfl hP hS
  · rw [if_neg c1] at hf
    refine lv_iload_n hx hb dX5_requireRange_5 rfl (lv_at hl 0 rfl) ?_
    refine lv_iload_n hx hb dX5_requireRange_6 rfl (lv_at hl 2 rfl) ?_
    refine lv_icmp_le (tgt := 21) hx hb dX5_requireRange_7 (by decide) (fun c2 => ?_) (fun c2 => ?_)
    · rw [if_pos c2] at hf
      cases hf
      exact g_xvret hx hb hr hlocks rfl (Nat.le_of_ble_eq_true rfl) (Nat.le_of_ble_eq_true rfl) hP hS dX5_requireRange_21
    · rw [if_neg c2] at hf
      cases hf
      exact g_throwW S (cls := "java/lang/IllegalArgumentException") (text := "an argument is out of its range") (names := ["java/lang/RuntimeException", "java/lang/Exception"]) rfl hex hl0 hTH vf_IllegalArgumentException vf_names (hts _ kX5_requireRange_0) (hts _ kX5_requireRange_1) (List.mem_of_getElem? (i := 14) rfl) atX5_requireRange_120 vg_RX5_120 vh_RX5_120 dX5_requireRange_10 dX5_requireRange_13 dX5_requireRange_14 dX5_requireRange_17 dX5_requireRange_20 (Nat.le_of_ble_eq_true rfl) (Nat.le_of_ble_eq_true rfl) (Nat.le_of_ble_eq_true rfl) (Nat.le_of_ble_eq_true rfl) (Nat.le_of_ble_eq_true rfl) (Nat.le_of_ble_eq_true rfl) hl.1 rfl hP hS
theorem kX5_append_0 : Cond.fieldLink RX5 43 "SavingsCircle" "text" "LSavingsCircle$Text;" ∈ wsX5_append := (List.mem_cons_of_mem _ (List.mem_append_left _ (List.mem_append_left _ (List.mem_append_left _ (List.mem_append_left _ (List.mem_of_getElem? (i := 2) rfl))))))
theorem kX5_append_1 : Cond.fieldLink RX5 59 "SavingsCircle$Text" "length" "I" ∈ wsX5_append := (List.mem_cons_of_mem _ (List.mem_append_left _ (List.mem_append_left _ (List.mem_append_left _ (List.mem_append_left _ (List.mem_of_getElem? (i := 3) rfl))))))
theorem kX5_append_2 : Cond.classLink RX5 63 "java/lang/IllegalStateException" ∈ wsX5_append := (List.mem_cons_of_mem _ (List.mem_append_left _ (List.mem_append_left _ (List.mem_append_left _ (List.mem_append_left _ (List.mem_of_getElem? (i := 0) rfl))))))
theorem kX5_append_3 : Cond.initialized "java/lang/IllegalStateException" ∈ wsX5_append := (List.mem_cons_of_mem _ (List.mem_append_left _ (List.mem_append_left _ (List.mem_append_left _ (List.mem_append_left _ (List.mem_of_getElem? (i := 1) rfl))))))
theorem iwX5_append_X5 : ∀ w ∈ wsX50, w ∈ wsX5_append := fun w h => (List.mem_cons_of_mem _ (List.mem_append_left _ (List.mem_append_left _ (List.mem_append_left _ (List.mem_append_right _ h)))))
theorem iwX5_append_X4 : ∀ w ∈ wsX40, w ∈ wsX5_append := fun w h => (List.mem_cons_of_mem _ (List.mem_append_left _ (List.mem_append_left _ (List.mem_append_right _ h))))
theorem atX5_append_67 : ∀ w ∈ (vx_atS RX5 67 "java/lang/IllegalStateException" ["java/lang/RuntimeException", "java/lang/Exception"]).filter goodWord, w ∈ wsX5_append := fun w h => (List.mem_cons_of_mem _ (List.mem_append_left _ (List.mem_append_right _ h)))
set_option maxHeartbeats 4000000 in
set_option maxRecDepth 100000 in
theorem c_X5_append (l : Launch) (hl0 : l.stackTraces = false) (G : uG) (a0 : Nat → Nat) (a1 : Nat → Nat) (a2 : Nat → Nat) (a3 : Nat → Nat) (a4 : Nat → Nat) (a5 : Nat → Nat) (a6 : Nat → Nat) (a7 : Nat → Nat → Nat) (a8 : Nat → Nat) (a9 : Nat → Nat) (a10 : Nat → Nat) (a11 : Nat → Nat) (v8 : TxV) (i1 : Int32) {q : (Int32 × (TxV)) ⊕ (String × (TxV))} (hf : f_X5_append v8 i1 = some q) : mX l yX5_append wsX5_append ({ frames := 7, cells := 2, slots := 12, locals := 114 } : Room) G [.ref (a0 0), .int i1] [maW a0 (a1 0) (a2 0) (a3 0) (a4 0) (a7 0 0) (a8 0) (a9 0) (a9 1), txW G a8 v8] (om (fun (w9 : TxV) => [maW a0 (a1 0) (a2 0) (a3 0) (a4 0) (a7 0 0) (a8 0) (a9 0) (a9 1), txW G a8 w9]) q) (qIx G (om (fun (w9 : TxV) => [maW a0 (a1 0) (a2 0) (a3 0) (a4 0) (a7 0 0) (a8 0) (a9 0) (a9 1), txW G a8 w9]) q)) 2 12 := by
  unfold f_X5_append at hf
  refine mX_of (cc := cX5_append) (maxL := 2) (ret := (some .int)) (by decide) rfl (om_gad (fun _ => rfl)) (Nat.le_of_ble_eq_true rfl) ?_
  intro p e s m args below meth c A ls S hK hA hex hTH hP hD hS hl
  obtain ⟨hx, hb, hml, hown, hts, hr, hlocks⟩ := id S
  have hl : lv_has ls 2 [(0, .ref (a0 0)), (1, .int i1)] := hl
  refine lv_iload_n hx hb dX5_append_0 rfl (lv_at hl 1 rfl) ?_
  refine lv_iconst (v := (0:Int32)) hx hb dX5_append_1 (by decide) ?_
  refine lv_sipush (v := (255:Int32)) hx hb dX5_append_2 (by decide) ?_
  obtain ⟨q1, hq1, hf⟩ := bx_some hf
  refine g_callXSv S (cells' := 1) (slots' := 6) (As := [.int i1, .int (0:Int32), .int (255:Int32)]) (c_X5_requireRange l hl0 G i1 (0:Int32) (255:Int32) hq1) (va_cwS 3 hts gX5_append_X5_requireRange rfl rfl rfl hd_X5_requireRange.2 ⟨Nat.le_of_ble_eq_true rfl, Nat.le_of_ble_eq_true rfl⟩) hTH hK hP hD hS hA (is := []) rfl rfl rfl hl.1 rfl (Nat.le_of_ble_eq_true rfl) dX5_append_5 ⟨Nat.le_of_ble_eq_true rfl, Nat.le_of_ble_eq_true rfl⟩ rfl rfl (fun u ho H locs hP hD hS => ?_) (fun E u ho ce q9 H locs hP hD hS hce hcv hcl => by obtain ⟨r9, rfl, rfl, rfl⟩ := om_r ho; have hf := bxe_r hf; subst hf; exact g_xout hex hlocks hce hcv hcl rfl (Nat.le_of_ble_eq_true rfl) (Nat.le_of_ble_eq_true rfl) hP hS)
  obtain ⟨r2, rfl, -, rfl⟩ := om_l ho
  have hf := bxe_l hf
  have hP : gP G [maW a0 (a1 0) (a2 0) (a3 0) (a4 0) (a7 0 0) (a8 0) (a9 0) (a9 1), txW G a8 v8] H := hP
  have hD : gD A [maW a0 (a1 0) (a2 0) (a3 0) (a4 0) (a7 0 0) (a8 0) (a9 0) (a9 1), txW G a8 v8] := hD
  refine lv_aload_n hx hb dX5_append_8 rfl (lv_at hl 0 rfl) ?_
  refine g_get (C := RX5) (T := TX5) (N := 8) hx hb hts iwX5_append_X5 hown hK hP 0 0 rfl rfl rfl 5 (Nat.le_of_ble_eq_true rfl) (hts _ kX5_append_0) (fun _ h9 => h9) rfl dX5_append_9 ?_
  refine g_get (C := RX4) (T := TX4) (N := 3) hx hb hts iwX5_append_X4 hown hK hP 1 0 rfl rfl rfl 1 (Nat.le_of_ble_eq_true rfl) (hts _ kX5_append_1) (fun _ h9 => h9) rfl dX5_append_12 ?_
  refine lv_bipush (v := (100:Int32)) hx hb dX5_append_15 (by decide) ?_
  refine lv_icmp_lt (tgt := 30) hx hb dX5_append_17 (by decide) (fun c4 => ?_) (fun c4 => ?_)
  · rw [if_pos c4] at hf
    refine lv_aload_n hx hb dX5_append_30 rfl (lv_at hl 0 rfl) ?_
    refine g_get (C := RX5) (T := TX5) (N := 8) hx hb hts iwX5_append_X5 hown hK hP 0 0 rfl rfl rfl 5 (Nat.le_of_ble_eq_true rfl) (hts _ kX5_append_0) (fun _ h9 => h9) rfl dX5_append_31 ?_
    refine lv_iload_n hx hb dX5_append_34 rfl (lv_at hl 1 rfl) ?_
    obtain ⟨q5, hq5, hf⟩ := bd_some hf
    refine g_callVi S (As := [.int i1]) (gs' := [maW a0 (a1 0) (a2 0) (a3 0) (a4 0) (a7 0 0) (a8 0) (a9 0) (a9 1), txW G a8 q5.2]) (c_X4_add l G a8 v8 i1 hq5) (cwV 1 hts gX5_append_X4_add rfl rfl rfl hd_X4_add ⟨Nat.le_of_ble_eq_true rfl, Nat.le_of_ble_eq_true rfl⟩) hK hP hD hS hA (is := [1]) rfl rfl 1 rfl rfl rfl rfl hl.1 rfl (Nat.le_of_ble_eq_true rfl) dX5_append_35 ⟨Nat.le_of_ble_eq_true rfl, Nat.le_of_ble_eq_true rfl⟩ rfl (fun H locs hP hD hS => ?_)
    cases hf
    exact g_xiret hx hb hr hlocks rfl (Nat.le_of_ble_eq_true rfl) (Nat.le_of_ble_eq_true rfl) hP hS dX5_append_38
  · rw [if_neg c4] at hf
    cases hf
    exact g_throw S (cls := "java/lang/IllegalStateException") (text := "the text is full") (names := ["java/lang/RuntimeException", "java/lang/Exception"]) rfl hex hl0 hTH vf_IllegalStateException vf_names (hts _ kX5_append_2) (hts _ kX5_append_3) (List.mem_of_getElem? (i := 0) rfl) atX5_append_67 vg_RX5_67 vh_RX5_67 dX5_append_20 dX5_append_23 dX5_append_24 dX5_append_26 dX5_append_29 (Nat.le_of_ble_eq_true rfl) (Nat.le_of_ble_eq_true rfl) (Nat.le_of_ble_eq_true rfl) (Nat.le_of_ble_eq_true rfl) (Nat.le_of_ble_eq_true rfl) (Nat.le_of_ble_eq_true rfl) hl.1 rfl hP hS
theorem kX5_clearText_0 : Cond.fieldLink RX5 43 "SavingsCircle" "text" "LSavingsCircle$Text;" ∈ wsX5_clearText := (List.mem_cons_of_mem _ (List.mem_append_left _ (List.mem_append_left _ (List.mem_of_getElem? (i := 0) rfl))))
theorem kX5_clearText_1 : Cond.fieldLink RX5 59 "SavingsCircle$Text" "length" "I" ∈ wsX5_clearText := (List.mem_cons_of_mem _ (List.mem_append_left _ (List.mem_append_left _ (List.mem_of_getElem? (i := 1) rfl))))
theorem iwX5_clearText_X5 : ∀ w ∈ wsX50, w ∈ wsX5_clearText := fun w h => (List.mem_cons_of_mem _ (List.mem_append_left _ (List.mem_append_right _ h)))
theorem iwX5_clearText_X4 : ∀ w ∈ wsX40, w ∈ wsX5_clearText := fun w h => (List.mem_cons_of_mem _ (List.mem_append_right _ h))
set_option maxHeartbeats 4000000 in
set_option maxRecDepth 100000 in
theorem c_X5_clearText (l : Launch) (G : uG) (a0 : Nat → Nat) (a1 : Nat → Nat) (a2 : Nat → Nat) (a3 : Nat → Nat) (a4 : Nat → Nat) (a5 : Nat → Nat) (a6 : Nat → Nat) (a7 : Nat → Nat → Nat) (a8 : Nat → Nat) (a9 : Nat → Nat) (a10 : Nat → Nat) (a11 : Nat → Nat) (v8 : TxV) {q : Int32 × (TxV)} (hf : f_X5_clearText v8 = some q) : mQ l yX5_clearText wsX5_clearText ({ frames := 0, cells := 0, slots := 0, locals := 0 } : Room) G [.ref (a0 0)] [maW a0 (a1 0) (a2 0) (a3 0) (a4 0) (a7 0 0) (a8 0) (a9 0) (a9 1), txW G a8 v8] [maW a0 (a1 0) (a2 0) (a3 0) (a4 0) (a7 0 0) (a8 0) (a9 0) (a9 1), txW G a8 q.2] (qI G [maW a0 (a1 0) (a2 0) (a3 0) (a4 0) (a7 0 0) (a8 0) (a9 0) (a9 1), txW G a8 q.2] q.1) := by
  unfold f_X5_clearText at hf
  refine m_of (cc := cX5_clearText) (maxL := 2) (ret := (some .int)) (by decide) rfl rfl (Nat.le_of_ble_eq_true rfl) ?_
  intro p e s m args below meth c A ls S hK hA hP hD hS hl
  obtain ⟨hx, hb, hml, hown, hts, hr, hlocks⟩ := id S
  have hl : lv_has ls 2 [(0, .ref (a0 0))] := hl
  refine lv_aload_n hx hb dX5_clearText_0 rfl (lv_at hl 0 rfl) ?_
  refine g_get (C := RX5) (T := TX5) (N := 8) hx hb hts iwX5_clearText_X5 hown hK hP 0 0 rfl rfl rfl 5 (Nat.le_of_ble_eq_true rfl) (hts _ kX5_clearText_0) (fun _ h9 => h9) rfl dX5_clearText_1 ?_
  refine g_get (C := RX4) (T := TX4) (N := 3) hx hb hts iwX5_clearText_X4 hown hK hP 1 0 rfl rfl rfl 1 (Nat.le_of_ble_eq_true rfl) (hts _ kX5_clearText_1) (fun _ h9 => h9) rfl dX5_clearText_4 ?_
  obtain ⟨x1, ex1, hf⟩ := lt_some hf
  refine lv_nmi ex1 ?_
  refine lv_istore_n (lv' := [(1, .int x1), (0, .ref (a0 0))]) hx hb dX5_clearText_7 rfl hl (by decide) rfl (fun ls hl => ?_)
  refine lv_aload_n hx hb dX5_clearText_8 rfl (lv_at hl 1 rfl) ?_
  refine g_get (C := RX5) (T := TX5) (N := 8) hx hb hts iwX5_clearText_X5 hown hK hP 0 0 rfl rfl rfl 5 (Nat.le_of_ble_eq_true rfl) (hts _ kX5_clearText_0) (fun _ h9 => h9) rfl dX5_clearText_9 ?_
  refine lv_iconst (v := (0:Int32)) hx hb dX5_clearText_12 (by decide) ?_
  obtain ⟨u2, eu2, hf⟩ := lt_some hf
  refine g_put (ty := .int) (C := RX4) (T := TX4) (N := 3) (gs' := [maW a0 (a1 0) (a2 0) (a3 0) (a4 0) (a7 0 0) (a8 0) (a9 0) (a9 1), txW G a8 u2]) hx hb hts iwX5_clearText_X4 tyX4 tyX4_ok nmX4 hown hK hP hD hS 1 0 rfl rfl rfl 1 (Nat.le_of_ble_eq_true rfl) (hts _ kX5_clearText_1) (fun _ h9 => h9) rfl (by decide +kernel) rfl rfl (Nat.le_of_ble_eq_true rfl) dX5_clearText_13 (by rw [eu2]; rfl) (fun H locs hP hD hS => ?_)
  refine lv_iload_n hx hb dX5_clearText_16 rfl (lv_at hl 0 rfl) ?_
  cases hf
  exact g_iret hx hb hr hlocks hP hS dX5_clearText_17
theorem kX5_errorPosition_0 : Cond.fieldLink RX5 43 "SavingsCircle" "text" "LSavingsCircle$Text;" ∈ wsX5_errorPosition := (List.mem_cons_of_mem _ (List.mem_append_left _ (List.mem_append_left _ (List.mem_append_left _ (List.mem_append_left _ (List.mem_of_getElem? (i := 0) rfl))))))
theorem kX5_errorPosition_1 : Cond.fieldLink RX5 16 "SavingsCircle" "trial" "LSavingsCircle$State;" ∈ wsX5_errorPosition := (List.mem_cons_of_mem _ (List.mem_append_left _ (List.mem_append_left _ (List.mem_append_left _ (List.mem_append_left _ (List.mem_of_getElem? (i := 1) rfl))))))
theorem iwX5_errorPosition_X5 : ∀ w ∈ wsX50, w ∈ wsX5_errorPosition := fun w h => (List.mem_cons_of_mem _ (List.mem_append_left _ (List.mem_append_left _ (List.mem_append_right _ h))))
set_option maxHeartbeats 4000000 in
set_option maxRecDepth 100000 in
theorem c_X5_errorPosition (l : Launch) (G : uG) (a0 : Nat → Nat) (a1 : Nat → Nat) (a2 : Nat → Nat) (a3 : Nat → Nat) (a4 : Nat → Nat) (a5 : Nat → Nat) (a6 : Nat → Nat) (a7 : Nat → Nat → Nat) (a8 : Nat → Nat) (a9 : Nat → Nat) (a10 : Nat → Nat) (a11 : Nat → Nat) (v2 : StV) (v8 : TxV) {q : Int32 × (StV × TxV)} (hf : f_X5_errorPosition v2 v8 = some q) : mQ l yX5_errorPosition wsX5_errorPosition ({ frames := 6, cells := 0, slots := 0, locals := 135 } : Room) G [.ref (a0 0)] [maW a0 (a1 0) (a2 0) (a3 0) (a4 0) (a7 0 0) (a8 0) (a9 0) (a9 1), stW G a2 v2, txW G a8 v8] [maW a0 (a1 0) (a2 0) (a3 0) (a4 0) (a7 0 0) (a8 0) (a9 0) (a9 1), stW G a2 q.2.1, txW G a8 q.2.2] (qI G [maW a0 (a1 0) (a2 0) (a3 0) (a4 0) (a7 0 0) (a8 0) (a9 0) (a9 1), stW G a2 q.2.1, txW G a8 q.2.2] q.1) := by
  unfold f_X5_errorPosition at hf
  refine m_of (cc := cX5_errorPosition) (maxL := 1) (ret := (some .int)) (by decide) rfl rfl (Nat.le_of_ble_eq_true rfl) ?_
  intro p e s m args below meth c A ls S hK hA hP hD hS hl
  obtain ⟨hx, hb, hml, hown, hts, hr, hlocks⟩ := id S
  have hl : lv_has ls 1 [(0, .ref (a0 0))] := hl
  refine lv_aload_n hx hb dX5_errorPosition_0 rfl (lv_at hl 0 rfl) ?_
  refine g_get (C := RX5) (T := TX5) (N := 8) hx hb hts iwX5_errorPosition_X5 hown hK hP 0 0 rfl rfl rfl 5 (Nat.le_of_ble_eq_true rfl) (hts _ kX5_errorPosition_0) (fun _ h9 => h9) rfl dX5_errorPosition_1 ?_
  refine lv_aload_n hx hb dX5_errorPosition_4 rfl (lv_at hl 0 rfl) ?_
  refine g_get (C := RX5) (T := TX5) (N := 8) hx hb hts iwX5_errorPosition_X5 hown hK hP 0 0 rfl rfl rfl 1 (Nat.le_of_ble_eq_true rfl) (hts _ kX5_errorPosition_1) (fun _ h9 => h9) rfl dX5_errorPosition_5 ?_
  obtain ⟨q1, hq1, hf⟩ := bd_some hf
  refine g_callVi S (As := [.ref (a2 0)]) (gs' := [maW a0 (a1 0) (a2 0) (a3 0) (a4 0) (a7 0 0) (a8 0) (a9 0) (a9 1), stW G a2 q1.2.2, txW G a8 q1.2.1]) (c_X4_readInto l G a8 a2 v8 v2 hq1) (cwV 1 hts gX5_errorPosition_X4_readInto rfl rfl rfl hd_X4_readInto ⟨Nat.le_of_ble_eq_true rfl, Nat.le_of_ble_eq_true rfl⟩) hK hP hD hS hA (is := [2, 1]) rfl rfl 2 rfl rfl rfl rfl hl.1 rfl (Nat.le_of_ble_eq_true rfl) dX5_errorPosition_8 ⟨Nat.le_of_ble_eq_true rfl, Nat.le_of_ble_eq_true rfl⟩ rfl (fun H locs hP hD hS => ?_)
  cases hf
  exact g_iret hx hb hr hlocks hP hS dX5_errorPosition_11
theorem kX5_load_0 : Cond.fieldLink RX5 43 "SavingsCircle" "text" "LSavingsCircle$Text;" ∈ wsX5_load := (List.mem_cons_of_mem _ (List.mem_append_left _ (List.mem_append_left _ (List.mem_append_left _ (List.mem_append_left _ (List.mem_append_left _ (List.mem_append_left _ (List.mem_of_getElem? (i := 2) rfl))))))))
theorem kX5_load_1 : Cond.fieldLink RX5 16 "SavingsCircle" "trial" "LSavingsCircle$State;" ∈ wsX5_load := (List.mem_cons_of_mem _ (List.mem_append_left _ (List.mem_append_left _ (List.mem_append_left _ (List.mem_append_left _ (List.mem_append_left _ (List.mem_append_left _ (List.mem_of_getElem? (i := 3) rfl))))))))
theorem kX5_load_2 : Cond.constant RX5 78 (-99999) ∈ wsX5_load := (List.mem_cons_of_mem _ (List.mem_append_left _ (List.mem_append_left _ (List.mem_append_left _ (List.mem_append_left _ (List.mem_append_left _ (List.mem_append_left _ (List.mem_of_getElem? (i := 4) rfl))))))))
theorem kX5_load_3 : Cond.fieldLink RX5 10 "SavingsCircle" "now" "LSavingsCircle$State;" ∈ wsX5_load := (List.mem_cons_of_mem _ (List.mem_append_left _ (List.mem_append_left _ (List.mem_append_left _ (List.mem_append_left _ (List.mem_append_left _ (List.mem_append_left _ (List.mem_of_getElem? (i := 5) rfl))))))))
theorem kX5_load_4 : Cond.fieldLink RX5 36 "SavingsCircle" "past" "LSavingsCircle$Past;" ∈ wsX5_load := (List.mem_cons_of_mem _ (List.mem_append_left _ (List.mem_append_left _ (List.mem_append_left _ (List.mem_append_left _ (List.mem_append_left _ (List.mem_append_left _ (List.mem_of_getElem? (i := 6) rfl))))))))
theorem kX5_load_5 : Cond.fieldLink RX5 51 "SavingsCircle" "slotUsed" "[Z" ∈ wsX5_load := (List.mem_cons_of_mem _ (List.mem_append_left _ (List.mem_append_left _ (List.mem_append_left _ (List.mem_append_left _ (List.mem_append_left _ (List.mem_append_left _ (List.mem_of_getElem? (i := 7) rfl))))))))
theorem kX5_load_6 : Cond.fieldLink RX5 88 "SavingsCircle$State" "count" "I" ∈ wsX5_load := (List.mem_cons_of_mem _ (List.mem_append_left _ (List.mem_append_left _ (List.mem_append_left _ (List.mem_append_left _ (List.mem_append_left _ (List.mem_append_left _ (List.mem_of_getElem? (i := 8) rfl))))))))
theorem kX5_load_7 : Cond.classLink RX5 63 "java/lang/IllegalStateException" ∈ wsX5_load := (List.mem_cons_of_mem _ (List.mem_append_left _ (List.mem_append_left _ (List.mem_append_left _ (List.mem_append_left _ (List.mem_append_left _ (List.mem_append_left _ (List.mem_of_getElem? (i := 0) rfl))))))))
theorem kX5_load_8 : Cond.initialized "java/lang/IllegalStateException" ∈ wsX5_load := (List.mem_cons_of_mem _ (List.mem_append_left _ (List.mem_append_left _ (List.mem_append_left _ (List.mem_append_left _ (List.mem_append_left _ (List.mem_append_left _ (List.mem_of_getElem? (i := 1) rfl))))))))
theorem iwX5_load_X5 : ∀ w ∈ wsX50, w ∈ wsX5_load := fun w h => (List.mem_cons_of_mem _ (List.mem_append_left _ (List.mem_append_left _ (List.mem_append_left _ (List.mem_append_left _ (List.mem_append_right _ h))))))
theorem iwX5_load_X3 : ∀ w ∈ wsX30, w ∈ wsX5_load := fun w h => (List.mem_cons_of_mem _ (List.mem_append_left _ (List.mem_append_left _ (List.mem_append_left _ (List.mem_append_right _ h)))))
theorem atX5_load_67 : ∀ w ∈ (vx_atS RX5 67 "java/lang/IllegalStateException" ["java/lang/RuntimeException", "java/lang/Exception"]).filter goodWord, w ∈ wsX5_load := fun w h => (List.mem_cons_of_mem _ (List.mem_append_right _ h))
set_option maxHeartbeats 4000000 in
set_option maxRecDepth 100000 in
theorem w_X5_load_46 {p : Program} {l : Launch} {e : Env} {s : State} {m : MethodId} {args : Array Value} {below : List Frame} {meth : Method} {c : Code} {A : Nat → Prop} {Q : State → Prop} (S : Ev p s m args meth c cX5_load 2 (some .int) yX5_load.cls wsX5_load) {G : uG} (hK : kK G s) (hA : ∀ q, s.heap.size ≤ q → A q) (_ : uG) (a0 : Nat → Nat) (a1 : Nat → Nat) (a2 : Nat → Nat) (a3 : Nat → Nat) (a4 : Nat → Nat) (a5 : Nat → Nat) (a6 : Nat → Nat) (a7 : Nat → Nat → Nat) (a8 : Nat → Nat) (a9 : Nat → Nat) (a10 : Nat → Nat) (a11 : Nat → Nat) (v1 : StV) (v2 : StV) (v7 : PaV) (v8 : TxV) : ∀ (n : Nat) (z : (Int32 × SlV)) (e1 : (Int32 × SlV)), lp (b_X5_load_46 v1 v2 v7 v8) n z = some e1 → ∀ (H : Heap) (locs : List Loc) (ls : Array Slot), gP G [maW a0 (a1 0) (a2 0) (a3 0) (a4 0) (a7 0 0) (a8 0) (a9 0) (a9 1), stW G a1 v1, stW G a2 v2, paW G a7 v7, txW G a8 v8, slW G a9 (a10 0) (a11 0) z.2] H → gD A [maW a0 (a1 0) (a2 0) (a3 0) (a4 0) (a7 0 0) (a8 0) (a9 0) (a9 1), stW G a1 v1, stW G a2 v2, paW G a7 v7, txW G a8 v8, slW G a9 (a10 0) (a11 0) z.2] → va_S A s.heap H locs → lv_has ls 2 [(0, .ref (a0 0)), (1, .int z.1)] → (∀ (H : Heap) (locs : List Loc) (ls : Array Slot), gP G [maW a0 (a1 0) (a2 0) (a3 0) (a4 0) (a7 0 0) (a8 0) (a9 0) (a9 1), stW G a1 v1, stW G a2 v2, paW G a7 v7, txW G a8 v8, slW G a9 (a10 0) (a11 0) e1.2] H → gD A [maW a0 (a1 0) (a2 0) (a3 0) (a4 0) (a7 0 0) (a8 0) (a9 0) (a9 1), stW G a1 v1, stW G a2 v2, paW G a7 v7, txW G a8 v8, slW G a9 (a10 0) (a11 0) e1.2] → va_S A s.heap H locs → lv_has ls 2 [(0, .ref (a0 0)), (1, .int e1.1)] → W p l e ({ frames := 6, cells := 1, slots := 6, locals := 135 } : Room) s m args below meth c H locs 0 0 Q (F0 m 64 ls [])) → W p l e ({ frames := 6, cells := 1, slots := 6, locals := 135 } : Room) s m args below meth c H locs 0 0 Q (F0 m 46 ls []) := by
  obtain ⟨hx, hb, hml, hown, hts, hr, hlocks⟩ := id S
  intro n
  induction n with
  | zero => intro z e1 h; cases h
  | succ n ih =>
    intro z e1 hlp H locs ls hP hD hS hl K
    obtain ⟨z9, hf, hz⟩ := lp_s hlp
    unfold b_X5_load_46 at hf
    refine lv_iload_n hx hb dX5_load_46 rfl (lv_at hl 1 rfl) ?_
    refine lv_iconst (v := (2:Int32)) hx hb dX5_load_47 (by decide) ?_
    refine lv_icmp_ge (tgt := 64) hx hb dX5_load_48 (by decide) (fun c5 => ?_) (fun c5 => ?_)
    · rw [if_pos c5] at hf
      have he := lz_r hf hz
      subst he
      exact K H locs ls hP hD hS (lv_sub hl [0, 1] rfl)
    · rw [if_neg c5] at hf
      refine lv_aload_n hx hb dX5_load_51 rfl (lv_at hl 0 rfl) ?_
      refine g_get (C := RX5) (T := TX5) (N := 8) hx hb hts iwX5_load_X5 hown hK hP 0 0 rfl rfl rfl 7 (Nat.le_of_ble_eq_true rfl) (hts _ kX5_load_5) (fun _ h9 => h9) rfl dX5_load_52 ?_
      refine lv_iload_n hx hb dX5_load_55 rfl (lv_at hl 1 rfl) ?_
      refine lv_iconst (v := (0:Int32)) hx hb dX5_load_56 (by decide) ?_
      obtain ⟨h6, hf⟩ := gi_some hf
      obtain ⟨u7, eu7, hf⟩ := lt_some hf
      refine g_zast (gs' := [maW a0 (a1 0) (a2 0) (a3 0) (a4 0) (a7 0 0) (a8 0) (a9 0) (a9 1), stW G a1 v1, stW G a2 v2, paW G a7 v7, txW G a8 v8, slW G a9 (a10 0) (a11 0) u7]) hx hb hK hP hD hS 5 1 1 rfl rfl rfl h6 dX5_load_57 (by rw [eu7]; rfl) (fun H locs hP hD hS => ?_)
      obtain ⟨x8, ex8, hf⟩ := lt_some hf
      refine lv_iinc (v := x8) (lv' := [(1, .int x8), (0, .ref (a0 0))]) hx hb dX5_load_58 hl (k := 1) rfl (by rw [ex8]; rfl) (by decide) rfl (fun ls hl => ?_)
      refine lv_goto (tgt := 46) hx hb dX5_load_61 (by decide) ?_
      exact ih _ e1 (lz_l hf hz) H locs ls hP hD hS (lv_sub hl [1, 0] rfl) K
set_option maxHeartbeats 4000000 in
set_option maxRecDepth 100000 in
theorem c_X5_load (l : Launch) (hl0 : l.stackTraces = false) (G : uG) (a0 : Nat → Nat) (a1 : Nat → Nat) (a2 : Nat → Nat) (a3 : Nat → Nat) (a4 : Nat → Nat) (a5 : Nat → Nat) (a6 : Nat → Nat) (a7 : Nat → Nat → Nat) (a8 : Nat → Nat) (a9 : Nat → Nat) (a10 : Nat → Nat) (a11 : Nat → Nat) (v1 : StV) (v2 : StV) (v7 : PaV) (v8 : TxV) (v9 : SlV) {q : (Int32 × (StV × StV × PaV × TxV × SlV)) ⊕ (String × (StV × StV × PaV × TxV × SlV))} (hf : f_X5_load v1 v2 v7 v8 v9 = some q) : mX l yX5_load wsX5_load ({ frames := 6, cells := 1, slots := 6, locals := 135 } : Room) G [.ref (a0 0)] [maW a0 (a1 0) (a2 0) (a3 0) (a4 0) (a7 0 0) (a8 0) (a9 0) (a9 1), stW G a1 v1, stW G a2 v2, paW G a7 v7, txW G a8 v8, slW G a9 (a10 0) (a11 0) v9] (om (fun (w9 : StV × StV × PaV × TxV × SlV) => [maW a0 (a1 0) (a2 0) (a3 0) (a4 0) (a7 0 0) (a8 0) (a9 0) (a9 1), stW G a1 w9.1, stW G a2 w9.2.1, paW G a7 w9.2.2.1, txW G a8 w9.2.2.2.1, slW G a9 (a10 0) (a11 0) w9.2.2.2.2]) q) (qIx G (om (fun (w9 : StV × StV × PaV × TxV × SlV) => [maW a0 (a1 0) (a2 0) (a3 0) (a4 0) (a7 0 0) (a8 0) (a9 0) (a9 1), stW G a1 w9.1, stW G a2 w9.2.1, paW G a7 w9.2.2.1, txW G a8 w9.2.2.2.1, slW G a9 (a10 0) (a11 0) w9.2.2.2.2]) q)) 1 6 := by
  unfold f_X5_load at hf
  refine mX_of (cc := cX5_load) (maxL := 2) (ret := (some .int)) (by decide) rfl (om_gad (fun _ => rfl)) (Nat.le_of_ble_eq_true rfl) ?_
  intro p e s m args below meth c A ls S hK hA hex hTH hP hD hS hl
  obtain ⟨hx, hb, hml, hown, hts, hr, hlocks⟩ := id S
  have hl : lv_has ls 2 [(0, .ref (a0 0))] := hl
  refine lv_aload_n hx hb dX5_load_0 rfl (lv_at hl 0 rfl) ?_
  refine g_get (C := RX5) (T := TX5) (N := 8) hx hb hts iwX5_load_X5 hown hK hP 0 0 rfl rfl rfl 5 (Nat.le_of_ble_eq_true rfl) (hts _ kX5_load_0) (fun _ h9 => h9) rfl dX5_load_1 ?_
  refine lv_aload_n hx hb dX5_load_4 rfl (lv_at hl 0 rfl) ?_
  refine g_get (C := RX5) (T := TX5) (N := 8) hx hb hts iwX5_load_X5 hown hK hP 0 0 rfl rfl rfl 1 (Nat.le_of_ble_eq_true rfl) (hts _ kX5_load_1) (fun _ h9 => h9) rfl dX5_load_5 ?_
  obtain ⟨q1, hq1, hf⟩ := bd_some hf
  refine g_callVi S (As := [.ref (a2 0)]) (gs' := [maW a0 (a1 0) (a2 0) (a3 0) (a4 0) (a7 0 0) (a8 0) (a9 0) (a9 1), stW G a1 v1, stW G a2 q1.2.2, paW G a7 v7, txW G a8 q1.2.1, slW G a9 (a10 0) (a11 0) v9]) (c_X4_readInto l G a8 a2 v8 v2 hq1) (cwV 1 hts gX5_load_X4_readInto rfl rfl rfl hd_X4_readInto ⟨Nat.le_of_ble_eq_true rfl, Nat.le_of_ble_eq_true rfl⟩) hK hP hD hS hA (is := [4, 2]) rfl rfl 4 rfl rfl rfl rfl hl.1 rfl (Nat.le_of_ble_eq_true rfl) dX5_load_8 ⟨Nat.le_of_ble_eq_true rfl, Nat.le_of_ble_eq_true rfl⟩ rfl (fun H locs hP hD hS => ?_)
  refine lv_ldc (v := (-99999:Int32)) hx hb hown (hts _ kX5_load_2) dX5_load_11 ?_
  refine lv_icmp_eq (tgt := 26) hx hb dX5_load_13 (by decide) (fun c2 => ?_) (fun c2 => ?_)
  · rw [if_pos c2] at hf
    refine lv_aload_n hx hb dX5_load_26 rfl (lv_at hl 0 rfl) ?_
    refine g_get (C := RX5) (T := TX5) (N := 8) hx hb hts iwX5_load_X5 hown hK hP 0 0 rfl rfl rfl 0 (Nat.le_of_ble_eq_true rfl) (hts _ kX5_load_3) (fun _ h9 => h9) rfl dX5_load_27 ?_
    refine lv_aload_n hx hb dX5_load_30 rfl (lv_at hl 0 rfl) ?_
    refine g_get (C := RX5) (T := TX5) (N := 8) hx hb hts iwX5_load_X5 hown hK hP 0 0 rfl rfl rfl 1 (Nat.le_of_ble_eq_true rfl) (hts _ kX5_load_1) (fun _ h9 => h9) rfl dX5_load_31 ?_
    obtain ⟨q3, hq3, hf⟩ := bd_some hf
    refine g_callVv S (As := [.ref (a2 0)]) (gs' := [maW a0 (a1 0) (a2 0) (a3 0) (a4 0) (a7 0 0) (a8 0) (a9 0) (a9 1), stW G a1 q3.2, stW G a2 q1.2.2, paW G a7 v7, txW G a8 q1.2.1, slW G a9 (a10 0) (a11 0) v9]) (c_X3_copyFrom l G a1 a2 v1 q1.2.2 hq3) (cwV 1 hts gX5_load_X3_copyFrom rfl rfl rfl hd_X3_copyFrom ⟨Nat.le_of_ble_eq_true rfl, Nat.le_of_ble_eq_true rfl⟩) hK hP hD hS hA (is := [1, 2]) rfl rfl 1 rfl rfl rfl rfl hl.1 rfl (Nat.le_of_ble_eq_true rfl) dX5_load_34 ⟨Nat.le_of_ble_eq_true rfl, Nat.le_of_ble_eq_true rfl⟩ rfl (fun H locs hP hD hS => ?_)
    refine lv_aload_n hx hb dX5_load_37 rfl (lv_at hl 0 rfl) ?_
    refine g_get (C := RX5) (T := TX5) (N := 8) hx hb hts iwX5_load_X5 hown hK hP 0 0 rfl rfl rfl 4 (Nat.le_of_ble_eq_true rfl) (hts _ kX5_load_4) (fun _ h9 => h9) rfl dX5_load_38 ?_
    obtain ⟨q4, hq4, hf⟩ := bd_some hf
    refine g_callVv S (As := []) (gs' := [maW a0 (a1 0) (a2 0) (a3 0) (a4 0) (a7 0 0) (a8 0) (a9 0) (a9 1), stW G a1 q3.2, stW G a2 q1.2.2, paW G a7 q4.2, txW G a8 q1.2.1, slW G a9 (a10 0) (a11 0) v9]) (c_X0_forgetAll l G a7 v7 hq4) (cwV 0 hts gX5_load_X0_forgetAll rfl rfl rfl hd_X0_forgetAll ⟨Nat.le_of_ble_eq_true rfl, Nat.le_of_ble_eq_true rfl⟩) hK hP hD hS hA (is := [3]) rfl rfl 3 rfl rfl rfl rfl hl.1 rfl (Nat.le_of_ble_eq_true rfl) dX5_load_41 ⟨Nat.le_of_ble_eq_true rfl, Nat.le_of_ble_eq_true rfl⟩ rfl (fun H locs hP hD hS => ?_)
    refine lv_iconst (v := (0:Int32)) hx hb dX5_load_44 (by decide) ?_
    refine lv_istore_n (lv' := [(1, .int (0:Int32)), (0, .ref (a0 0))]) hx hb dX5_load_45 rfl hl (by decide) rfl (fun ls hl => ?_)
    obtain ⟨e9, he9, hf⟩ := bd_some hf
    refine w_X5_load_46 (Q := _) S hK hA G a0 a1 a2 a3 a4 a5 a6 a7 a8 a9 a10 a11 q3.2 q1.2.2 q4.2 q1.2.1 FU _ e9 he9 _ _ _ hP hD hS (lv_sub hl [1, 0] rfl) (fun H locs ls hP hD hS hl => ?_)
    refine lv_aload_n hx hb dX5_load_64 rfl (lv_at hl 0 rfl) ?_
    refine g_get (C := RX5) (T := TX5) (N := 8) hx hb hts iwX5_load_X5 hown hK hP 0 0 rfl rfl rfl 0 (Nat.le_of_ble_eq_true rfl) (hts _ kX5_load_3) (fun _ h9 => h9) rfl dX5_load_65 ?_
    refine g_get (C := RX3) (T := TX3) (N := 17) hx hb hts iwX5_load_X3 hown hK hP 1 0 rfl rfl rfl 0 (Nat.le_of_ble_eq_true rfl) (hts _ kX5_load_6) (fun _ h9 => h9) rfl dX5_load_68 ?_
    cases hf
    exact g_xiret hx hb hr hlocks rfl (Nat.le_of_ble_eq_true rfl) (Nat.le_of_ble_eq_true rfl) hP hS dX5_load_71
  · rw [if_neg c2] at hf
    cases hf
    exact g_throw S (cls := "java/lang/IllegalStateException") (text := "the text is not a circle") (names := ["java/lang/RuntimeException", "java/lang/Exception"]) rfl hex hl0 hTH vf_IllegalStateException vf_names (hts _ kX5_load_7) (hts _ kX5_load_8) (List.mem_of_getElem? (i := 1) rfl) atX5_load_67 vg_RX5_67 vh_RX5_67 dX5_load_16 dX5_load_19 dX5_load_20 dX5_load_22 dX5_load_25 (Nat.le_of_ble_eq_true rfl) (Nat.le_of_ble_eq_true rfl) (Nat.le_of_ble_eq_true rfl) (Nat.le_of_ble_eq_true rfl) (Nat.le_of_ble_eq_true rfl) (Nat.le_of_ble_eq_true rfl) hl.1 rfl hP hS
theorem kX5_about_0 : Cond.fieldLink RX5 10 "SavingsCircle" "now" "LSavingsCircle$State;" ∈ wsX5_about := (List.mem_cons_of_mem _ (List.mem_append_left _ (List.mem_append_left _ (List.mem_append_left _ (List.mem_append_left _ (List.mem_of_getElem? (i := 2) rfl))))))
theorem kX5_about_1 : Cond.fieldLink RX5 88 "SavingsCircle$State" "count" "I" ∈ wsX5_about := (List.mem_cons_of_mem _ (List.mem_append_left _ (List.mem_append_left _ (List.mem_append_left _ (List.mem_append_left _ (List.mem_of_getElem? (i := 3) rfl))))))
theorem kX5_about_2 : Cond.fieldLink RX5 95 "SavingsCircle$State" "month" "I" ∈ wsX5_about := (List.mem_cons_of_mem _ (List.mem_append_left _ (List.mem_append_left _ (List.mem_append_left _ (List.mem_append_left _ (List.mem_of_getElem? (i := 4) rfl))))))
theorem kX5_about_3 : Cond.fieldLink RX5 98 "SavingsCircle$State" "contribution" "I" ∈ wsX5_about := (List.mem_cons_of_mem _ (List.mem_append_left _ (List.mem_append_left _ (List.mem_append_left _ (List.mem_append_left _ (List.mem_of_getElem? (i := 5) rfl))))))
theorem kX5_about_4 : Cond.fieldLink RX5 101 "SavingsCircle$State" "box" "I" ∈ wsX5_about := (List.mem_cons_of_mem _ (List.mem_append_left _ (List.mem_append_left _ (List.mem_append_left _ (List.mem_append_left _ (List.mem_of_getElem? (i := 6) rfl))))))
theorem kX5_about_5 : Cond.fieldLink RX5 113 "SavingsCircle$State" "given" "I" ∈ wsX5_about := (List.mem_cons_of_mem _ (List.mem_append_left _ (List.mem_append_left _ (List.mem_append_left _ (List.mem_append_left _ (List.mem_of_getElem? (i := 7) rfl))))))
theorem kX5_about_6 : Cond.classLink RX5 116 "java/lang/IllegalArgumentException" ∈ wsX5_about := (List.mem_cons_of_mem _ (List.mem_append_left _ (List.mem_append_left _ (List.mem_append_left _ (List.mem_append_left _ (List.mem_of_getElem? (i := 0) rfl))))))
theorem kX5_about_7 : Cond.initialized "java/lang/IllegalArgumentException" ∈ wsX5_about := (List.mem_cons_of_mem _ (List.mem_append_left _ (List.mem_append_left _ (List.mem_append_left _ (List.mem_append_left _ (List.mem_of_getElem? (i := 1) rfl))))))
theorem iwX5_about_X5 : ∀ w ∈ wsX50, w ∈ wsX5_about := fun w h => (List.mem_cons_of_mem _ (List.mem_append_left _ (List.mem_append_left _ (List.mem_append_right _ h))))
theorem iwX5_about_X3 : ∀ w ∈ wsX30, w ∈ wsX5_about := fun w h => (List.mem_cons_of_mem _ (List.mem_append_left _ (List.mem_append_right _ h)))
theorem atX5_about_120 : ∀ w ∈ (vx_atS RX5 120 "java/lang/IllegalArgumentException" ["java/lang/RuntimeException", "java/lang/Exception"]).filter goodWord, w ∈ wsX5_about := fun w h => (List.mem_cons_of_mem _ (List.mem_append_right _ h))
set_option maxHeartbeats 4000000 in
set_option maxRecDepth 100000 in
theorem c_X5_about (l : Launch) (hl0 : l.stackTraces = false) (G : uG) (a0 : Nat → Nat) (a1 : Nat → Nat) (a2 : Nat → Nat) (a3 : Nat → Nat) (a4 : Nat → Nat) (a5 : Nat → Nat) (a6 : Nat → Nat) (a7 : Nat → Nat → Nat) (a8 : Nat → Nat) (a9 : Nat → Nat) (a10 : Nat → Nat) (a11 : Nat → Nat) (v1 : StV) (i1 : Int32) {q : (Int32 × (Unit)) ⊕ (String × (Unit))} (hf : f_X5_about v1 i1 = some q) : mX l yX5_about wsX5_about ({ frames := 6, cells := 1, slots := 6, locals := 92 } : Room) G [.ref (a0 0), .int i1] [maW a0 (a1 0) (a2 0) (a3 0) (a4 0) (a7 0 0) (a8 0) (a9 0) (a9 1), stW G a1 v1] (om (fun (w9 : Unit) => [maW a0 (a1 0) (a2 0) (a3 0) (a4 0) (a7 0 0) (a8 0) (a9 0) (a9 1), stW G a1 v1]) q) (qIx G (om (fun (w9 : Unit) => [maW a0 (a1 0) (a2 0) (a3 0) (a4 0) (a7 0 0) (a8 0) (a9 0) (a9 1), stW G a1 v1]) q)) 1 6 := by
  unfold f_X5_about at hf
  refine mX_of (cc := cX5_about) (maxL := 2) (ret := (some .int)) (by decide) rfl (om_gad (fun _ => rfl)) (Nat.le_of_ble_eq_true rfl) ?_
  intro p e s m args below meth c A ls S hK hA hex hTH hP hD hS hl
  obtain ⟨hx, hb, hml, hown, hts, hr, hlocks⟩ := id S
  have hl : lv_has ls 2 [(0, .ref (a0 0)), (1, .int i1)] := hl
  refine lv_iload_n hx hb dX5_about_0 rfl (lv_at hl 1 rfl) ?_
  by_cases c1 : i1 = (0:Int32)
  · rw [if_pos c1] at hf
    refine lv_tableIn (tgt := 52) hx hb dX5_about_1 (by rw [c1]; decide) (by rw [c1]; decide) (by rw [c1]; rfl) (by decide) ?_
    refine lv_aload_n hx hb dX5_about_52 rfl (lv_at hl 0 rfl) ?_
    refine g_get (C := RX5) (T := TX5) (N := 8) hx hb hts iwX5_about_X5 hown hK hP 0 0 rfl rfl rfl 0 (Nat.le_of_ble_eq_true rfl) (hts _ kX5_about_0) (fun _ h9 => h9) rfl dX5_about_53 ?_
    refine g_get (C := RX3) (T := TX3) (N := 17) hx hb hts iwX5_about_X3 hown hK hP 1 0 rfl rfl rfl 0 (Nat.le_of_ble_eq_true rfl) (hts _ kX5_about_1) (fun _ h9 => h9) rfl dX5_about_56 ?_
    cases hf
    exact g_xiret hx hb hr hlocks rfl (Nat.le_of_ble_eq_true rfl) (Nat.le_of_ble_eq_true rfl) hP hS dX5_about_59
  · rw [if_neg c1] at hf
    by_cases c2 : i1 = (1:Int32)
    · rw [if_pos c2] at hf
      refine lv_tableIn (tgt := 60) hx hb dX5_about_1 (by rw [c2]; decide) (by rw [c2]; decide) (by rw [c2]; rfl) (by decide) ?_
      refine lv_aload_n hx hb dX5_about_60 rfl (lv_at hl 0 rfl) ?_
      refine g_get (C := RX5) (T := TX5) (N := 8) hx hb hts iwX5_about_X5 hown hK hP 0 0 rfl rfl rfl 0 (Nat.le_of_ble_eq_true rfl) (hts _ kX5_about_0) (fun _ h9 => h9) rfl dX5_about_61 ?_
      obtain ⟨q3, hq3, hf⟩ := bd_some hf
      refine g_callVi S (As := []) (gs' := [maW a0 (a1 0) (a2 0) (a3 0) (a4 0) (a7 0 0) (a8 0) (a9 0) (a9 1), stW G a1 v1]) (c_X3_countInside l G a1 v1 hq3) (cwV 0 hts gX5_about_X3_countInside rfl rfl rfl hd_X3_countInside ⟨Nat.le_of_ble_eq_true rfl, Nat.le_of_ble_eq_true rfl⟩) hK hP hD hS hA (is := [1]) rfl rfl 1 rfl rfl rfl rfl hl.1 rfl (Nat.le_of_ble_eq_true rfl) dX5_about_64 ⟨Nat.le_of_ble_eq_true rfl, Nat.le_of_ble_eq_true rfl⟩ rfl (fun H locs hP hD hS => ?_)
      cases hf
      exact g_xiret hx hb hr hlocks rfl (Nat.le_of_ble_eq_true rfl) (Nat.le_of_ble_eq_true rfl) hP hS dX5_about_67
    · rw [if_neg c2] at hf
      by_cases c4 : i1 = (2:Int32)
      · rw [if_pos c4] at hf
        refine lv_tableIn (tgt := 68) hx hb dX5_about_1 (by rw [c4]; decide) (by rw [c4]; decide) (by rw [c4]; rfl) (by decide) ?_
        refine lv_aload_n hx hb dX5_about_68 rfl (lv_at hl 0 rfl) ?_
        refine g_get (C := RX5) (T := TX5) (N := 8) hx hb hts iwX5_about_X5 hown hK hP 0 0 rfl rfl rfl 0 (Nat.le_of_ble_eq_true rfl) (hts _ kX5_about_0) (fun _ h9 => h9) rfl dX5_about_69 ?_
        refine g_get (C := RX3) (T := TX3) (N := 17) hx hb hts iwX5_about_X3 hown hK hP 1 0 rfl rfl rfl 1 (Nat.le_of_ble_eq_true rfl) (hts _ kX5_about_2) (fun _ h9 => h9) rfl dX5_about_72 ?_
        cases hf
        exact g_xiret hx hb hr hlocks rfl (Nat.le_of_ble_eq_true rfl) (Nat.le_of_ble_eq_true rfl) hP hS dX5_about_75
      · rw [if_neg c4] at hf
        by_cases c5 : i1 = (3:Int32)
        · rw [if_pos c5] at hf
          refine lv_tableIn (tgt := 76) hx hb dX5_about_1 (by rw [c5]; decide) (by rw [c5]; decide) (by rw [c5]; rfl) (by decide) ?_
          refine lv_aload_n hx hb dX5_about_76 rfl (lv_at hl 0 rfl) ?_
          refine g_get (C := RX5) (T := TX5) (N := 8) hx hb hts iwX5_about_X5 hown hK hP 0 0 rfl rfl rfl 0 (Nat.le_of_ble_eq_true rfl) (hts _ kX5_about_0) (fun _ h9 => h9) rfl dX5_about_77 ?_
          refine g_get (C := RX3) (T := TX3) (N := 17) hx hb hts iwX5_about_X3 hown hK hP 1 0 rfl rfl rfl 2 (Nat.le_of_ble_eq_true rfl) (hts _ kX5_about_3) (fun _ h9 => h9) rfl dX5_about_80 ?_
          cases hf
          exact g_xiret hx hb hr hlocks rfl (Nat.le_of_ble_eq_true rfl) (Nat.le_of_ble_eq_true rfl) hP hS dX5_about_83
        · rw [if_neg c5] at hf
          by_cases c6 : i1 = (4:Int32)
          · rw [if_pos c6] at hf
            refine lv_tableIn (tgt := 84) hx hb dX5_about_1 (by rw [c6]; decide) (by rw [c6]; decide) (by rw [c6]; rfl) (by decide) ?_
            refine lv_aload_n hx hb dX5_about_84 rfl (lv_at hl 0 rfl) ?_
            refine g_get (C := RX5) (T := TX5) (N := 8) hx hb hts iwX5_about_X5 hown hK hP 0 0 rfl rfl rfl 0 (Nat.le_of_ble_eq_true rfl) (hts _ kX5_about_0) (fun _ h9 => h9) rfl dX5_about_85 ?_
            refine g_get (C := RX3) (T := TX3) (N := 17) hx hb hts iwX5_about_X3 hown hK hP 1 0 rfl rfl rfl 3 (Nat.le_of_ble_eq_true rfl) (hts _ kX5_about_4) (fun _ h9 => h9) rfl dX5_about_88 ?_
            cases hf
            exact g_xiret hx hb hr hlocks rfl (Nat.le_of_ble_eq_true rfl) (Nat.le_of_ble_eq_true rfl) hP hS dX5_about_91
          · rw [if_neg c6] at hf
            by_cases c7 : i1 = (5:Int32)
            · rw [if_pos c7] at hf
              refine lv_tableIn (tgt := 92) hx hb dX5_about_1 (by rw [c7]; decide) (by rw [c7]; decide) (by rw [c7]; rfl) (by decide) ?_
              refine lv_aload_n hx hb dX5_about_92 rfl (lv_at hl 0 rfl) ?_
              refine g_get (C := RX5) (T := TX5) (N := 8) hx hb hts iwX5_about_X5 hown hK hP 0 0 rfl rfl rfl 0 (Nat.le_of_ble_eq_true rfl) (hts _ kX5_about_0) (fun _ h9 => h9) rfl dX5_about_93 ?_
              obtain ⟨q8, hq8, hf⟩ := bd_some hf
              refine g_callVi S (As := []) (gs' := [maW a0 (a1 0) (a2 0) (a3 0) (a4 0) (a7 0 0) (a8 0) (a9 0) (a9 1), stW G a1 v1]) (c_X3_sumOfPurses l G a1 v1 hq8) (cwV 0 hts gX5_about_X3_sumOfPurses rfl rfl rfl hd_X3_sumOfPurses ⟨Nat.le_of_ble_eq_true rfl, Nat.le_of_ble_eq_true rfl⟩) hK hP hD hS hA (is := [1]) rfl rfl 1 rfl rfl rfl rfl hl.1 rfl (Nat.le_of_ble_eq_true rfl) dX5_about_96 ⟨Nat.le_of_ble_eq_true rfl, Nat.le_of_ble_eq_true rfl⟩ rfl (fun H locs hP hD hS => ?_)
              cases hf
              exact g_xiret hx hb hr hlocks rfl (Nat.le_of_ble_eq_true rfl) (Nat.le_of_ble_eq_true rfl) hP hS dX5_about_99
            · rw [if_neg c7] at hf
              by_cases c9 : i1 = (6:Int32)
              · rw [if_pos c9] at hf
                refine lv_tableIn (tgt := 100) hx hb dX5_about_1 (by rw [c9]; decide) (by rw [c9]; decide) (by rw [c9]; rfl) (by decide) ?_
                refine lv_aload_n hx hb dX5_about_100 rfl (lv_at hl 0 rfl) ?_
                refine g_get (C := RX5) (T := TX5) (N := 8) hx hb hts iwX5_about_X5 hown hK hP 0 0 rfl rfl rfl 0 (Nat.le_of_ble_eq_true rfl) (hts _ kX5_about_0) (fun _ h9 => h9) rfl dX5_about_101 ?_
                obtain ⟨q10, hq10, hf⟩ := bd_some hf
                refine g_callVi S (As := []) (gs' := [maW a0 (a1 0) (a2 0) (a3 0) (a4 0) (a7 0 0) (a8 0) (a9 0) (a9 1), stW G a1 v1]) (c_X3_countWaiting l G a1 v1 hq10) (cwV 0 hts gX5_about_X3_countWaiting rfl rfl rfl hd_X3_countWaiting ⟨Nat.le_of_ble_eq_true rfl, Nat.le_of_ble_eq_true rfl⟩) hK hP hD hS hA (is := [1]) rfl rfl 1 rfl rfl rfl rfl hl.1 rfl (Nat.le_of_ble_eq_true rfl) dX5_about_104 ⟨Nat.le_of_ble_eq_true rfl, Nat.le_of_ble_eq_true rfl⟩ rfl (fun H locs hP hD hS => ?_)
                cases hf
                exact g_xiret hx hb hr hlocks rfl (Nat.le_of_ble_eq_true rfl) (Nat.le_of_ble_eq_true rfl) hP hS dX5_about_107
              · rw [if_neg c9] at hf
                by_cases c11 : i1 = (7:Int32)
                · rw [if_pos c11] at hf
                  refine lv_tableIn (tgt := 108) hx hb dX5_about_1 (by rw [c11]; decide) (by rw [c11]; decide) (by rw [c11]; rfl) (by decide) ?_
                  refine lv_aload_n hx hb dX5_about_108 rfl (lv_at hl 0 rfl) ?_
                  refine g_get (C := RX5) (T := TX5) (N := 8) hx hb hts iwX5_about_X5 hown hK hP 0 0 rfl rfl rfl 0 (Nat.le_of_ble_eq_true rfl) (hts _ kX5_about_0) (fun _ h9 => h9) rfl dX5_about_109 ?_
                  obtain ⟨q12, hq12, hf⟩ := bd_some hf
                  refine g_callVi S (As := []) (gs' := [maW a0 (a1 0) (a2 0) (a3 0) (a4 0) (a7 0 0) (a8 0) (a9 0) (a9 1), stW G a1 v1]) (c_X3_sumOfDebts l G a1 v1 hq12) (cwV 0 hts gX5_about_X3_sumOfDebts rfl rfl rfl hd_X3_sumOfDebts ⟨Nat.le_of_ble_eq_true rfl, Nat.le_of_ble_eq_true rfl⟩) hK hP hD hS hA (is := [1]) rfl rfl 1 rfl rfl rfl rfl hl.1 rfl (Nat.le_of_ble_eq_true rfl) dX5_about_112 ⟨Nat.le_of_ble_eq_true rfl, Nat.le_of_ble_eq_true rfl⟩ rfl (fun H locs hP hD hS => ?_)
                  cases hf
                  exact g_xiret hx hb hr hlocks rfl (Nat.le_of_ble_eq_true rfl) (Nat.le_of_ble_eq_true rfl) hP hS dX5_about_115
                · rw [if_neg c11] at hf
                  by_cases c13 : i1 = (8:Int32)
                  · rw [if_pos c13] at hf
                    refine lv_tableIn (tgt := 116) hx hb dX5_about_1 (by rw [c13]; decide) (by rw [c13]; decide) (by rw [c13]; rfl) (by decide) ?_
                    refine lv_aload_n hx hb dX5_about_116 rfl (lv_at hl 0 rfl) ?_
                    refine g_get (C := RX5) (T := TX5) (N := 8) hx hb hts iwX5_about_X5 hown hK hP 0 0 rfl rfl rfl 0 (Nat.le_of_ble_eq_true rfl) (hts _ kX5_about_0) (fun _ h9 => h9) rfl dX5_about_117 ?_
                    refine g_get (C := RX3) (T := TX3) (N := 17) hx hb hts iwX5_about_X3 hown hK hP 1 0 rfl rfl rfl 4 (Nat.le_of_ble_eq_true rfl) (hts _ kX5_about_5) (fun _ h9 => h9) rfl dX5_about_120 ?_
                    cases hf
                    exact g_xiret hx hb hr hlocks rfl (Nat.le_of_ble_eq_true rfl) (Nat.le_of_ble_eq_true rfl) hP hS dX5_about_123
                  · rw [if_neg c13] at hf
                    refine lv_tableOut (tgt := 124) hx hb dX5_about_1 (by have n0 := lv_neT c1 (a := 0) (by decide); have n1 := lv_neT c2 (a := 1) (by decide); have n2 := lv_neT c4 (a := 2) (by decide); have n3 := lv_neT c5 (a := 3) (by decide); have n4 := lv_neT c6 (a := 4) (by decide); have n5 := lv_neT c7 (a := 5) (by decide); have n6 := lv_neT c9 (a := 6) (by decide); have n7 := lv_neT c11 (a := 7) (by decide); have n8 := lv_neT c13 (a := 8) (by decide); omega) (by decide) ?_
                    cases hf
                    exact g_throw S (cls := "java/lang/IllegalArgumentException") (text := "there is no such number") (names := ["java/lang/RuntimeException", "java/lang/Exception"]) rfl hex hl0 hTH vf_IllegalArgumentException vf_names (hts _ kX5_about_6) (hts _ kX5_about_7) (List.mem_of_getElem? (i := 2) rfl) atX5_about_120 vg_RX5_120 vh_RX5_120 dX5_about_124 dX5_about_127 dX5_about_128 dX5_about_130 dX5_about_133 (Nat.le_of_ble_eq_true rfl) (Nat.le_of_ble_eq_true rfl) (Nat.le_of_ble_eq_true rfl) (Nat.le_of_ble_eq_true rfl) (Nat.le_of_ble_eq_true rfl) (Nat.le_of_ble_eq_true rfl) hl.1 rfl hP hS
theorem kX5_requireMember_0 : Cond.fieldLink RX5 10 "SavingsCircle" "now" "LSavingsCircle$State;" ∈ wsX5_requireMember := (List.mem_cons_of_mem _ (List.mem_append_left _ (List.mem_append_left _ (List.mem_append_left _ (List.mem_of_getElem? (i := 2) rfl)))))
theorem kX5_requireMember_1 : Cond.classLink RX5 290 "java/lang/IndexOutOfBoundsException" ∈ wsX5_requireMember := (List.mem_cons_of_mem _ (List.mem_append_left _ (List.mem_append_left _ (List.mem_append_left _ (List.mem_of_getElem? (i := 0) rfl)))))
theorem kX5_requireMember_2 : Cond.initialized "java/lang/IndexOutOfBoundsException" ∈ wsX5_requireMember := (List.mem_cons_of_mem _ (List.mem_append_left _ (List.mem_append_left _ (List.mem_append_left _ (List.mem_of_getElem? (i := 1) rfl)))))
theorem iwX5_requireMember_X5 : ∀ w ∈ wsX50, w ∈ wsX5_requireMember := fun w h => (List.mem_cons_of_mem _ (List.mem_append_left _ (List.mem_append_left _ (List.mem_append_right _ h))))
theorem atX5_requireMember_294 : ∀ w ∈ (vx_atS RX5 294 "java/lang/IndexOutOfBoundsException" ["java/lang/RuntimeException", "java/lang/Exception"]).filter goodWord, w ∈ wsX5_requireMember := fun w h => (List.mem_cons_of_mem _ (List.mem_append_right _ h))
set_option maxHeartbeats 4000000 in
set_option maxRecDepth 100000 in
theorem c_X5_requireMember (l : Launch) (hl0 : l.stackTraces = false) (G : uG) (a0 : Nat → Nat) (a1 : Nat → Nat) (a2 : Nat → Nat) (a3 : Nat → Nat) (a4 : Nat → Nat) (a5 : Nat → Nat) (a6 : Nat → Nat) (a7 : Nat → Nat → Nat) (a8 : Nat → Nat) (a9 : Nat → Nat) (a10 : Nat → Nat) (a11 : Nat → Nat) (v1 : StV) (i1 : Int32) {q : (Unit × (Unit)) ⊕ (String × (Unit))} (hf : f_X5_requireMember v1 i1 = some q) : mX l yX5_requireMember wsX5_requireMember ({ frames := 6, cells := 1, slots := 6, locals := 92 } : Room) G [.ref (a0 0), .int i1] [maW a0 (a1 0) (a2 0) (a3 0) (a4 0) (a7 0 0) (a8 0) (a9 0) (a9 1), stW G a1 v1] (om (fun (w9 : Unit) => [maW a0 (a1 0) (a2 0) (a3 0) (a4 0) (a7 0 0) (a8 0) (a9 0) (a9 1), stW G a1 v1]) q) (qVx G (om (fun (w9 : Unit) => [maW a0 (a1 0) (a2 0) (a3 0) (a4 0) (a7 0 0) (a8 0) (a9 0) (a9 1), stW G a1 v1]) q)) 1 6 := by
  unfold f_X5_requireMember at hf
  refine mX_of (cc := cX5_requireMember) (maxL := 2) (ret := none) (by decide) rfl (om_gad (fun _ => rfl)) (Nat.le_of_ble_eq_true rfl) ?_
  intro p e s m args below meth c A ls S hK hA hex hTH hP hD hS hl
  obtain ⟨hx, hb, hml, hown, hts, hr, hlocks⟩ := id S
  have hl : lv_has ls 2 [(0, .ref (a0 0)), (1, .int i1)] := hl
  refine lv_aload_n hx hb dX5_requireMember_0 rfl (lv_at hl 0 rfl) ?_
  refine g_get (C := RX5) (T := TX5) (N := 8) hx hb hts iwX5_requireMember_X5 hown hK hP 0 0 rfl rfl rfl 0 (Nat.le_of_ble_eq_true rfl) (hts _ kX5_requireMember_0) (fun _ h9 => h9) rfl dX5_requireMember_1 ?_
  refine lv_iload_n hx hb dX5_requireMember_4 rfl (lv_at hl 1 rfl) ?_
  obtain ⟨q1, hq1, hf⟩ := bd_some hf
  refine g_callVi S (As := [.int i1]) (gs' := [maW a0 (a1 0) (a2 0) (a3 0) (a4 0) (a7 0 0) (a8 0) (a9 0) (a9 1), stW G a1 v1]) (c_X3_exists l G a1 v1 i1 hq1) (cwV 1 hts gX5_requireMember_X3_exists rfl rfl rfl hd_X3_exists ⟨Nat.le_of_ble_eq_true rfl, Nat.le_of_ble_eq_true rfl⟩) hK hP hD hS hA (is := [1]) rfl rfl 1 rfl rfl rfl rfl hl.1 rfl (Nat.le_of_ble_eq_true rfl) dX5_requireMember_5 ⟨Nat.le_of_ble_eq_true rfl, Nat.le_of_ble_eq_true rfl⟩ rfl (fun H locs hP hD hS => ?_)
  refine lv_if_ne (tgt := 22) hx hb dX5_requireMember_8 (by decide) (fun c2 => ?_) (fun c2 => ?_)
  · rw [if_neg c2] at hf
    cases hf
    exact g_xvret hx hb hr hlocks rfl (Nat.le_of_ble_eq_true rfl) (Nat.le_of_ble_eq_true rfl) hP hS dX5_requireMember_22
  · rw [if_pos c2] at hf
    cases hf
    exact g_throwW S (cls := "java/lang/IndexOutOfBoundsException") (text := "there is no such member") (names := ["java/lang/RuntimeException", "java/lang/Exception"]) rfl hex hl0 hTH vf_IndexOutOfBoundsException vf_names (hts _ kX5_requireMember_1) (hts _ kX5_requireMember_2) (List.mem_of_getElem? (i := 12) rfl) atX5_requireMember_294 vg_RX5_294 vh_RX5_294 dX5_requireMember_11 dX5_requireMember_14 dX5_requireMember_15 dX5_requireMember_18 dX5_requireMember_21 (Nat.le_of_ble_eq_true rfl) (Nat.le_of_ble_eq_true rfl) (Nat.le_of_ble_eq_true rfl) (Nat.le_of_ble_eq_true rfl) (Nat.le_of_ble_eq_true rfl) (Nat.le_of_ble_eq_true rfl) hl.1 rfl hP hS
theorem kX5_member_0 : Cond.fieldLink RX5 10 "SavingsCircle" "now" "LSavingsCircle$State;" ∈ wsX5_member := (List.mem_cons_of_mem _ (List.mem_append_left _ (List.mem_append_left _ (List.mem_append_left _ (List.mem_append_left _ (List.mem_append_left _ (List.mem_of_getElem? (i := 2) rfl)))))))
theorem kX5_member_1 : Cond.fieldLink RX5 125 "SavingsCircle$State" "purse" "[I" ∈ wsX5_member := (List.mem_cons_of_mem _ (List.mem_append_left _ (List.mem_append_left _ (List.mem_append_left _ (List.mem_append_left _ (List.mem_append_left _ (List.mem_of_getElem? (i := 3) rfl)))))))
theorem kX5_member_2 : Cond.fieldLink RX5 129 "SavingsCircle$State" "guarantor" "[I" ∈ wsX5_member := (List.mem_cons_of_mem _ (List.mem_append_left _ (List.mem_append_left _ (List.mem_append_left _ (List.mem_append_left _ (List.mem_append_left _ (List.mem_of_getElem? (i := 4) rfl)))))))
theorem kX5_member_3 : Cond.fieldLink RX5 132 "SavingsCircle$State" "bid" "[I" ∈ wsX5_member := (List.mem_cons_of_mem _ (List.mem_append_left _ (List.mem_append_left _ (List.mem_append_left _ (List.mem_append_left _ (List.mem_append_left _ (List.mem_of_getElem? (i := 5) rfl)))))))
theorem kX5_member_4 : Cond.fieldLink RX5 135 "SavingsCircle$State" "away" "[Z" ∈ wsX5_member := (List.mem_cons_of_mem _ (List.mem_append_left _ (List.mem_append_left _ (List.mem_append_left _ (List.mem_append_left _ (List.mem_append_left _ (List.mem_of_getElem? (i := 6) rfl)))))))
theorem kX5_member_5 : Cond.fieldLink RX5 138 "SavingsCircle$State" "taken" "[Z" ∈ wsX5_member := (List.mem_cons_of_mem _ (List.mem_append_left _ (List.mem_append_left _ (List.mem_append_left _ (List.mem_append_left _ (List.mem_append_left _ (List.mem_of_getElem? (i := 7) rfl)))))))
theorem kX5_member_6 : Cond.fieldLink RX5 141 "SavingsCircle$State" "inside" "[Z" ∈ wsX5_member := (List.mem_cons_of_mem _ (List.mem_append_left _ (List.mem_append_left _ (List.mem_append_left _ (List.mem_append_left _ (List.mem_append_left _ (List.mem_of_getElem? (i := 8) rfl)))))))
theorem kX5_member_7 : Cond.fieldLink RX5 144 "SavingsCircle$State" "paidForItself" "[I" ∈ wsX5_member := (List.mem_cons_of_mem _ (List.mem_append_left _ (List.mem_append_left _ (List.mem_append_left _ (List.mem_append_left _ (List.mem_append_left _ (List.mem_of_getElem? (i := 9) rfl)))))))
theorem kX5_member_8 : Cond.fieldLink RX5 147 "SavingsCircle$State" "paidForOthers" "[I" ∈ wsX5_member := (List.mem_cons_of_mem _ (List.mem_append_left _ (List.mem_append_left _ (List.mem_append_left _ (List.mem_append_left _ (List.mem_append_left _ (List.mem_of_getElem? (i := 10) rfl)))))))
theorem kX5_member_9 : Cond.fieldLink RX5 150 "SavingsCircle$State" "gotOfPot" "[I" ∈ wsX5_member := (List.mem_cons_of_mem _ (List.mem_append_left _ (List.mem_append_left _ (List.mem_append_left _ (List.mem_append_left _ (List.mem_append_left _ (List.mem_of_getElem? (i := 11) rfl)))))))
theorem kX5_member_10 : Cond.fieldLink RX5 153 "SavingsCircle$State" "shares" "[I" ∈ wsX5_member := (List.mem_cons_of_mem _ (List.mem_append_left _ (List.mem_append_left _ (List.mem_append_left _ (List.mem_append_left _ (List.mem_append_left _ (List.mem_of_getElem? (i := 12) rfl)))))))
theorem kX5_member_11 : Cond.fieldLink RX5 156 "SavingsCircle$State" "misses" "[I" ∈ wsX5_member := (List.mem_cons_of_mem _ (List.mem_append_left _ (List.mem_append_left _ (List.mem_append_left _ (List.mem_append_left _ (List.mem_append_left _ (List.mem_of_getElem? (i := 13) rfl)))))))
theorem kX5_member_12 : Cond.classLink RX5 116 "java/lang/IllegalArgumentException" ∈ wsX5_member := (List.mem_cons_of_mem _ (List.mem_append_left _ (List.mem_append_left _ (List.mem_append_left _ (List.mem_append_left _ (List.mem_append_left _ (List.mem_of_getElem? (i := 0) rfl)))))))
theorem kX5_member_13 : Cond.initialized "java/lang/IllegalArgumentException" ∈ wsX5_member := (List.mem_cons_of_mem _ (List.mem_append_left _ (List.mem_append_left _ (List.mem_append_left _ (List.mem_append_left _ (List.mem_append_left _ (List.mem_of_getElem? (i := 1) rfl)))))))
theorem iwX5_member_X5 : ∀ w ∈ wsX50, w ∈ wsX5_member := fun w h => (List.mem_cons_of_mem _ (List.mem_append_left _ (List.mem_append_left _ (List.mem_append_left _ (List.mem_append_right _ h)))))
theorem iwX5_member_X3 : ∀ w ∈ wsX30, w ∈ wsX5_member := fun w h => (List.mem_cons_of_mem _ (List.mem_append_left _ (List.mem_append_left _ (List.mem_append_right _ h))))
theorem atX5_member_120 : ∀ w ∈ (vx_atS RX5 120 "java/lang/IllegalArgumentException" ["java/lang/RuntimeException", "java/lang/Exception"]).filter goodWord, w ∈ wsX5_member := fun w h => (List.mem_cons_of_mem _ (List.mem_append_left _ (List.mem_append_right _ h)))
set_option maxHeartbeats 4000000 in
set_option maxRecDepth 100000 in
theorem c_X5_member (l : Launch) (hl0 : l.stackTraces = false) (G : uG) (a0 : Nat → Nat) (a1 : Nat → Nat) (a2 : Nat → Nat) (a3 : Nat → Nat) (a4 : Nat → Nat) (a5 : Nat → Nat) (a6 : Nat → Nat) (a7 : Nat → Nat → Nat) (a8 : Nat → Nat) (a9 : Nat → Nat) (a10 : Nat → Nat) (a11 : Nat → Nat) (v1 : StV) (i1 : Int32) (i2 : Int32) {q : (Int32 × (Unit)) ⊕ (String × (Unit))} (hf : f_X5_member v1 i1 i2 = some q) : mX l yX5_member wsX5_member ({ frames := 7, cells := 2, slots := 12, locals := 113 } : Room) G [.ref (a0 0), .int i1, .int i2] [maW a0 (a1 0) (a2 0) (a3 0) (a4 0) (a7 0 0) (a8 0) (a9 0) (a9 1), stW G a1 v1] (om (fun (w9 : Unit) => [maW a0 (a1 0) (a2 0) (a3 0) (a4 0) (a7 0 0) (a8 0) (a9 0) (a9 1), stW G a1 v1]) q) (qIx G (om (fun (w9 : Unit) => [maW a0 (a1 0) (a2 0) (a3 0) (a4 0) (a7 0 0) (a8 0) (a9 0) (a9 1), stW G a1 v1]) q)) 2 12 := by
  unfold f_X5_member at hf
  refine mX_of (cc := cX5_member) (maxL := 3) (ret := (some .int)) (by decide) rfl (om_gad (fun _ => rfl)) (Nat.le_of_ble_eq_true rfl) ?_
  intro p e s m args below meth c A ls S hK hA hex hTH hP hD hS hl
  obtain ⟨hx, hb, hml, hown, hts, hr, hlocks⟩ := id S
  have hl : lv_has ls 3 [(0, .ref (a0 0)), (1, .int i1), (2, .int i2)] := hl
  refine lv_aload_n hx hb dX5_member_0 rfl (lv_at hl 0 rfl) ?_
  refine lv_iload_n hx hb dX5_member_1 rfl (lv_at hl 1 rfl) ?_
  obtain ⟨q1, hq1, hf⟩ := bx_some hf
  refine g_callXVv S (cells' := 1) (slots' := 6) (As := [.int i1]) (c_X5_requireMember l hl0 G a0 a1 a2 a3 a4 a5 a6 a7 a8 a9 a10 a11 v1 i1 hq1) (cwV 1 hts gX5_member_X5_requireMember rfl rfl rfl hd_X5_requireMember ⟨Nat.le_of_ble_eq_true rfl, Nat.le_of_ble_eq_true rfl⟩) hTH hK hP hD hS hA (is := [0, 1]) rfl rfl 0 rfl rfl rfl rfl hl.1 rfl (Nat.le_of_ble_eq_true rfl) dX5_member_2 ⟨Nat.le_of_ble_eq_true rfl, Nat.le_of_ble_eq_true rfl⟩ rfl rfl (fun u ho H locs hP hD hS => ?_) (fun E u ho ce q9 H locs hP hD hS hce hcv hcl => by obtain ⟨r9, rfl, rfl, rfl⟩ := om_r ho; have hf := bxe_r hf; subst hf; exact g_xout hex hlocks hce hcv hcl rfl (Nat.le_of_ble_eq_true rfl) (Nat.le_of_ble_eq_true rfl) hP hS)
  obtain ⟨r2, rfl, -, rfl⟩ := om_l ho
  have hf := bxe_l hf
  have hP : gP G [maW a0 (a1 0) (a2 0) (a3 0) (a4 0) (a7 0 0) (a8 0) (a9 0) (a9 1), stW G a1 v1] H := hP
  have hD : gD A [maW a0 (a1 0) (a2 0) (a3 0) (a4 0) (a7 0 0) (a8 0) (a9 0) (a9 1), stW G a1 v1] := hD
  refine lv_iload_n hx hb dX5_member_5 rfl (lv_at hl 2 rfl) ?_
  by_cases c4 : i2 = (0:Int32)
  · rw [if_pos c4] at hf
    refine lv_tableIn (tgt := 64) hx hb dX5_member_6 (by rw [c4]; decide) (by rw [c4]; decide) (by rw [c4]; rfl) (by decide) ?_
    refine lv_aload_n hx hb dX5_member_64 rfl (lv_at hl 0 rfl) ?_
    refine g_get (C := RX5) (T := TX5) (N := 8) hx hb hts iwX5_member_X5 hown hK hP 0 0 rfl rfl rfl 0 (Nat.le_of_ble_eq_true rfl) (hts _ kX5_member_0) (fun _ h9 => h9) rfl dX5_member_65 ?_
    refine g_get (C := RX3) (T := TX3) (N := 17) hx hb hts iwX5_member_X3 hown hK hP 1 0 rfl rfl rfl 5 (Nat.le_of_ble_eq_true rfl) (hts _ kX5_member_1) (fun _ h9 => h9) rfl dX5_member_68 ?_
    refine lv_iload_n hx hb dX5_member_71 rfl (lv_at hl 1 rfl) ?_
    obtain ⟨h5, hf⟩ := gi_some hf
    refine g_iald hx hb hK hP 1 1 0 rfl rfl rfl h5 dX5_member_72 ?_
    cases hf
    exact g_xiret hx hb hr hlocks rfl (Nat.le_of_ble_eq_true rfl) (Nat.le_of_ble_eq_true rfl) hP hS dX5_member_73
  · rw [if_neg c4] at hf
    by_cases c6 : i2 = (1:Int32)
    · rw [if_pos c6] at hf
      refine lv_tableIn (tgt := 74) hx hb dX5_member_6 (by rw [c6]; decide) (by rw [c6]; decide) (by rw [c6]; rfl) (by decide) ?_
      refine lv_aload_n hx hb dX5_member_74 rfl (lv_at hl 0 rfl) ?_
      refine g_get (C := RX5) (T := TX5) (N := 8) hx hb hts iwX5_member_X5 hown hK hP 0 0 rfl rfl rfl 0 (Nat.le_of_ble_eq_true rfl) (hts _ kX5_member_0) (fun _ h9 => h9) rfl dX5_member_75 ?_
      refine g_get (C := RX3) (T := TX3) (N := 17) hx hb hts iwX5_member_X3 hown hK hP 1 0 rfl rfl rfl 6 (Nat.le_of_ble_eq_true rfl) (hts _ kX5_member_2) (fun _ h9 => h9) rfl dX5_member_78 ?_
      refine lv_iload_n hx hb dX5_member_81 rfl (lv_at hl 1 rfl) ?_
      obtain ⟨h7, hf⟩ := gi_some hf
      refine g_iald hx hb hK hP 1 2 0 rfl rfl rfl h7 dX5_member_82 ?_
      cases hf
      exact g_xiret hx hb hr hlocks rfl (Nat.le_of_ble_eq_true rfl) (Nat.le_of_ble_eq_true rfl) hP hS dX5_member_83
    · rw [if_neg c6] at hf
      by_cases c8 : i2 = (2:Int32)
      · rw [if_pos c8] at hf
        refine lv_tableIn (tgt := 84) hx hb dX5_member_6 (by rw [c8]; decide) (by rw [c8]; decide) (by rw [c8]; rfl) (by decide) ?_
        refine lv_aload_n hx hb dX5_member_84 rfl (lv_at hl 0 rfl) ?_
        refine g_get (C := RX5) (T := TX5) (N := 8) hx hb hts iwX5_member_X5 hown hK hP 0 0 rfl rfl rfl 0 (Nat.le_of_ble_eq_true rfl) (hts _ kX5_member_0) (fun _ h9 => h9) rfl dX5_member_85 ?_
        refine g_get (C := RX3) (T := TX3) (N := 17) hx hb hts iwX5_member_X3 hown hK hP 1 0 rfl rfl rfl 7 (Nat.le_of_ble_eq_true rfl) (hts _ kX5_member_3) (fun _ h9 => h9) rfl dX5_member_88 ?_
        refine lv_iload_n hx hb dX5_member_91 rfl (lv_at hl 1 rfl) ?_
        obtain ⟨h9, hf⟩ := gi_some hf
        refine g_iald hx hb hK hP 1 3 0 rfl rfl rfl h9 dX5_member_92 ?_
        cases hf
        exact g_xiret hx hb hr hlocks rfl (Nat.le_of_ble_eq_true rfl) (Nat.le_of_ble_eq_true rfl) hP hS dX5_member_93
      · rw [if_neg c8] at hf
        by_cases c10 : i2 = (3:Int32)
        · rw [if_pos c10] at hf
          refine lv_tableIn (tgt := 94) hx hb dX5_member_6 (by rw [c10]; decide) (by rw [c10]; decide) (by rw [c10]; rfl) (by decide) ?_
          refine lv_aload_n hx hb dX5_member_94 rfl (lv_at hl 0 rfl) ?_
          refine g_get (C := RX5) (T := TX5) (N := 8) hx hb hts iwX5_member_X5 hown hK hP 0 0 rfl rfl rfl 0 (Nat.le_of_ble_eq_true rfl) (hts _ kX5_member_0) (fun _ h9 => h9) rfl dX5_member_95 ?_
          refine g_get (C := RX3) (T := TX3) (N := 17) hx hb hts iwX5_member_X3 hown hK hP 1 0 rfl rfl rfl 8 (Nat.le_of_ble_eq_true rfl) (hts _ kX5_member_4) (fun _ h9 => h9) rfl dX5_member_98 ?_
          refine lv_iload_n hx hb dX5_member_101 rfl (lv_at hl 1 rfl) ?_
          obtain ⟨h11, hf⟩ := gi_some hf
          refine g_zald hx hb hK hP 1 4 1 rfl rfl rfl h11 dX5_member_102 ?_
          refine lv_if_eq (tgt := 110) hx hb dX5_member_103 (by decide) (fun c12 => ?_) (fun c12 => ?_)
          · rw [if_pos c12] at hf
            refine lv_iconst (v := (0:Int32)) hx hb dX5_member_110 (by decide) ?_
            cases hf
            exact g_xiret hx hb hr hlocks rfl (Nat.le_of_ble_eq_true rfl) (Nat.le_of_ble_eq_true rfl) hP hS dX5_member_111
          · rw [if_neg c12] at hf
            refine lv_iconst (v := (1:Int32)) hx hb dX5_member_106 (by decide) ?_
            refine lv_goto (tgt := 111) hx hb dX5_member_107 (by decide) ?_
            cases hf
            exact g_xiret hx hb hr hlocks rfl (Nat.le_of_ble_eq_true rfl) (Nat.le_of_ble_eq_true rfl) hP hS dX5_member_111
        · rw [if_neg c10] at hf
          by_cases c13 : i2 = (4:Int32)
          · rw [if_pos c13] at hf
            refine lv_tableIn (tgt := 112) hx hb dX5_member_6 (by rw [c13]; decide) (by rw [c13]; decide) (by rw [c13]; rfl) (by decide) ?_
            refine lv_aload_n hx hb dX5_member_112 rfl (lv_at hl 0 rfl) ?_
            refine g_get (C := RX5) (T := TX5) (N := 8) hx hb hts iwX5_member_X5 hown hK hP 0 0 rfl rfl rfl 0 (Nat.le_of_ble_eq_true rfl) (hts _ kX5_member_0) (fun _ h9 => h9) rfl dX5_member_113 ?_
            refine g_get (C := RX3) (T := TX3) (N := 17) hx hb hts iwX5_member_X3 hown hK hP 1 0 rfl rfl rfl 9 (Nat.le_of_ble_eq_true rfl) (hts _ kX5_member_5) (fun _ h9 => h9) rfl dX5_member_116 ?_
            refine lv_iload_n hx hb dX5_member_119 rfl (lv_at hl 1 rfl) ?_
            obtain ⟨h14, hf⟩ := gi_some hf
            refine g_zald hx hb hK hP 1 5 1 rfl rfl rfl h14 dX5_member_120 ?_
            refine lv_if_eq (tgt := 128) hx hb dX5_member_121 (by decide) (fun c15 => ?_) (fun c15 => ?_)
            · rw [if_pos c15] at hf
              refine lv_iconst (v := (0:Int32)) hx hb dX5_member_128 (by decide) ?_
              cases hf
              exact g_xiret hx hb hr hlocks rfl (Nat.le_of_ble_eq_true rfl) (Nat.le_of_ble_eq_true rfl) hP hS dX5_member_129
            · rw [if_neg c15] at hf
              refine lv_iconst (v := (1:Int32)) hx hb dX5_member_124 (by decide) ?_
              refine lv_goto (tgt := 129) hx hb dX5_member_125 (by decide) ?_
              cases hf
              exact g_xiret hx hb hr hlocks rfl (Nat.le_of_ble_eq_true rfl) (Nat.le_of_ble_eq_true rfl) hP hS dX5_member_129
          · rw [if_neg c13] at hf
            by_cases c16 : i2 = (5:Int32)
            · rw [if_pos c16] at hf
              refine lv_tableIn (tgt := 130) hx hb dX5_member_6 (by rw [c16]; decide) (by rw [c16]; decide) (by rw [c16]; rfl) (by decide) ?_
              refine lv_aload_n hx hb dX5_member_130 rfl (lv_at hl 0 rfl) ?_
              refine g_get (C := RX5) (T := TX5) (N := 8) hx hb hts iwX5_member_X5 hown hK hP 0 0 rfl rfl rfl 0 (Nat.le_of_ble_eq_true rfl) (hts _ kX5_member_0) (fun _ h9 => h9) rfl dX5_member_131 ?_
              refine g_get (C := RX3) (T := TX3) (N := 17) hx hb hts iwX5_member_X3 hown hK hP 1 0 rfl rfl rfl 10 (Nat.le_of_ble_eq_true rfl) (hts _ kX5_member_6) (fun _ h9 => h9) rfl dX5_member_134 ?_
              refine lv_iload_n hx hb dX5_member_137 rfl (lv_at hl 1 rfl) ?_
              obtain ⟨h17, hf⟩ := gi_some hf
              refine g_zald hx hb hK hP 1 6 1 rfl rfl rfl h17 dX5_member_138 ?_
              refine lv_if_eq (tgt := 146) hx hb dX5_member_139 (by decide) (fun c18 => ?_) (fun c18 => ?_)
              · rw [if_pos c18] at hf
                refine lv_iconst (v := (0:Int32)) hx hb dX5_member_146 (by decide) ?_
                cases hf
                exact g_xiret hx hb hr hlocks rfl (Nat.le_of_ble_eq_true rfl) (Nat.le_of_ble_eq_true rfl) hP hS dX5_member_147
              · rw [if_neg c18] at hf
                refine lv_iconst (v := (1:Int32)) hx hb dX5_member_142 (by decide) ?_
                refine lv_goto (tgt := 147) hx hb dX5_member_143 (by decide) ?_
                cases hf
                exact g_xiret hx hb hr hlocks rfl (Nat.le_of_ble_eq_true rfl) (Nat.le_of_ble_eq_true rfl) hP hS dX5_member_147
            · rw [if_neg c16] at hf
              by_cases c19 : i2 = (6:Int32)
              · rw [if_pos c19] at hf
                refine lv_tableIn (tgt := 148) hx hb dX5_member_6 (by rw [c19]; decide) (by rw [c19]; decide) (by rw [c19]; rfl) (by decide) ?_
                refine lv_aload_n hx hb dX5_member_148 rfl (lv_at hl 0 rfl) ?_
                refine g_get (C := RX5) (T := TX5) (N := 8) hx hb hts iwX5_member_X5 hown hK hP 0 0 rfl rfl rfl 0 (Nat.le_of_ble_eq_true rfl) (hts _ kX5_member_0) (fun _ h9 => h9) rfl dX5_member_149 ?_
                refine g_get (C := RX3) (T := TX3) (N := 17) hx hb hts iwX5_member_X3 hown hK hP 1 0 rfl rfl rfl 11 (Nat.le_of_ble_eq_true rfl) (hts _ kX5_member_7) (fun _ h9 => h9) rfl dX5_member_152 ?_
                refine lv_iload_n hx hb dX5_member_155 rfl (lv_at hl 1 rfl) ?_
                obtain ⟨h20, hf⟩ := gi_some hf
                refine g_iald hx hb hK hP 1 7 0 rfl rfl rfl h20 dX5_member_156 ?_
                cases hf
                exact g_xiret hx hb hr hlocks rfl (Nat.le_of_ble_eq_true rfl) (Nat.le_of_ble_eq_true rfl) hP hS dX5_member_157
              · rw [if_neg c19] at hf
                by_cases c21 : i2 = (7:Int32)
                · rw [if_pos c21] at hf
                  refine lv_tableIn (tgt := 158) hx hb dX5_member_6 (by rw [c21]; decide) (by rw [c21]; decide) (by rw [c21]; rfl) (by decide) ?_
                  refine lv_aload_n hx hb dX5_member_158 rfl (lv_at hl 0 rfl) ?_
                  refine g_get (C := RX5) (T := TX5) (N := 8) hx hb hts iwX5_member_X5 hown hK hP 0 0 rfl rfl rfl 0 (Nat.le_of_ble_eq_true rfl) (hts _ kX5_member_0) (fun _ h9 => h9) rfl dX5_member_159 ?_
                  refine g_get (C := RX3) (T := TX3) (N := 17) hx hb hts iwX5_member_X3 hown hK hP 1 0 rfl rfl rfl 12 (Nat.le_of_ble_eq_true rfl) (hts _ kX5_member_8) (fun _ h9 => h9) rfl dX5_member_162 ?_
                  refine lv_iload_n hx hb dX5_member_165 rfl (lv_at hl 1 rfl) ?_
                  obtain ⟨h22, hf⟩ := gi_some hf
                  refine g_iald hx hb hK hP 1 8 0 rfl rfl rfl h22 dX5_member_166 ?_
                  cases hf
                  exact g_xiret hx hb hr hlocks rfl (Nat.le_of_ble_eq_true rfl) (Nat.le_of_ble_eq_true rfl) hP hS dX5_member_167
                · rw [if_neg c21] at hf
                  by_cases c23 : i2 = (8:Int32)
                  · rw [if_pos c23] at hf
                    refine lv_tableIn (tgt := 168) hx hb dX5_member_6 (by rw [c23]; decide) (by rw [c23]; decide) (by rw [c23]; rfl) (by decide) ?_
                    refine lv_aload_n hx hb dX5_member_168 rfl (lv_at hl 0 rfl) ?_
                    refine g_get (C := RX5) (T := TX5) (N := 8) hx hb hts iwX5_member_X5 hown hK hP 0 0 rfl rfl rfl 0 (Nat.le_of_ble_eq_true rfl) (hts _ kX5_member_0) (fun _ h9 => h9) rfl dX5_member_169 ?_
                    refine g_get (C := RX3) (T := TX3) (N := 17) hx hb hts iwX5_member_X3 hown hK hP 1 0 rfl rfl rfl 13 (Nat.le_of_ble_eq_true rfl) (hts _ kX5_member_9) (fun _ h9 => h9) rfl dX5_member_172 ?_
                    refine lv_iload_n hx hb dX5_member_175 rfl (lv_at hl 1 rfl) ?_
                    obtain ⟨h24, hf⟩ := gi_some hf
                    refine g_iald hx hb hK hP 1 9 0 rfl rfl rfl h24 dX5_member_176 ?_
                    cases hf
                    exact g_xiret hx hb hr hlocks rfl (Nat.le_of_ble_eq_true rfl) (Nat.le_of_ble_eq_true rfl) hP hS dX5_member_177
                  · rw [if_neg c23] at hf
                    by_cases c25 : i2 = (9:Int32)
                    · rw [if_pos c25] at hf
                      refine lv_tableIn (tgt := 178) hx hb dX5_member_6 (by rw [c25]; decide) (by rw [c25]; decide) (by rw [c25]; rfl) (by decide) ?_
                      refine lv_aload_n hx hb dX5_member_178 rfl (lv_at hl 0 rfl) ?_
                      refine g_get (C := RX5) (T := TX5) (N := 8) hx hb hts iwX5_member_X5 hown hK hP 0 0 rfl rfl rfl 0 (Nat.le_of_ble_eq_true rfl) (hts _ kX5_member_0) (fun _ h9 => h9) rfl dX5_member_179 ?_
                      refine g_get (C := RX3) (T := TX3) (N := 17) hx hb hts iwX5_member_X3 hown hK hP 1 0 rfl rfl rfl 14 (Nat.le_of_ble_eq_true rfl) (hts _ kX5_member_10) (fun _ h9 => h9) rfl dX5_member_182 ?_
                      refine lv_iload_n hx hb dX5_member_185 rfl (lv_at hl 1 rfl) ?_
                      obtain ⟨h26, hf⟩ := gi_some hf
                      refine g_iald hx hb hK hP 1 10 0 rfl rfl rfl h26 dX5_member_186 ?_
                      cases hf
                      exact g_xiret hx hb hr hlocks rfl (Nat.le_of_ble_eq_true rfl) (Nat.le_of_ble_eq_true rfl) hP hS dX5_member_187
                    · rw [if_neg c25] at hf
                      by_cases c27 : i2 = (10:Int32)
                      · rw [if_pos c27] at hf
                        refine lv_tableIn (tgt := 188) hx hb dX5_member_6 (by rw [c27]; decide) (by rw [c27]; decide) (by rw [c27]; rfl) (by decide) ?_
                        refine lv_aload_n hx hb dX5_member_188 rfl (lv_at hl 0 rfl) ?_
                        refine g_get (C := RX5) (T := TX5) (N := 8) hx hb hts iwX5_member_X5 hown hK hP 0 0 rfl rfl rfl 0 (Nat.le_of_ble_eq_true rfl) (hts _ kX5_member_0) (fun _ h9 => h9) rfl dX5_member_189 ?_
                        refine g_get (C := RX3) (T := TX3) (N := 17) hx hb hts iwX5_member_X3 hown hK hP 1 0 rfl rfl rfl 15 (Nat.le_of_ble_eq_true rfl) (hts _ kX5_member_11) (fun _ h9 => h9) rfl dX5_member_192 ?_
                        refine lv_iload_n hx hb dX5_member_195 rfl (lv_at hl 1 rfl) ?_
                        obtain ⟨h28, hf⟩ := gi_some hf
                        refine g_iald hx hb hK hP 1 11 0 rfl rfl rfl h28 dX5_member_196 ?_
                        cases hf
                        exact g_xiret hx hb hr hlocks rfl (Nat.le_of_ble_eq_true rfl) (Nat.le_of_ble_eq_true rfl) hP hS dX5_member_197
                      · rw [if_neg c27] at hf
                        refine lv_tableOut (tgt := 198) hx hb dX5_member_6 (by have n0 := lv_neT c4 (a := 0) (by decide); have n1 := lv_neT c6 (a := 1) (by decide); have n2 := lv_neT c8 (a := 2) (by decide); have n3 := lv_neT c10 (a := 3) (by decide); have n4 := lv_neT c13 (a := 4) (by decide); have n5 := lv_neT c16 (a := 5) (by decide); have n6 := lv_neT c19 (a := 6) (by decide); have n7 := lv_neT c21 (a := 7) (by decide); have n8 := lv_neT c23 (a := 8) (by decide); have n9 := lv_neT c25 (a := 9) (by decide); have n10 := lv_neT c27 (a := 10) (by decide); omega) (by decide) ?_
                        cases hf
                        exact g_throw S (cls := "java/lang/IllegalArgumentException") (text := "there is no such number of a member") (names := ["java/lang/RuntimeException", "java/lang/Exception"]) rfl hex hl0 hTH vf_IllegalArgumentException vf_names (hts _ kX5_member_12) (hts _ kX5_member_13) (List.mem_of_getElem? (i := 3) rfl) atX5_member_120 vg_RX5_120 vh_RX5_120 dX5_member_198 dX5_member_201 dX5_member_202 dX5_member_204 dX5_member_207 (Nat.le_of_ble_eq_true rfl) (Nat.le_of_ble_eq_true rfl) (Nat.le_of_ble_eq_true rfl) (Nat.le_of_ble_eq_true rfl) (Nat.le_of_ble_eq_true rfl) (Nat.le_of_ble_eq_true rfl) hl.1 rfl hP hS
theorem kX5_requireTwoMembers_0 : Cond.classLink RX5 116 "java/lang/IllegalArgumentException" ∈ wsX5_requireTwoMembers := (List.mem_cons_of_mem _ (List.mem_append_left _ (List.mem_append_left _ (List.mem_append_left _ (List.mem_append_left _ (List.mem_of_getElem? (i := 0) rfl))))))
theorem kX5_requireTwoMembers_1 : Cond.initialized "java/lang/IllegalArgumentException" ∈ wsX5_requireTwoMembers := (List.mem_cons_of_mem _ (List.mem_append_left _ (List.mem_append_left _ (List.mem_append_left _ (List.mem_append_left _ (List.mem_of_getElem? (i := 1) rfl))))))
theorem atX5_requireTwoMembers_120 : ∀ w ∈ (vx_atS RX5 120 "java/lang/IllegalArgumentException" ["java/lang/RuntimeException", "java/lang/Exception"]).filter goodWord, w ∈ wsX5_requireTwoMembers := fun w h => (List.mem_cons_of_mem _ (List.mem_append_left _ (List.mem_append_right _ h)))
set_option maxHeartbeats 4000000 in
set_option maxRecDepth 100000 in
theorem c_X5_requireTwoMembers (l : Launch) (hl0 : l.stackTraces = false) (G : uG) (a0 : Nat → Nat) (a1 : Nat → Nat) (a2 : Nat → Nat) (a3 : Nat → Nat) (a4 : Nat → Nat) (a5 : Nat → Nat) (a6 : Nat → Nat) (a7 : Nat → Nat → Nat) (a8 : Nat → Nat) (a9 : Nat → Nat) (a10 : Nat → Nat) (a11 : Nat → Nat) (v1 : StV) (i1 : Int32) (i2 : Int32) {q : (Unit × (Unit)) ⊕ (String × (Unit))} (hf : f_X5_requireTwoMembers v1 i1 i2 = some q) : mX l yX5_requireTwoMembers wsX5_requireTwoMembers ({ frames := 7, cells := 3, slots := 18, locals := 113 } : Room) G [.ref (a0 0), .int i1, .int i2] [maW a0 (a1 0) (a2 0) (a3 0) (a4 0) (a7 0 0) (a8 0) (a9 0) (a9 1), stW G a1 v1] (om (fun (w9 : Unit) => [maW a0 (a1 0) (a2 0) (a3 0) (a4 0) (a7 0 0) (a8 0) (a9 0) (a9 1), stW G a1 v1]) q) (qVx G (om (fun (w9 : Unit) => [maW a0 (a1 0) (a2 0) (a3 0) (a4 0) (a7 0 0) (a8 0) (a9 0) (a9 1), stW G a1 v1]) q)) 3 18 := by
  unfold f_X5_requireTwoMembers at hf
  refine mX_of (cc := cX5_requireTwoMembers) (maxL := 3) (ret := none) (by decide) rfl (om_gad (fun _ => rfl)) (Nat.le_of_ble_eq_true rfl) ?_
  intro p e s m args below meth c A ls S hK hA hex hTH hP hD hS hl
  obtain ⟨hx, hb, hml, hown, hts, hr, hlocks⟩ := id S
  have hl : lv_has ls 3 [(0, .ref (a0 0)), (1, .int i1), (2, .int i2)] := hl
  refine lv_aload_n hx hb dX5_requireTwoMembers_0 rfl (lv_at hl 0 rfl) ?_
  refine lv_iload_n hx hb dX5_requireTwoMembers_1 rfl (lv_at hl 1 rfl) ?_
  obtain ⟨q1, hq1, hf⟩ := bx_some hf
  refine g_callXVv S (cells' := 1) (slots' := 6) (As := [.int i1]) (c_X5_requireMember l hl0 G a0 a1 a2 a3 a4 a5 a6 a7 a8 a9 a10 a11 v1 i1 hq1) (cwV 1 hts gX5_requireTwoMembers_X5_requireMember rfl rfl rfl hd_X5_requireMember ⟨Nat.le_of_ble_eq_true rfl, Nat.le_of_ble_eq_true rfl⟩) hTH hK hP hD hS hA (is := [0, 1]) rfl rfl 0 rfl rfl rfl rfl hl.1 rfl (Nat.le_of_ble_eq_true rfl) dX5_requireTwoMembers_2 ⟨Nat.le_of_ble_eq_true rfl, Nat.le_of_ble_eq_true rfl⟩ rfl rfl (fun u ho H locs hP hD hS => ?_) (fun E u ho ce q9 H locs hP hD hS hce hcv hcl => by obtain ⟨r9, rfl, rfl, rfl⟩ := om_r ho; have hf := bxe_r hf; subst hf; exact g_xout hex hlocks hce hcv hcl rfl (Nat.le_of_ble_eq_true rfl) (Nat.le_of_ble_eq_true rfl) hP hS)
  obtain ⟨r2, rfl, -, rfl⟩ := om_l ho
  have hf := bxe_l hf
  have hP : gP G [maW a0 (a1 0) (a2 0) (a3 0) (a4 0) (a7 0 0) (a8 0) (a9 0) (a9 1), stW G a1 v1] H := hP
  have hD : gD A [maW a0 (a1 0) (a2 0) (a3 0) (a4 0) (a7 0 0) (a8 0) (a9 0) (a9 1), stW G a1 v1] := hD
  refine lv_aload_n hx hb dX5_requireTwoMembers_5 rfl (lv_at hl 0 rfl) ?_
  refine lv_iload_n hx hb dX5_requireTwoMembers_6 rfl (lv_at hl 2 rfl) ?_
  obtain ⟨q4, hq4, hf⟩ := bx_some hf
  refine g_callXVv S (cells' := 2) (slots' := 12) (As := [.int i2]) (c_X5_requireMember l hl0 G a0 a1 a2 a3 a4 a5 a6 a7 a8 a9 a10 a11 v1 i2 hq4) (cwV 1 hts gX5_requireTwoMembers_X5_requireMember rfl rfl rfl hd_X5_requireMember ⟨Nat.le_of_ble_eq_true rfl, Nat.le_of_ble_eq_true rfl⟩) hTH hK hP hD hS hA (is := [0, 1]) rfl rfl 0 rfl rfl rfl rfl hl.1 rfl (Nat.le_of_ble_eq_true rfl) dX5_requireTwoMembers_7 ⟨Nat.le_of_ble_eq_true rfl, Nat.le_of_ble_eq_true rfl⟩ rfl rfl (fun u ho H locs hP hD hS => ?_) (fun E u ho ce q9 H locs hP hD hS hce hcv hcl => by obtain ⟨r9, rfl, rfl, rfl⟩ := om_r ho; have hf := bxe_r hf; subst hf; exact g_xout hex hlocks hce hcv hcl rfl (Nat.le_of_ble_eq_true rfl) (Nat.le_of_ble_eq_true rfl) hP hS)
  obtain ⟨r5, rfl, -, rfl⟩ := om_l ho
  have hf := bxe_l hf
  have hP : gP G [maW a0 (a1 0) (a2 0) (a3 0) (a4 0) (a7 0 0) (a8 0) (a9 0) (a9 1), stW G a1 v1] H := hP
  have hD : gD A [maW a0 (a1 0) (a2 0) (a3 0) (a4 0) (a7 0 0) (a8 0) (a9 0) (a9 1), stW G a1 v1] := hD
  refine lv_iload_n hx hb dX5_requireTwoMembers_10 rfl (lv_at hl 1 rfl) ?_
  refine lv_iload_n hx hb dX5_requireTwoMembers_11 rfl (lv_at hl 2 rfl) ?_
  refine lv_icmp_ne (tgt := 26) hx hb dX5_requireTwoMembers_12 (by decide) (fun c7 => ?_) (fun c7 => ?_)
  · rw [if_neg c7] at hf
    cases hf
    exact g_xvret hx hb hr hlocks rfl (Nat.le_of_ble_eq_true rfl) (Nat.le_of_ble_eq_true rfl) hP hS dX5_requireTwoMembers_26
  · rw [if_pos c7] at hf
    cases hf
    exact g_throwW S (cls := "java/lang/IllegalArgumentException") (text := "the members have to be different") (names := ["java/lang/RuntimeException", "java/lang/Exception"]) rfl hex hl0 hTH vf_IllegalArgumentException vf_names (hts _ kX5_requireTwoMembers_0) (hts _ kX5_requireTwoMembers_1) (List.mem_of_getElem? (i := 13) rfl) atX5_requireTwoMembers_120 vg_RX5_120 vh_RX5_120 dX5_requireTwoMembers_15 dX5_requireTwoMembers_18 dX5_requireTwoMembers_19 dX5_requireTwoMembers_22 dX5_requireTwoMembers_25 (Nat.le_of_ble_eq_true rfl) (Nat.le_of_ble_eq_true rfl) (Nat.le_of_ble_eq_true rfl) (Nat.le_of_ble_eq_true rfl) (Nat.le_of_ble_eq_true rfl) (Nat.le_of_ble_eq_true rfl) hl.1 rfl hP hS
theorem kX5_owes_0 : Cond.fieldLink RX5 10 "SavingsCircle" "now" "LSavingsCircle$State;" ∈ wsX5_owes := (List.mem_cons_of_mem _ (List.mem_append_left _ (List.mem_append_left _ (List.mem_append_left _ (List.mem_append_left _ (List.mem_of_getElem? (i := 0) rfl))))))
theorem kX5_owes_1 : Cond.fieldLink RX5 165 "SavingsCircle$State" "debt" "[I" ∈ wsX5_owes := (List.mem_cons_of_mem _ (List.mem_append_left _ (List.mem_append_left _ (List.mem_append_left _ (List.mem_append_left _ (List.mem_of_getElem? (i := 1) rfl))))))
theorem iwX5_owes_X5 : ∀ w ∈ wsX50, w ∈ wsX5_owes := fun w h => (List.mem_cons_of_mem _ (List.mem_append_left _ (List.mem_append_left _ (List.mem_append_left _ (List.mem_append_right _ h)))))
theorem iwX5_owes_X3 : ∀ w ∈ wsX30, w ∈ wsX5_owes := fun w h => (List.mem_cons_of_mem _ (List.mem_append_left _ (List.mem_append_left _ (List.mem_append_right _ h))))
set_option maxHeartbeats 4000000 in
set_option maxRecDepth 100000 in
theorem c_X5_owes (l : Launch) (hl0 : l.stackTraces = false) (G : uG) (a0 : Nat → Nat) (a1 : Nat → Nat) (a2 : Nat → Nat) (a3 : Nat → Nat) (a4 : Nat → Nat) (a5 : Nat → Nat) (a6 : Nat → Nat) (a7 : Nat → Nat → Nat) (a8 : Nat → Nat) (a9 : Nat → Nat) (a10 : Nat → Nat) (a11 : Nat → Nat) (v1 : StV) (i1 : Int32) (i2 : Int32) {q : (Int32 × (Unit)) ⊕ (String × (Unit))} (hf : f_X5_owes v1 i1 i2 = some q) : mX l yX5_owes wsX5_owes ({ frames := 8, cells := 3, slots := 18, locals := 135 } : Room) G [.ref (a0 0), .int i1, .int i2] [maW a0 (a1 0) (a2 0) (a3 0) (a4 0) (a7 0 0) (a8 0) (a9 0) (a9 1), stW G a1 v1] (om (fun (w9 : Unit) => [maW a0 (a1 0) (a2 0) (a3 0) (a4 0) (a7 0 0) (a8 0) (a9 0) (a9 1), stW G a1 v1]) q) (qIx G (om (fun (w9 : Unit) => [maW a0 (a1 0) (a2 0) (a3 0) (a4 0) (a7 0 0) (a8 0) (a9 0) (a9 1), stW G a1 v1]) q)) 3 18 := by
  unfold f_X5_owes at hf
  refine mX_of (cc := cX5_owes) (maxL := 3) (ret := (some .int)) (by decide) rfl (om_gad (fun _ => rfl)) (Nat.le_of_ble_eq_true rfl) ?_
  intro p e s m args below meth c A ls S hK hA hex hTH hP hD hS hl
  obtain ⟨hx, hb, hml, hown, hts, hr, hlocks⟩ := id S
  have hl : lv_has ls 3 [(0, .ref (a0 0)), (1, .int i1), (2, .int i2)] := hl
  refine lv_aload_n hx hb dX5_owes_0 rfl (lv_at hl 0 rfl) ?_
  refine lv_iload_n hx hb dX5_owes_1 rfl (lv_at hl 1 rfl) ?_
  refine lv_iload_n hx hb dX5_owes_2 rfl (lv_at hl 2 rfl) ?_
  obtain ⟨q1, hq1, hf⟩ := bx_some hf
  refine g_callXVv S (cells' := 3) (slots' := 18) (As := [.int i1, .int i2]) (c_X5_requireTwoMembers l hl0 G a0 a1 a2 a3 a4 a5 a6 a7 a8 a9 a10 a11 v1 i1 i2 hq1) (cwV 2 hts gX5_owes_X5_requireTwoMembers rfl rfl rfl hd_X5_requireTwoMembers ⟨Nat.le_of_ble_eq_true rfl, Nat.le_of_ble_eq_true rfl⟩) hTH hK hP hD hS hA (is := [0, 1]) rfl rfl 0 rfl rfl rfl rfl hl.1 rfl (Nat.le_of_ble_eq_true rfl) dX5_owes_3 ⟨Nat.le_of_ble_eq_true rfl, Nat.le_of_ble_eq_true rfl⟩ rfl rfl (fun u ho H locs hP hD hS => ?_) (fun E u ho ce q9 H locs hP hD hS hce hcv hcl => by obtain ⟨r9, rfl, rfl, rfl⟩ := om_r ho; have hf := bxe_r hf; subst hf; exact g_xout hex hlocks hce hcv hcl rfl (Nat.le_of_ble_eq_true rfl) (Nat.le_of_ble_eq_true rfl) hP hS)
  obtain ⟨r2, rfl, -, rfl⟩ := om_l ho
  have hf := bxe_l hf
  have hP : gP G [maW a0 (a1 0) (a2 0) (a3 0) (a4 0) (a7 0 0) (a8 0) (a9 0) (a9 1), stW G a1 v1] H := hP
  have hD : gD A [maW a0 (a1 0) (a2 0) (a3 0) (a4 0) (a7 0 0) (a8 0) (a9 0) (a9 1), stW G a1 v1] := hD
  refine lv_aload_n hx hb dX5_owes_6 rfl (lv_at hl 0 rfl) ?_
  refine g_get (C := RX5) (T := TX5) (N := 8) hx hb hts iwX5_owes_X5 hown hK hP 0 0 rfl rfl rfl 0 (Nat.le_of_ble_eq_true rfl) (hts _ kX5_owes_0) (fun _ h9 => h9) rfl dX5_owes_7 ?_
  refine g_get (C := RX3) (T := TX3) (N := 17) hx hb hts iwX5_owes_X3 hown hK hP 1 0 rfl rfl rfl 16 (Nat.le_of_ble_eq_true rfl) (hts _ kX5_owes_1) (fun _ h9 => h9) rfl dX5_owes_10 ?_
  refine lv_iload_n hx hb dX5_owes_13 rfl (lv_at hl 1 rfl) ?_
  refine lv_iload_n hx hb dX5_owes_14 rfl (lv_at hl 2 rfl) ?_
  obtain ⟨q4, hq4, hf⟩ := bd_some hf
  refine g_callSi S (As := [.int i1, .int i2]) (gs' := [maW a0 (a1 0) (a2 0) (a3 0) (a4 0) (a7 0 0) (a8 0) (a9 0) (a9 1), stW G a1 v1]) (c_X3_pair l G i1 i2 hq4) (va_cwS 2 hts gX5_owes_X3_pair rfl rfl rfl hd_X3_pair.2 ⟨Nat.le_of_ble_eq_true rfl, Nat.le_of_ble_eq_true rfl⟩) hK hP hD hS hA (is := []) rfl rfl rfl hl.1 rfl (Nat.le_of_ble_eq_true rfl) dX5_owes_15 ⟨Nat.le_of_ble_eq_true rfl, Nat.le_of_ble_eq_true rfl⟩ rfl (fun H locs hP hD hS => ?_)
  obtain ⟨h5, hf⟩ := gi_some hf
  refine g_iald hx hb hK hP 1 12 0 rfl rfl rfl h5 dX5_owes_18 ?_
  cases hf
  exact g_xiret hx hb hr hlocks rfl (Nat.le_of_ble_eq_true rfl) (Nat.le_of_ble_eq_true rfl) hP hS dX5_owes_19
theorem kX5_chain_0 : Cond.fieldLink RX5 10 "SavingsCircle" "now" "LSavingsCircle$State;" ∈ wsX5_chain := (List.mem_cons_of_mem _ (List.mem_append_left _ (List.mem_append_left _ (List.mem_append_left _ (List.mem_of_getElem? (i := 0) rfl)))))
theorem iwX5_chain_X5 : ∀ w ∈ wsX50, w ∈ wsX5_chain := fun w h => (List.mem_cons_of_mem _ (List.mem_append_left _ (List.mem_append_left _ (List.mem_append_right _ h))))
set_option maxHeartbeats 4000000 in
set_option maxRecDepth 100000 in
theorem c_X5_chain (l : Launch) (hl0 : l.stackTraces = false) (G : uG) (a0 : Nat → Nat) (a1 : Nat → Nat) (a2 : Nat → Nat) (a3 : Nat → Nat) (a4 : Nat → Nat) (a5 : Nat → Nat) (a6 : Nat → Nat) (a7 : Nat → Nat → Nat) (a8 : Nat → Nat) (a9 : Nat → Nat) (a10 : Nat → Nat) (a11 : Nat → Nat) (v1 : StV) (i1 : Int32) {q : (Int32 × (Unit)) ⊕ (String × (Unit))} (hf : f_X5_chain v1 i1 = some q) : mX l yX5_chain wsX5_chain ({ frames := 7, cells := 1, slots := 6, locals := 113 } : Room) G [.ref (a0 0), .int i1] [maW a0 (a1 0) (a2 0) (a3 0) (a4 0) (a7 0 0) (a8 0) (a9 0) (a9 1), stW G a1 v1] (om (fun (w9 : Unit) => [maW a0 (a1 0) (a2 0) (a3 0) (a4 0) (a7 0 0) (a8 0) (a9 0) (a9 1), stW G a1 v1]) q) (qIx G (om (fun (w9 : Unit) => [maW a0 (a1 0) (a2 0) (a3 0) (a4 0) (a7 0 0) (a8 0) (a9 0) (a9 1), stW G a1 v1]) q)) 1 6 := by
  unfold f_X5_chain at hf
  refine mX_of (cc := cX5_chain) (maxL := 2) (ret := (some .int)) (by decide) rfl (om_gad (fun _ => rfl)) (Nat.le_of_ble_eq_true rfl) ?_
  intro p e s m args below meth c A ls S hK hA hex hTH hP hD hS hl
  obtain ⟨hx, hb, hml, hown, hts, hr, hlocks⟩ := id S
  have hl : lv_has ls 2 [(0, .ref (a0 0)), (1, .int i1)] := hl
  refine lv_aload_n hx hb dX5_chain_0 rfl (lv_at hl 0 rfl) ?_
  refine lv_iload_n hx hb dX5_chain_1 rfl (lv_at hl 1 rfl) ?_
  obtain ⟨q1, hq1, hf⟩ := bx_some hf
  refine g_callXVv S (cells' := 1) (slots' := 6) (As := [.int i1]) (c_X5_requireMember l hl0 G a0 a1 a2 a3 a4 a5 a6 a7 a8 a9 a10 a11 v1 i1 hq1) (cwV 1 hts gX5_chain_X5_requireMember rfl rfl rfl hd_X5_requireMember ⟨Nat.le_of_ble_eq_true rfl, Nat.le_of_ble_eq_true rfl⟩) hTH hK hP hD hS hA (is := [0, 1]) rfl rfl 0 rfl rfl rfl rfl hl.1 rfl (Nat.le_of_ble_eq_true rfl) dX5_chain_2 ⟨Nat.le_of_ble_eq_true rfl, Nat.le_of_ble_eq_true rfl⟩ rfl rfl (fun u ho H locs hP hD hS => ?_) (fun E u ho ce q9 H locs hP hD hS hce hcv hcl => by obtain ⟨r9, rfl, rfl, rfl⟩ := om_r ho; have hf := bxe_r hf; subst hf; exact g_xout hex hlocks hce hcv hcl rfl (Nat.le_of_ble_eq_true rfl) (Nat.le_of_ble_eq_true rfl) hP hS)
  obtain ⟨r2, rfl, -, rfl⟩ := om_l ho
  have hf := bxe_l hf
  have hP : gP G [maW a0 (a1 0) (a2 0) (a3 0) (a4 0) (a7 0 0) (a8 0) (a9 0) (a9 1), stW G a1 v1] H := hP
  have hD : gD A [maW a0 (a1 0) (a2 0) (a3 0) (a4 0) (a7 0 0) (a8 0) (a9 0) (a9 1), stW G a1 v1] := hD
  refine lv_aload_n hx hb dX5_chain_5 rfl (lv_at hl 0 rfl) ?_
  refine g_get (C := RX5) (T := TX5) (N := 8) hx hb hts iwX5_chain_X5 hown hK hP 0 0 rfl rfl rfl 0 (Nat.le_of_ble_eq_true rfl) (hts _ kX5_chain_0) (fun _ h9 => h9) rfl dX5_chain_6 ?_
  refine lv_iload_n hx hb dX5_chain_9 rfl (lv_at hl 1 rfl) ?_
  obtain ⟨q4, hq4, hf⟩ := bd_some hf
  refine g_callVi S (As := [.int i1]) (gs' := [maW a0 (a1 0) (a2 0) (a3 0) (a4 0) (a7 0 0) (a8 0) (a9 0) (a9 1), stW G a1 v1]) (c_X3_chainLength l G a1 v1 i1 hq4) (cwV 1 hts gX5_chain_X3_chainLength rfl rfl rfl hd_X3_chainLength ⟨Nat.le_of_ble_eq_true rfl, Nat.le_of_ble_eq_true rfl⟩) hK hP hD hS hA (is := [1]) rfl rfl 1 rfl rfl rfl rfl hl.1 rfl (Nat.le_of_ble_eq_true rfl) dX5_chain_10 ⟨Nat.le_of_ble_eq_true rfl, Nat.le_of_ble_eq_true rfl⟩ rfl (fun H locs hP hD hS => ?_)
  cases hf
  exact g_xiret hx hb hr hlocks rfl (Nat.le_of_ble_eq_true rfl) (Nat.le_of_ble_eq_true rfl) hP hS dX5_chain_13
theorem kX5_bitsOf_0 : Cond.constantFloat RX5 301 (1258291200) ∈ wsX5_bitsOf := (List.mem_cons_of_mem _ (List.mem_of_getElem? (i := 0) rfl))
theorem kX5_bitsOf_1 : Cond.constant RX5 302 (8388608) ∈ wsX5_bitsOf := (List.mem_cons_of_mem _ (List.mem_of_getElem? (i := 1) rfl))
set_option maxHeartbeats 4000000 in
set_option maxRecDepth 100000 in
theorem w_X5_bitsOf_16 {p : Program} {l : Launch} {e : Env} {s : State} {m : MethodId} {args : Array Value} {below : List Frame} {meth : Method} {c : Code} {A : Nat → Prop} {Q : State → Prop} (S : Ev p s m args meth c cX5_bitsOf 4 (some .int) yX5_bitsOf.cls wsX5_bitsOf) {G : uG} (hK : kK G s) (hA : ∀ q, s.heap.size ≤ q → A q) (_ : uG) : ∀ (n : Nat) (z : (UInt32 × Int32 × Int32)) (e1 : (UInt32 × Int32 × Int32)), lp (b_X5_bitsOf_16) n z = some e1 → ∀ (H : Heap) (locs : List Loc) (ls : Array Slot), gP G [] H → gD A [] → va_S A s.heap H locs → lv_has ls 4 [(1, .float z.1), (2, .int z.2.1), (3, .int z.2.2)] → (∀ (H : Heap) (locs : List Loc) (ls : Array Slot), gP G [] H → gD A [] → va_S A s.heap H locs → lv_has ls 4 [(1, .float e1.1), (2, .int e1.2.1), (3, .int e1.2.2)] → W p l e ({ frames := 0, cells := 0, slots := 0, locals := 0 } : Room) s m args below meth c H locs 0 0 Q (F0 m 43 ls [])) → W p l e ({ frames := 0, cells := 0, slots := 0, locals := 0 } : Room) s m args below meth c H locs 0 0 Q (F0 m 16 ls []) := by
  obtain ⟨hx, hb, hml, hown, hts, hr, hlocks⟩ := id S
  intro n
  induction n with
  | zero => intro z e1 h; cases h
  | succ n ih =>
    intro z e1 hlp H locs ls hP hD hS hl K
    obtain ⟨z9, hf, hz⟩ := lp_s hlp
    unfold b_X5_bitsOf_16 at hf
    refine lv_iload_n hx hb dX5_bitsOf_16 rfl (lv_at hl 2 rfl) ?_
    refine lv_bipush (v := (126:Int32)) hx hb dX5_bitsOf_17 (by decide) ?_
    refine lv_icmp_ge (tgt := 43) hx hb dX5_bitsOf_19 (by decide) (fun c2 => ?_) (fun c2 => ?_)
    · rw [if_pos c2] at hf
      have he := lz_r hf hz
      subst he
      exact K H locs ls hP hD hS (lv_sub hl [0, 1, 2] rfl)
    · rw [if_neg c2] at hf
      refine lv_fload_n hx hb dX5_bitsOf_22 rfl (lv_at hl 0 rfl) ?_
      refine g_ldcfw (v := (1258291200:UInt32)) hx hb hown (hts _ kX5_bitsOf_0) dX5_bitsOf_23 ?_
      refine lv_fcmp hx hb dX5_bitsOf_26 ?_
      obtain ⟨x3, ex3, hf⟩ := lt_some hf
      refine lv_nmi ex3 ?_
      refine lv_if_ge (tgt := 43) hx hb dX5_bitsOf_27 (by decide) (fun c4 => ?_) (fun c4 => ?_)
      · rw [if_pos c4] at hf
        have he := lz_r hf hz
        subst he
        exact K H locs ls hP hD hS (lv_sub hl [0, 1, 2] rfl)
      · rw [if_neg c4] at hf
        refine lv_fload_n hx hb dX5_bitsOf_30 rfl (lv_at hl 0 rfl) ?_
        refine lv_fconst2 hx hb dX5_bitsOf_31 ?_
        obtain ⟨h5, hf⟩ := gnan_some hf
        refine lv_fmul hx hb dX5_bitsOf_32 h5 ?_
        obtain ⟨x6, ex6, hf⟩ := lt_some hf
        refine lv_nmf ex6 ?_
        refine lv_fstore_n (lv' := [(1, .float x6), (2, .int z.2.1), (3, .int z.2.2)]) hx hb dX5_bitsOf_33 rfl hl (by decide) rfl (fun ls hl => ?_)
        obtain ⟨x7, ex7, hf⟩ := lt_some hf
        refine lv_iinc (v := x7) (lv' := [(2, .int x7), (1, .float x6), (3, .int z.2.2)]) hx hb dX5_bitsOf_34 hl (k := 1) rfl (by rw [ex7]; rfl) (by decide) rfl (fun ls hl => ?_)
        obtain ⟨x8, ex8, hf⟩ := lt_some hf
        refine lv_iinc (v := x8) (lv' := [(3, .int x8), (2, .int x7), (1, .float x6)]) hx hb dX5_bitsOf_37 hl (k := 2) rfl (by rw [ex8]; rfl) (by decide) rfl (fun ls hl => ?_)
        refine lv_goto (tgt := 16) hx hb dX5_bitsOf_40 (by decide) ?_
        exact ih _ e1 (lz_l hf hz) H locs ls hP hD hS (lv_sub hl [2, 1, 0] rfl) K
set_option maxHeartbeats 4000000 in
set_option maxRecDepth 100000 in
theorem c_X5_bitsOf (l : Launch) (G : uG) (i0 : UInt32) {q : Int32 × (Unit)} (hf : f_X5_bitsOf i0 = some q) : mQ l yX5_bitsOf wsX5_bitsOf ({ frames := 0, cells := 0, slots := 0, locals := 0 } : Room) G [.float i0] [] [] (qI G [] q.1) := by
  unfold f_X5_bitsOf at hf
  refine m_of (cc := cX5_bitsOf) (maxL := 4) (ret := (some .int)) (by decide) rfl rfl (Nat.le_of_ble_eq_true rfl) ?_
  intro p e s m args below meth c A ls S hK hA hP hD hS hl
  obtain ⟨hx, hb, hml, hown, hts, hr, hlocks⟩ := id S
  have hl : lv_has ls 4 [(0, .float i0)] := hl
  refine lv_fload_n hx hb dX5_bitsOf_0 rfl (lv_at hl 0 rfl) ?_
  refine lv_fconst0 hx hb dX5_bitsOf_1 ?_
  refine lv_fcmp hx hb dX5_bitsOf_2 ?_
  refine lv_if_gt (tgt := 8) hx hb dX5_bitsOf_3 (by decide) (fun c1 => ?_) (fun c1 => ?_)
  · rw [if_pos c1] at hf
    refine lv_fload_n hx hb dX5_bitsOf_8 rfl (lv_at hl 0 rfl) ?_
    refine lv_fstore_n (lv' := [(1, .float i0), (0, .float i0)]) hx hb dX5_bitsOf_9 rfl hl (by decide) rfl (fun ls hl => ?_)
    refine lv_sipush (v := (150:Int32)) hx hb dX5_bitsOf_10 (by decide) ?_
    refine lv_istore_n (lv' := [(2, .int (150:Int32)), (1, .float i0), (0, .float i0)]) hx hb dX5_bitsOf_13 rfl hl (by decide) rfl (fun ls hl => ?_)
    refine lv_iconst (v := (0:Int32)) hx hb dX5_bitsOf_14 (by decide) ?_
    refine lv_istore_n (lv' := [(3, .int (0:Int32)), (2, .int (150:Int32)), (1, .float i0), (0, .float i0)]) hx hb dX5_bitsOf_15 rfl hl (by decide) rfl (fun ls hl => ?_)
    obtain ⟨e9, he9, hf⟩ := bd_some hf
    refine w_X5_bitsOf_16 (Q := _) S hK hA G FU _ e9 he9 _ _ _ hP hD hS (lv_sub hl [2, 1, 0] rfl) (fun H locs ls hP hD hS hl => ?_)
    refine lv_iload_n hx hb dX5_bitsOf_43 rfl (lv_at hl 1 rfl) ?_
    refine lv_bipush (v := (23:Int32)) hx hb dX5_bitsOf_44 (by decide) ?_
    refine lv_ishl hx hb dX5_bitsOf_46 ?_
    refine lv_fload_n hx hb dX5_bitsOf_47 rfl (lv_at hl 0 rfl) ?_
    refine lv_f2i hx hb dX5_bitsOf_48 ?_
    refine lv_ldcw (v := (8388608:Int32)) hx hb hown (hts _ kX5_bitsOf_1) dX5_bitsOf_49 ?_
    refine lv_isub hx hb dX5_bitsOf_52 ?_
    refine lv_iadd hx hb dX5_bitsOf_53 ?_
    obtain ⟨x10, ex10, hf⟩ := lt_some hf
    refine lv_nmi ex10 ?_
    cases hf
    exact g_iret hx hb hr hlocks hP hS dX5_bitsOf_54
  · rw [if_neg c1] at hf
    refine lv_iconst (v := (0:Int32)) hx hb dX5_bitsOf_6 (by decide) ?_
    cases hf
    exact g_iret hx hb hr hlocks hP hS dX5_bitsOf_7
theorem kX5_rate_0 : Cond.fieldLink RX5 10 "SavingsCircle" "now" "LSavingsCircle$State;" ∈ wsX5_rate := (List.mem_cons_of_mem _ (List.mem_append_left _ (List.mem_append_left _ (List.mem_append_left _ (List.mem_of_getElem? (i := 0) rfl)))))
theorem kX5_rate_1 : Cond.fieldLink RX5 150 "SavingsCircle$State" "gotOfPot" "[I" ∈ wsX5_rate := (List.mem_cons_of_mem _ (List.mem_append_left _ (List.mem_append_left _ (List.mem_append_left _ (List.mem_of_getElem? (i := 1) rfl)))))
theorem kX5_rate_2 : Cond.fieldLink RX5 153 "SavingsCircle$State" "shares" "[I" ∈ wsX5_rate := (List.mem_cons_of_mem _ (List.mem_append_left _ (List.mem_append_left _ (List.mem_append_left _ (List.mem_of_getElem? (i := 2) rfl)))))
theorem kX5_rate_3 : Cond.fieldLink RX5 144 "SavingsCircle$State" "paidForItself" "[I" ∈ wsX5_rate := (List.mem_cons_of_mem _ (List.mem_append_left _ (List.mem_append_left _ (List.mem_append_left _ (List.mem_of_getElem? (i := 3) rfl)))))
theorem kX5_rate_4 : Cond.fieldLink RX5 147 "SavingsCircle$State" "paidForOthers" "[I" ∈ wsX5_rate := (List.mem_cons_of_mem _ (List.mem_append_left _ (List.mem_append_left _ (List.mem_append_left _ (List.mem_of_getElem? (i := 4) rfl)))))
theorem iwX5_rate_X5 : ∀ w ∈ wsX50, w ∈ wsX5_rate := fun w h => (List.mem_cons_of_mem _ (List.mem_append_left _ (List.mem_append_left _ (List.mem_append_right _ h))))
theorem iwX5_rate_X3 : ∀ w ∈ wsX30, w ∈ wsX5_rate := fun w h => (List.mem_cons_of_mem _ (List.mem_append_left _ (List.mem_append_right _ h)))
set_option maxHeartbeats 4000000 in
set_option maxRecDepth 100000 in
theorem c_X5_rate (l : Launch) (hl0 : l.stackTraces = false) (G : uG) (a0 : Nat → Nat) (a1 : Nat → Nat) (a2 : Nat → Nat) (a3 : Nat → Nat) (a4 : Nat → Nat) (a5 : Nat → Nat) (a6 : Nat → Nat) (a7 : Nat → Nat → Nat) (a8 : Nat → Nat) (a9 : Nat → Nat) (a10 : Nat → Nat) (a11 : Nat → Nat) (v1 : StV) (i1 : Int32) {q : (Int32 × (Unit)) ⊕ (String × (Unit))} (hf : f_X5_rate v1 i1 = some q) : mX l yX5_rate wsX5_rate ({ frames := 7, cells := 1, slots := 6, locals := 113 } : Room) G [.ref (a0 0), .int i1] [maW a0 (a1 0) (a2 0) (a3 0) (a4 0) (a7 0 0) (a8 0) (a9 0) (a9 1), stW G a1 v1] (om (fun (w9 : Unit) => [maW a0 (a1 0) (a2 0) (a3 0) (a4 0) (a7 0 0) (a8 0) (a9 0) (a9 1), stW G a1 v1]) q) (qIx G (om (fun (w9 : Unit) => [maW a0 (a1 0) (a2 0) (a3 0) (a4 0) (a7 0 0) (a8 0) (a9 0) (a9 1), stW G a1 v1]) q)) 1 6 := by
  unfold f_X5_rate at hf
  refine mX_of (cc := cX5_rate) (maxL := 4) (ret := (some .int)) (by decide) rfl (om_gad (fun _ => rfl)) (Nat.le_of_ble_eq_true rfl) ?_
  intro p e s m args below meth c A ls S hK hA hex hTH hP hD hS hl
  obtain ⟨hx, hb, hml, hown, hts, hr, hlocks⟩ := id S
  have hl : lv_has ls 4 [(0, .ref (a0 0)), (1, .int i1)] := hl
  refine lv_aload_n hx hb dX5_rate_0 rfl (lv_at hl 0 rfl) ?_
  refine lv_iload_n hx hb dX5_rate_1 rfl (lv_at hl 1 rfl) ?_
  obtain ⟨q1, hq1, hf⟩ := bx_some hf
  refine g_callXVv S (cells' := 1) (slots' := 6) (As := [.int i1]) (c_X5_requireMember l hl0 G a0 a1 a2 a3 a4 a5 a6 a7 a8 a9 a10 a11 v1 i1 hq1) (cwV 1 hts gX5_rate_X5_requireMember rfl rfl rfl hd_X5_requireMember ⟨Nat.le_of_ble_eq_true rfl, Nat.le_of_ble_eq_true rfl⟩) hTH hK hP hD hS hA (is := [0, 1]) rfl rfl 0 rfl rfl rfl rfl hl.1 rfl (Nat.le_of_ble_eq_true rfl) dX5_rate_2 ⟨Nat.le_of_ble_eq_true rfl, Nat.le_of_ble_eq_true rfl⟩ rfl rfl (fun u ho H locs hP hD hS => ?_) (fun E u ho ce q9 H locs hP hD hS hce hcv hcl => by obtain ⟨r9, rfl, rfl, rfl⟩ := om_r ho; have hf := bxe_r hf; subst hf; exact g_xout hex hlocks hce hcv hcl rfl (Nat.le_of_ble_eq_true rfl) (Nat.le_of_ble_eq_true rfl) hP hS)
  obtain ⟨r2, rfl, -, rfl⟩ := om_l ho
  have hf := bxe_l hf
  have hP : gP G [maW a0 (a1 0) (a2 0) (a3 0) (a4 0) (a7 0 0) (a8 0) (a9 0) (a9 1), stW G a1 v1] H := hP
  have hD : gD A [maW a0 (a1 0) (a2 0) (a3 0) (a4 0) (a7 0 0) (a8 0) (a9 0) (a9 1), stW G a1 v1] := hD
  refine lv_aload_n hx hb dX5_rate_5 rfl (lv_at hl 0 rfl) ?_
  refine g_get (C := RX5) (T := TX5) (N := 8) hx hb hts iwX5_rate_X5 hown hK hP 0 0 rfl rfl rfl 0 (Nat.le_of_ble_eq_true rfl) (hts _ kX5_rate_0) (fun _ h9 => h9) rfl dX5_rate_6 ?_
  refine g_get (C := RX3) (T := TX3) (N := 17) hx hb hts iwX5_rate_X3 hown hK hP 1 0 rfl rfl rfl 13 (Nat.le_of_ble_eq_true rfl) (hts _ kX5_rate_1) (fun _ h9 => h9) rfl dX5_rate_9 ?_
  refine lv_iload_n hx hb dX5_rate_12 rfl (lv_at hl 1 rfl) ?_
  obtain ⟨h4, hf⟩ := gi_some hf
  refine g_iald hx hb hK hP 1 9 0 rfl rfl rfl h4 dX5_rate_13 ?_
  refine lv_aload_n hx hb dX5_rate_14 rfl (lv_at hl 0 rfl) ?_
  refine g_get (C := RX5) (T := TX5) (N := 8) hx hb hts iwX5_rate_X5 hown hK hP 0 0 rfl rfl rfl 0 (Nat.le_of_ble_eq_true rfl) (hts _ kX5_rate_0) (fun _ h9 => h9) rfl dX5_rate_15 ?_
  refine g_get (C := RX3) (T := TX3) (N := 17) hx hb hts iwX5_rate_X3 hown hK hP 1 0 rfl rfl rfl 14 (Nat.le_of_ble_eq_true rfl) (hts _ kX5_rate_2) (fun _ h9 => h9) rfl dX5_rate_18 ?_
  refine lv_iload_n hx hb dX5_rate_21 rfl (lv_at hl 1 rfl) ?_
  obtain ⟨h5, hf⟩ := gi_some hf
  refine g_iald hx hb hK hP 1 10 0 rfl rfl rfl h5 dX5_rate_22 ?_
  refine lv_iadd hx hb dX5_rate_23 ?_
  obtain ⟨x6, ex6, hf⟩ := lt_some hf
  refine lv_nmi ex6 ?_
  refine lv_istore_n (lv' := [(2, .int x6), (0, .ref (a0 0)), (1, .int i1)]) hx hb dX5_rate_24 rfl hl (by decide) rfl (fun ls hl => ?_)
  refine lv_aload_n hx hb dX5_rate_25 rfl (lv_at hl 1 rfl) ?_
  refine g_get (C := RX5) (T := TX5) (N := 8) hx hb hts iwX5_rate_X5 hown hK hP 0 0 rfl rfl rfl 0 (Nat.le_of_ble_eq_true rfl) (hts _ kX5_rate_0) (fun _ h9 => h9) rfl dX5_rate_26 ?_
  refine g_get (C := RX3) (T := TX3) (N := 17) hx hb hts iwX5_rate_X3 hown hK hP 1 0 rfl rfl rfl 11 (Nat.le_of_ble_eq_true rfl) (hts _ kX5_rate_3) (fun _ h9 => h9) rfl dX5_rate_29 ?_
  refine lv_iload_n hx hb dX5_rate_32 rfl (lv_at hl 2 rfl) ?_
  obtain ⟨h7, hf⟩ := gi_some hf
  refine g_iald hx hb hK hP 1 7 0 rfl rfl rfl h7 dX5_rate_33 ?_
  refine lv_aload_n hx hb dX5_rate_34 rfl (lv_at hl 1 rfl) ?_
  refine g_get (C := RX5) (T := TX5) (N := 8) hx hb hts iwX5_rate_X5 hown hK hP 0 0 rfl rfl rfl 0 (Nat.le_of_ble_eq_true rfl) (hts _ kX5_rate_0) (fun _ h9 => h9) rfl dX5_rate_35 ?_
  refine g_get (C := RX3) (T := TX3) (N := 17) hx hb hts iwX5_rate_X3 hown hK hP 1 0 rfl rfl rfl 12 (Nat.le_of_ble_eq_true rfl) (hts _ kX5_rate_4) (fun _ h9 => h9) rfl dX5_rate_38 ?_
  refine lv_iload_n hx hb dX5_rate_41 rfl (lv_at hl 2 rfl) ?_
  obtain ⟨h8, hf⟩ := gi_some hf
  refine g_iald hx hb hK hP 1 8 0 rfl rfl rfl h8 dX5_rate_42 ?_
  refine lv_iadd hx hb dX5_rate_43 ?_
  obtain ⟨x9, ex9, hf⟩ := lt_some hf
  refine lv_nmi ex9 ?_
  refine lv_istore_n (lv' := [(3, .int x9), (2, .int x6), (0, .ref (a0 0)), (1, .int i1)]) hx hb dX5_rate_44 rfl hl (by decide) rfl (fun ls hl => ?_)
  refine lv_iload_n hx hb dX5_rate_45 rfl (lv_at hl 0 rfl) ?_
  refine lv_if_ne (tgt := 51) hx hb dX5_rate_46 (by decide) (fun c10 => ?_) (fun c10 => ?_)
  · rw [if_neg c10] at hf
    refine lv_iload_n hx hb dX5_rate_51 rfl (lv_at hl 1 rfl) ?_
    refine lv_i2f hx hb dX5_rate_52 ?_
    refine lv_iload_n hx hb dX5_rate_53 rfl (lv_at hl 0 rfl) ?_
    refine lv_i2f hx hb dX5_rate_54 ?_
    obtain ⟨h11, hf⟩ := gnan_some hf
    refine lv_fdiv hx hb dX5_rate_55 h11 ?_
    obtain ⟨q12, hq12, hf⟩ := bd_some hf
    refine g_callSi S (As := [.float (FP.fdiv (FP.i2f x6) (FP.i2f x9))]) (gs' := [maW a0 (a1 0) (a2 0) (a3 0) (a4 0) (a7 0 0) (a8 0) (a9 0) (a9 1), stW G a1 v1]) (c_X5_bitsOf l G (FP.fdiv (FP.i2f x6) (FP.i2f x9)) hq12) (va_cwS 1 hts gX5_rate_X5_bitsOf rfl rfl rfl hd_X5_bitsOf.2 ⟨Nat.le_of_ble_eq_true rfl, Nat.le_of_ble_eq_true rfl⟩) hK hP hD hS hA (is := []) rfl rfl rfl hl.1 rfl (Nat.le_of_ble_eq_true rfl) dX5_rate_56 ⟨Nat.le_of_ble_eq_true rfl, Nat.le_of_ble_eq_true rfl⟩ rfl (fun H locs hP hD hS => ?_)
    cases hf
    exact g_xiret hx hb hr hlocks rfl (Nat.le_of_ble_eq_true rfl) (Nat.le_of_ble_eq_true rfl) hP hS dX5_rate_59
  · rw [if_pos c10] at hf
    refine lv_iconst (v := (0:Int32)) hx hb dX5_rate_49 (by decide) ?_
    cases hf
    exact g_xiret hx hb hr hlocks rfl (Nat.le_of_ble_eq_true rfl) (Nat.le_of_ble_eq_true rfl) hP hS dX5_rate_50
theorem kX5_addMember_0 : Cond.fieldLink RX5 10 "SavingsCircle" "now" "LSavingsCircle$State;" ∈ wsX5_addMember := (List.mem_cons_of_mem _ (List.mem_append_left _ (List.mem_append_left _ (List.mem_append_left _ (List.mem_append_left _ (List.mem_append_left _ (List.mem_append_left _ (List.mem_of_getElem? (i := 2) rfl))))))))
theorem kX5_addMember_1 : Cond.fieldLink RX5 88 "SavingsCircle$State" "count" "I" ∈ wsX5_addMember := (List.mem_cons_of_mem _ (List.mem_append_left _ (List.mem_append_left _ (List.mem_append_left _ (List.mem_append_left _ (List.mem_append_left _ (List.mem_append_left _ (List.mem_of_getElem? (i := 3) rfl))))))))
theorem kX5_addMember_2 : Cond.fieldLink RX5 36 "SavingsCircle" "past" "LSavingsCircle$Past;" ∈ wsX5_addMember := (List.mem_cons_of_mem _ (List.mem_append_left _ (List.mem_append_left _ (List.mem_append_left _ (List.mem_append_left _ (List.mem_append_left _ (List.mem_append_left _ (List.mem_of_getElem? (i := 4) rfl))))))))
theorem kX5_addMember_3 : Cond.classLink RX5 63 "java/lang/IllegalStateException" ∈ wsX5_addMember := (List.mem_cons_of_mem _ (List.mem_append_left _ (List.mem_append_left _ (List.mem_append_left _ (List.mem_append_left _ (List.mem_append_left _ (List.mem_append_left _ (List.mem_of_getElem? (i := 0) rfl))))))))
theorem kX5_addMember_4 : Cond.initialized "java/lang/IllegalStateException" ∈ wsX5_addMember := (List.mem_cons_of_mem _ (List.mem_append_left _ (List.mem_append_left _ (List.mem_append_left _ (List.mem_append_left _ (List.mem_append_left _ (List.mem_append_left _ (List.mem_of_getElem? (i := 1) rfl))))))))
theorem iwX5_addMember_X5 : ∀ w ∈ wsX50, w ∈ wsX5_addMember := fun w h => (List.mem_cons_of_mem _ (List.mem_append_left _ (List.mem_append_left _ (List.mem_append_left _ (List.mem_append_left _ (List.mem_append_right _ h))))))
theorem iwX5_addMember_X3 : ∀ w ∈ wsX30, w ∈ wsX5_addMember := fun w h => (List.mem_cons_of_mem _ (List.mem_append_left _ (List.mem_append_left _ (List.mem_append_left _ (List.mem_append_right _ h)))))
theorem atX5_addMember_67 : ∀ w ∈ (vx_atS RX5 67 "java/lang/IllegalStateException" ["java/lang/RuntimeException", "java/lang/Exception"]).filter goodWord, w ∈ wsX5_addMember := fun w h => (List.mem_cons_of_mem _ (List.mem_append_left _ (List.mem_append_right _ h)))
set_option maxHeartbeats 4000000 in
set_option maxRecDepth 100000 in
theorem c_X5_addMember (l : Launch) (hl0 : l.stackTraces = false) (G : uG) (a0 : Nat → Nat) (a1 : Nat → Nat) (a2 : Nat → Nat) (a3 : Nat → Nat) (a4 : Nat → Nat) (a5 : Nat → Nat) (a6 : Nat → Nat) (a7 : Nat → Nat → Nat) (a8 : Nat → Nat) (a9 : Nat → Nat) (a10 : Nat → Nat) (a11 : Nat → Nat) (v1 : StV) (v7 : PaV) (i1 : Int32) {q : (Int32 × (StV × PaV)) ⊕ (String × (StV × PaV))} (hf : f_X5_addMember v1 v7 i1 = some q) : mX l yX5_addMember wsX5_addMember ({ frames := 7, cells := 2, slots := 12, locals := 114 } : Room) G [.ref (a0 0), .int i1] [maW a0 (a1 0) (a2 0) (a3 0) (a4 0) (a7 0 0) (a8 0) (a9 0) (a9 1), stW G a1 v1, paW G a7 v7] (om (fun (w9 : StV × PaV) => [maW a0 (a1 0) (a2 0) (a3 0) (a4 0) (a7 0 0) (a8 0) (a9 0) (a9 1), stW G a1 w9.1, paW G a7 w9.2]) q) (qIx G (om (fun (w9 : StV × PaV) => [maW a0 (a1 0) (a2 0) (a3 0) (a4 0) (a7 0 0) (a8 0) (a9 0) (a9 1), stW G a1 w9.1, paW G a7 w9.2]) q)) 2 12 := by
  unfold f_X5_addMember at hf
  refine mX_of (cc := cX5_addMember) (maxL := 2) (ret := (some .int)) (by decide) rfl (om_gad (fun _ => rfl)) (Nat.le_of_ble_eq_true rfl) ?_
  intro p e s m args below meth c A ls S hK hA hex hTH hP hD hS hl
  obtain ⟨hx, hb, hml, hown, hts, hr, hlocks⟩ := id S
  have hl : lv_has ls 2 [(0, .ref (a0 0)), (1, .int i1)] := hl
  refine lv_iload_n hx hb dX5_addMember_0 rfl (lv_at hl 1 rfl) ?_
  refine lv_iconst (v := (0:Int32)) hx hb dX5_addMember_1 (by decide) ?_
  refine lv_sipush (v := (999:Int32)) hx hb dX5_addMember_2 (by decide) ?_
  obtain ⟨q1, hq1, hf⟩ := bx_some hf
  refine g_callXSv S (cells' := 1) (slots' := 6) (As := [.int i1, .int (0:Int32), .int (999:Int32)]) (c_X5_requireRange l hl0 G i1 (0:Int32) (999:Int32) hq1) (va_cwS 3 hts gX5_addMember_X5_requireRange rfl rfl rfl hd_X5_requireRange.2 ⟨Nat.le_of_ble_eq_true rfl, Nat.le_of_ble_eq_true rfl⟩) hTH hK hP hD hS hA (is := []) rfl rfl rfl hl.1 rfl (Nat.le_of_ble_eq_true rfl) dX5_addMember_5 ⟨Nat.le_of_ble_eq_true rfl, Nat.le_of_ble_eq_true rfl⟩ rfl rfl (fun u ho H locs hP hD hS => ?_) (fun E u ho ce q9 H locs hP hD hS hce hcv hcl => by obtain ⟨r9, rfl, rfl, rfl⟩ := om_r ho; have hf := bxe_r hf; subst hf; exact g_xout hex hlocks hce hcv hcl rfl (Nat.le_of_ble_eq_true rfl) (Nat.le_of_ble_eq_true rfl) hP hS)
  obtain ⟨r2, rfl, -, rfl⟩ := om_l ho
  have hf := bxe_l hf
  have hP : gP G [maW a0 (a1 0) (a2 0) (a3 0) (a4 0) (a7 0 0) (a8 0) (a9 0) (a9 1), stW G a1 v1, paW G a7 v7] H := hP
  have hD : gD A [maW a0 (a1 0) (a2 0) (a3 0) (a4 0) (a7 0 0) (a8 0) (a9 0) (a9 1), stW G a1 v1, paW G a7 v7] := hD
  refine lv_aload_n hx hb dX5_addMember_8 rfl (lv_at hl 0 rfl) ?_
  refine g_get (C := RX5) (T := TX5) (N := 8) hx hb hts iwX5_addMember_X5 hown hK hP 0 0 rfl rfl rfl 0 (Nat.le_of_ble_eq_true rfl) (hts _ kX5_addMember_0) (fun _ h9 => h9) rfl dX5_addMember_9 ?_
  refine g_get (C := RX3) (T := TX3) (N := 17) hx hb hts iwX5_addMember_X3 hown hK hP 1 0 rfl rfl rfl 0 (Nat.le_of_ble_eq_true rfl) (hts _ kX5_addMember_1) (fun _ h9 => h9) rfl dX5_addMember_12 ?_
  refine lv_bipush (v := (8:Int32)) hx hb dX5_addMember_15 (by decide) ?_
  refine lv_icmp_lt (tgt := 30) hx hb dX5_addMember_17 (by decide) (fun c4 => ?_) (fun c4 => ?_)
  · rw [if_pos c4] at hf
    refine lv_aload_n hx hb dX5_addMember_30 rfl (lv_at hl 0 rfl) ?_
    refine g_get (C := RX5) (T := TX5) (N := 8) hx hb hts iwX5_addMember_X5 hown hK hP 0 0 rfl rfl rfl 4 (Nat.le_of_ble_eq_true rfl) (hts _ kX5_addMember_2) (fun _ h9 => h9) rfl dX5_addMember_31 ?_
    refine lv_aload_n hx hb dX5_addMember_34 rfl (lv_at hl 0 rfl) ?_
    refine g_get (C := RX5) (T := TX5) (N := 8) hx hb hts iwX5_addMember_X5 hown hK hP 0 0 rfl rfl rfl 0 (Nat.le_of_ble_eq_true rfl) (hts _ kX5_addMember_0) (fun _ h9 => h9) rfl dX5_addMember_35 ?_
    obtain ⟨q5, hq5, hf⟩ := bd_some hf
    refine g_callVv S (As := [.ref (a1 0)]) (gs' := [maW a0 (a1 0) (a2 0) (a3 0) (a4 0) (a7 0 0) (a8 0) (a9 0) (a9 1), stW G a1 v1, paW G a7 q5.2]) (c_X0_remember l G a7 a1 v7 v1 hq5) (cwV 1 hts gX5_addMember_X0_remember rfl rfl rfl hd_X0_remember ⟨Nat.le_of_ble_eq_true rfl, Nat.le_of_ble_eq_true rfl⟩) hK hP hD hS hA (is := [2, 1]) rfl rfl 2 rfl rfl rfl rfl hl.1 rfl (Nat.le_of_ble_eq_true rfl) dX5_addMember_38 ⟨Nat.le_of_ble_eq_true rfl, Nat.le_of_ble_eq_true rfl⟩ rfl (fun H locs hP hD hS => ?_)
    refine lv_aload_n hx hb dX5_addMember_41 rfl (lv_at hl 0 rfl) ?_
    refine g_get (C := RX5) (T := TX5) (N := 8) hx hb hts iwX5_addMember_X5 hown hK hP 0 0 rfl rfl rfl 0 (Nat.le_of_ble_eq_true rfl) (hts _ kX5_addMember_0) (fun _ h9 => h9) rfl dX5_addMember_42 ?_
    refine lv_iload_n hx hb dX5_addMember_45 rfl (lv_at hl 1 rfl) ?_
    obtain ⟨q6, hq6, hf⟩ := bd_some hf
    refine g_callVi S (As := [.int i1]) (gs' := [maW a0 (a1 0) (a2 0) (a3 0) (a4 0) (a7 0 0) (a8 0) (a9 0) (a9 1), stW G a1 q6.2, paW G a7 q5.2]) (c_X3_join l G a1 v1 i1 hq6) (cwV 1 hts gX5_addMember_X3_join rfl rfl rfl hd_X3_join ⟨Nat.le_of_ble_eq_true rfl, Nat.le_of_ble_eq_true rfl⟩) hK hP hD hS hA (is := [1]) rfl rfl 1 rfl rfl rfl rfl hl.1 rfl (Nat.le_of_ble_eq_true rfl) dX5_addMember_46 ⟨Nat.le_of_ble_eq_true rfl, Nat.le_of_ble_eq_true rfl⟩ rfl (fun H locs hP hD hS => ?_)
    cases hf
    exact g_xiret hx hb hr hlocks rfl (Nat.le_of_ble_eq_true rfl) (Nat.le_of_ble_eq_true rfl) hP hS dX5_addMember_49
  · rw [if_neg c4] at hf
    cases hf
    exact g_throw S (cls := "java/lang/IllegalStateException") (text := "the circle is full") (names := ["java/lang/RuntimeException", "java/lang/Exception"]) rfl hex hl0 hTH vf_IllegalStateException vf_names (hts _ kX5_addMember_3) (hts _ kX5_addMember_4) (List.mem_of_getElem? (i := 4) rfl) atX5_addMember_67 vg_RX5_67 vh_RX5_67 dX5_addMember_20 dX5_addMember_23 dX5_addMember_24 dX5_addMember_26 dX5_addMember_29 (Nat.le_of_ble_eq_true rfl) (Nat.le_of_ble_eq_true rfl) (Nat.le_of_ble_eq_true rfl) (Nat.le_of_ble_eq_true rfl) (Nat.le_of_ble_eq_true rfl) (Nat.le_of_ble_eq_true rfl) hl.1 rfl hP hS
theorem kX5_setContribution_0 : Cond.fieldLink RX5 36 "SavingsCircle" "past" "LSavingsCircle$Past;" ∈ wsX5_setContribution := (List.mem_cons_of_mem _ (List.mem_append_left _ (List.mem_append_left _ (List.mem_append_left _ (List.mem_append_left _ (List.mem_append_left _ (List.mem_of_getElem? (i := 0) rfl)))))))
theorem kX5_setContribution_1 : Cond.fieldLink RX5 10 "SavingsCircle" "now" "LSavingsCircle$State;" ∈ wsX5_setContribution := (List.mem_cons_of_mem _ (List.mem_append_left _ (List.mem_append_left _ (List.mem_append_left _ (List.mem_append_left _ (List.mem_append_left _ (List.mem_of_getElem? (i := 1) rfl)))))))
theorem kX5_setContribution_2 : Cond.fieldLink RX5 98 "SavingsCircle$State" "contribution" "I" ∈ wsX5_setContribution := (List.mem_cons_of_mem _ (List.mem_append_left _ (List.mem_append_left _ (List.mem_append_left _ (List.mem_append_left _ (List.mem_append_left _ (List.mem_of_getElem? (i := 2) rfl)))))))
theorem iwX5_setContribution_X5 : ∀ w ∈ wsX50, w ∈ wsX5_setContribution := fun w h => (List.mem_cons_of_mem _ (List.mem_append_left _ (List.mem_append_left _ (List.mem_append_left _ (List.mem_append_right _ h)))))
theorem iwX5_setContribution_X3 : ∀ w ∈ wsX30, w ∈ wsX5_setContribution := fun w h => (List.mem_cons_of_mem _ (List.mem_append_left _ (List.mem_append_left _ (List.mem_append_right _ h))))
set_option maxHeartbeats 4000000 in
set_option maxRecDepth 100000 in
theorem c_X5_setContribution (l : Launch) (hl0 : l.stackTraces = false) (G : uG) (a0 : Nat → Nat) (a1 : Nat → Nat) (a2 : Nat → Nat) (a3 : Nat → Nat) (a4 : Nat → Nat) (a5 : Nat → Nat) (a6 : Nat → Nat) (a7 : Nat → Nat → Nat) (a8 : Nat → Nat) (a9 : Nat → Nat) (a10 : Nat → Nat) (a11 : Nat → Nat) (v1 : StV) (v7 : PaV) (i1 : Int32) {q : (Int32 × (StV × PaV)) ⊕ (String × (StV × PaV))} (hf : f_X5_setContribution v1 v7 i1 = some q) : mX l yX5_setContribution wsX5_setContribution ({ frames := 7, cells := 1, slots := 6, locals := 114 } : Room) G [.ref (a0 0), .int i1] [maW a0 (a1 0) (a2 0) (a3 0) (a4 0) (a7 0 0) (a8 0) (a9 0) (a9 1), stW G a1 v1, paW G a7 v7] (om (fun (w9 : StV × PaV) => [maW a0 (a1 0) (a2 0) (a3 0) (a4 0) (a7 0 0) (a8 0) (a9 0) (a9 1), stW G a1 w9.1, paW G a7 w9.2]) q) (qIx G (om (fun (w9 : StV × PaV) => [maW a0 (a1 0) (a2 0) (a3 0) (a4 0) (a7 0 0) (a8 0) (a9 0) (a9 1), stW G a1 w9.1, paW G a7 w9.2]) q)) 1 6 := by
  unfold f_X5_setContribution at hf
  refine mX_of (cc := cX5_setContribution) (maxL := 3) (ret := (some .int)) (by decide) rfl (om_gad (fun _ => rfl)) (Nat.le_of_ble_eq_true rfl) ?_
  intro p e s m args below meth c A ls S hK hA hex hTH hP hD hS hl
  obtain ⟨hx, hb, hml, hown, hts, hr, hlocks⟩ := id S
  have hl : lv_has ls 3 [(0, .ref (a0 0)), (1, .int i1)] := hl
  refine lv_iload_n hx hb dX5_setContribution_0 rfl (lv_at hl 1 rfl) ?_
  refine lv_iconst (v := (1:Int32)) hx hb dX5_setContribution_1 (by decide) ?_
  refine lv_bipush (v := (50:Int32)) hx hb dX5_setContribution_2 (by decide) ?_
  obtain ⟨q1, hq1, hf⟩ := bx_some hf
  refine g_callXSv S (cells' := 1) (slots' := 6) (As := [.int i1, .int (1:Int32), .int (50:Int32)]) (c_X5_requireRange l hl0 G i1 (1:Int32) (50:Int32) hq1) (va_cwS 3 hts gX5_setContribution_X5_requireRange rfl rfl rfl hd_X5_requireRange.2 ⟨Nat.le_of_ble_eq_true rfl, Nat.le_of_ble_eq_true rfl⟩) hTH hK hP hD hS hA (is := []) rfl rfl rfl hl.1 rfl (Nat.le_of_ble_eq_true rfl) dX5_setContribution_4 ⟨Nat.le_of_ble_eq_true rfl, Nat.le_of_ble_eq_true rfl⟩ rfl rfl (fun u ho H locs hP hD hS => ?_) (fun E u ho ce q9 H locs hP hD hS hce hcv hcl => by obtain ⟨r9, rfl, rfl, rfl⟩ := om_r ho; have hf := bxe_r hf; subst hf; exact g_xout hex hlocks hce hcv hcl rfl (Nat.le_of_ble_eq_true rfl) (Nat.le_of_ble_eq_true rfl) hP hS)
  obtain ⟨r2, rfl, -, rfl⟩ := om_l ho
  have hf := bxe_l hf
  have hP : gP G [maW a0 (a1 0) (a2 0) (a3 0) (a4 0) (a7 0 0) (a8 0) (a9 0) (a9 1), stW G a1 v1, paW G a7 v7] H := hP
  have hD : gD A [maW a0 (a1 0) (a2 0) (a3 0) (a4 0) (a7 0 0) (a8 0) (a9 0) (a9 1), stW G a1 v1, paW G a7 v7] := hD
  refine lv_aload_n hx hb dX5_setContribution_7 rfl (lv_at hl 0 rfl) ?_
  refine g_get (C := RX5) (T := TX5) (N := 8) hx hb hts iwX5_setContribution_X5 hown hK hP 0 0 rfl rfl rfl 4 (Nat.le_of_ble_eq_true rfl) (hts _ kX5_setContribution_0) (fun _ h9 => h9) rfl dX5_setContribution_8 ?_
  refine lv_aload_n hx hb dX5_setContribution_11 rfl (lv_at hl 0 rfl) ?_
  refine g_get (C := RX5) (T := TX5) (N := 8) hx hb hts iwX5_setContribution_X5 hown hK hP 0 0 rfl rfl rfl 0 (Nat.le_of_ble_eq_true rfl) (hts _ kX5_setContribution_1) (fun _ h9 => h9) rfl dX5_setContribution_12 ?_
  obtain ⟨q4, hq4, hf⟩ := bd_some hf
  refine g_callVv S (As := [.ref (a1 0)]) (gs' := [maW a0 (a1 0) (a2 0) (a3 0) (a4 0) (a7 0 0) (a8 0) (a9 0) (a9 1), stW G a1 v1, paW G a7 q4.2]) (c_X0_remember l G a7 a1 v7 v1 hq4) (cwV 1 hts gX5_setContribution_X0_remember rfl rfl rfl hd_X0_remember ⟨Nat.le_of_ble_eq_true rfl, Nat.le_of_ble_eq_true rfl⟩) hK hP hD hS hA (is := [2, 1]) rfl rfl 2 rfl rfl rfl rfl hl.1 rfl (Nat.le_of_ble_eq_true rfl) dX5_setContribution_15 ⟨Nat.le_of_ble_eq_true rfl, Nat.le_of_ble_eq_true rfl⟩ rfl (fun H locs hP hD hS => ?_)
  refine lv_aload_n hx hb dX5_setContribution_18 rfl (lv_at hl 0 rfl) ?_
  refine g_get (C := RX5) (T := TX5) (N := 8) hx hb hts iwX5_setContribution_X5 hown hK hP 0 0 rfl rfl rfl 0 (Nat.le_of_ble_eq_true rfl) (hts _ kX5_setContribution_1) (fun _ h9 => h9) rfl dX5_setContribution_19 ?_
  refine g_get (C := RX3) (T := TX3) (N := 17) hx hb hts iwX5_setContribution_X3 hown hK hP 1 0 rfl rfl rfl 2 (Nat.le_of_ble_eq_true rfl) (hts _ kX5_setContribution_2) (fun _ h9 => h9) rfl dX5_setContribution_22 ?_
  obtain ⟨x5, ex5, hf⟩ := lt_some hf
  refine lv_nmi ex5 ?_
  refine lv_istore_n (lv' := [(2, .int x5), (0, .ref (a0 0)), (1, .int i1)]) hx hb dX5_setContribution_25 rfl hl (by decide) rfl (fun ls hl => ?_)
  refine lv_aload_n hx hb dX5_setContribution_26 rfl (lv_at hl 1 rfl) ?_
  refine g_get (C := RX5) (T := TX5) (N := 8) hx hb hts iwX5_setContribution_X5 hown hK hP 0 0 rfl rfl rfl 0 (Nat.le_of_ble_eq_true rfl) (hts _ kX5_setContribution_1) (fun _ h9 => h9) rfl dX5_setContribution_27 ?_
  refine lv_iload_n hx hb dX5_setContribution_30 rfl (lv_at hl 2 rfl) ?_
  obtain ⟨u6, eu6, hf⟩ := lt_some hf
  refine g_put (ty := .int) (C := RX3) (T := TX3) (N := 17) (gs' := [maW a0 (a1 0) (a2 0) (a3 0) (a4 0) (a7 0 0) (a8 0) (a9 0) (a9 1), stW G a1 u6, paW G a7 q4.2]) hx hb hts iwX5_setContribution_X3 tyX3 tyX3_ok nmX3 hown hK hP hD hS 1 0 rfl rfl rfl 2 (Nat.le_of_ble_eq_true rfl) (hts _ kX5_setContribution_2) (fun _ h9 => h9) rfl (by decide +kernel) rfl rfl (Nat.le_of_ble_eq_true rfl) dX5_setContribution_31 (by rw [eu6]; rfl) (fun H locs hP hD hS => ?_)
  refine lv_iload_n hx hb dX5_setContribution_34 rfl (lv_at hl 0 rfl) ?_
  cases hf
  exact g_xiret hx hb hr hlocks rfl (Nat.le_of_ble_eq_true rfl) (Nat.le_of_ble_eq_true rfl) hP hS dX5_setContribution_35
theorem kX5_setGuarantor_0 : Cond.constant RX5 78 (-99999) ∈ wsX5_setGuarantor := (List.mem_cons_of_mem _ (List.mem_append_left _ (List.mem_append_left _ (List.mem_append_left _ (List.mem_append_left _ (List.mem_append_left _ (List.mem_append_left _ (List.mem_of_getElem? (i := 0) rfl))))))))
theorem kX5_setGuarantor_1 : Cond.fieldLink RX5 36 "SavingsCircle" "past" "LSavingsCircle$Past;" ∈ wsX5_setGuarantor := (List.mem_cons_of_mem _ (List.mem_append_left _ (List.mem_append_left _ (List.mem_append_left _ (List.mem_append_left _ (List.mem_append_left _ (List.mem_append_left _ (List.mem_of_getElem? (i := 1) rfl))))))))
theorem kX5_setGuarantor_2 : Cond.fieldLink RX5 10 "SavingsCircle" "now" "LSavingsCircle$State;" ∈ wsX5_setGuarantor := (List.mem_cons_of_mem _ (List.mem_append_left _ (List.mem_append_left _ (List.mem_append_left _ (List.mem_append_left _ (List.mem_append_left _ (List.mem_append_left _ (List.mem_of_getElem? (i := 2) rfl))))))))
theorem kX5_setGuarantor_3 : Cond.fieldLink RX5 129 "SavingsCircle$State" "guarantor" "[I" ∈ wsX5_setGuarantor := (List.mem_cons_of_mem _ (List.mem_append_left _ (List.mem_append_left _ (List.mem_append_left _ (List.mem_append_left _ (List.mem_append_left _ (List.mem_append_left _ (List.mem_of_getElem? (i := 3) rfl))))))))
theorem iwX5_setGuarantor_X5 : ∀ w ∈ wsX50, w ∈ wsX5_setGuarantor := fun w h => (List.mem_cons_of_mem _ (List.mem_append_left _ (List.mem_append_left _ (List.mem_append_left _ (List.mem_append_left _ (List.mem_append_right _ h))))))
theorem iwX5_setGuarantor_X3 : ∀ w ∈ wsX30, w ∈ wsX5_setGuarantor := fun w h => (List.mem_cons_of_mem _ (List.mem_append_left _ (List.mem_append_left _ (List.mem_append_left _ (List.mem_append_right _ h)))))
set_option maxHeartbeats 4000000 in
set_option maxRecDepth 100000 in
theorem c_X5_setGuarantor (l : Launch) (hl0 : l.stackTraces = false) (G : uG) (a0 : Nat → Nat) (a1 : Nat → Nat) (a2 : Nat → Nat) (a3 : Nat → Nat) (a4 : Nat → Nat) (a5 : Nat → Nat) (a6 : Nat → Nat) (a7 : Nat → Nat → Nat) (a8 : Nat → Nat) (a9 : Nat → Nat) (a10 : Nat → Nat) (a11 : Nat → Nat) (v1 : StV) (v7 : PaV) (i1 : Int32) (i2 : Int32) {q : (Int32 × (StV × PaV)) ⊕ (String × (StV × PaV))} (hf : f_X5_setGuarantor v1 v7 i1 i2 = some q) : mX l yX5_setGuarantor wsX5_setGuarantor ({ frames := 8, cells := 4, slots := 24, locals := 135 } : Room) G [.ref (a0 0), .int i1, .int i2] [maW a0 (a1 0) (a2 0) (a3 0) (a4 0) (a7 0 0) (a8 0) (a9 0) (a9 1), stW G a1 v1, paW G a7 v7] (om (fun (w9 : StV × PaV) => [maW a0 (a1 0) (a2 0) (a3 0) (a4 0) (a7 0 0) (a8 0) (a9 0) (a9 1), stW G a1 w9.1, paW G a7 w9.2]) q) (qIx G (om (fun (w9 : StV × PaV) => [maW a0 (a1 0) (a2 0) (a3 0) (a4 0) (a7 0 0) (a8 0) (a9 0) (a9 1), stW G a1 w9.1, paW G a7 w9.2]) q)) 4 24 := by
  unfold f_X5_setGuarantor at hf
  refine mX_of (cc := cX5_setGuarantor) (maxL := 4) (ret := (some .int)) (by decide) rfl (om_gad (fun _ => rfl)) (Nat.le_of_ble_eq_true rfl) ?_
  intro p e s m args below meth c A ls S hK hA hex hTH hP hD hS hl
  obtain ⟨hx, hb, hml, hown, hts, hr, hlocks⟩ := id S
  have hl : lv_has ls 4 [(0, .ref (a0 0)), (1, .int i1), (2, .int i2)] := hl
  refine lv_iload_n hx hb dX5_setGuarantor_0 rfl (lv_at hl 2 rfl) ?_
  refine lv_ldc (v := (-99999:Int32)) hx hb hown (hts _ kX5_setGuarantor_0) dX5_setGuarantor_1 ?_
  refine lv_icmp_ne (tgt := 14) hx hb dX5_setGuarantor_3 (by decide) (fun c1 => ?_) (fun c1 => ?_)
  · rw [if_neg c1] at hf
    refine lv_aload_n hx hb dX5_setGuarantor_14 rfl (lv_at hl 0 rfl) ?_
    refine lv_iload_n hx hb dX5_setGuarantor_15 rfl (lv_at hl 1 rfl) ?_
    refine lv_iload_n hx hb dX5_setGuarantor_16 rfl (lv_at hl 2 rfl) ?_
    obtain ⟨q2, hq2, hf⟩ := bx_some hf
    refine g_callXVv S (cells' := 3) (slots' := 18) (As := [.int i1, .int i2]) (c_X5_requireTwoMembers l hl0 G a0 a1 a2 a3 a4 a5 a6 a7 a8 a9 a10 a11 v1 i1 i2 hq2) (cwV 2 hts gX5_setGuarantor_X5_requireTwoMembers rfl rfl rfl hd_X5_requireTwoMembers ⟨Nat.le_of_ble_eq_true rfl, Nat.le_of_ble_eq_true rfl⟩) hTH hK hP hD hS hA (is := [0, 1]) rfl rfl 0 rfl rfl rfl rfl hl.1 rfl (Nat.le_of_ble_eq_true rfl) dX5_setGuarantor_17 ⟨Nat.le_of_ble_eq_true rfl, Nat.le_of_ble_eq_true rfl⟩ rfl rfl (fun u ho H locs hP hD hS => ?_) (fun E u ho ce q9 H locs hP hD hS hce hcv hcl => by obtain ⟨r9, rfl, rfl, rfl⟩ := om_r ho; have hf := bxe_r hf; subst hf; exact g_xout hex hlocks hce hcv hcl rfl (Nat.le_of_ble_eq_true rfl) (Nat.le_of_ble_eq_true rfl) hP hS)
    obtain ⟨r3, rfl, -, rfl⟩ := om_l ho
    have hf := bxe_l hf
    have hP : gP G [maW a0 (a1 0) (a2 0) (a3 0) (a4 0) (a7 0 0) (a8 0) (a9 0) (a9 1), stW G a1 v1, paW G a7 v7] H := hP
    have hD : gD A [maW a0 (a1 0) (a2 0) (a3 0) (a4 0) (a7 0 0) (a8 0) (a9 0) (a9 1), stW G a1 v1, paW G a7 v7] := hD
    refine lv_aload_n hx hb dX5_setGuarantor_20 rfl (lv_at hl 0 rfl) ?_
    refine g_get (C := RX5) (T := TX5) (N := 8) hx hb hts iwX5_setGuarantor_X5 hown hK hP 0 0 rfl rfl rfl 4 (Nat.le_of_ble_eq_true rfl) (hts _ kX5_setGuarantor_1) (fun _ h9 => h9) rfl dX5_setGuarantor_21 ?_
    refine lv_aload_n hx hb dX5_setGuarantor_24 rfl (lv_at hl 0 rfl) ?_
    refine g_get (C := RX5) (T := TX5) (N := 8) hx hb hts iwX5_setGuarantor_X5 hown hK hP 0 0 rfl rfl rfl 0 (Nat.le_of_ble_eq_true rfl) (hts _ kX5_setGuarantor_2) (fun _ h9 => h9) rfl dX5_setGuarantor_25 ?_
    obtain ⟨q5, hq5, hf⟩ := bd_some hf
    refine g_callVv S (As := [.ref (a1 0)]) (gs' := [maW a0 (a1 0) (a2 0) (a3 0) (a4 0) (a7 0 0) (a8 0) (a9 0) (a9 1), stW G a1 v1, paW G a7 q5.2]) (c_X0_remember l G a7 a1 v7 v1 hq5) (cwV 1 hts gX5_setGuarantor_X0_remember rfl rfl rfl hd_X0_remember ⟨Nat.le_of_ble_eq_true rfl, Nat.le_of_ble_eq_true rfl⟩) hK hP hD hS hA (is := [2, 1]) rfl rfl 2 rfl rfl rfl rfl hl.1 rfl (Nat.le_of_ble_eq_true rfl) dX5_setGuarantor_28 ⟨Nat.le_of_ble_eq_true rfl, Nat.le_of_ble_eq_true rfl⟩ rfl (fun H locs hP hD hS => ?_)
    refine lv_aload_n hx hb dX5_setGuarantor_31 rfl (lv_at hl 0 rfl) ?_
    refine g_get (C := RX5) (T := TX5) (N := 8) hx hb hts iwX5_setGuarantor_X5 hown hK hP 0 0 rfl rfl rfl 0 (Nat.le_of_ble_eq_true rfl) (hts _ kX5_setGuarantor_2) (fun _ h9 => h9) rfl dX5_setGuarantor_32 ?_
    refine g_get (C := RX3) (T := TX3) (N := 17) hx hb hts iwX5_setGuarantor_X3 hown hK hP 1 0 rfl rfl rfl 6 (Nat.le_of_ble_eq_true rfl) (hts _ kX5_setGuarantor_3) (fun _ h9 => h9) rfl dX5_setGuarantor_35 ?_
    refine lv_iload_n hx hb dX5_setGuarantor_38 rfl (lv_at hl 1 rfl) ?_
    obtain ⟨h6, hf⟩ := gi_some hf
    refine g_iald hx hb hK hP 1 2 0 rfl rfl rfl h6 dX5_setGuarantor_39 ?_
    obtain ⟨x7, ex7, hf⟩ := lt_some hf
    refine lv_nmi ex7 ?_
    refine lv_istore_n (lv' := [(3, .int x7), (0, .ref (a0 0)), (1, .int i1), (2, .int i2)]) hx hb dX5_setGuarantor_40 rfl hl (by decide) rfl (fun ls hl => ?_)
    refine lv_aload_n hx hb dX5_setGuarantor_41 rfl (lv_at hl 1 rfl) ?_
    refine g_get (C := RX5) (T := TX5) (N := 8) hx hb hts iwX5_setGuarantor_X5 hown hK hP 0 0 rfl rfl rfl 0 (Nat.le_of_ble_eq_true rfl) (hts _ kX5_setGuarantor_2) (fun _ h9 => h9) rfl dX5_setGuarantor_42 ?_
    refine g_get (C := RX3) (T := TX3) (N := 17) hx hb hts iwX5_setGuarantor_X3 hown hK hP 1 0 rfl rfl rfl 6 (Nat.le_of_ble_eq_true rfl) (hts _ kX5_setGuarantor_3) (fun _ h9 => h9) rfl dX5_setGuarantor_45 ?_
    refine lv_iload_n hx hb dX5_setGuarantor_48 rfl (lv_at hl 2 rfl) ?_
    refine lv_iload_n hx hb dX5_setGuarantor_49 rfl (lv_at hl 3 rfl) ?_
    obtain ⟨h8, hf⟩ := gi_some hf
    obtain ⟨u9, eu9, hf⟩ := lt_some hf
    refine g_iast (gs' := [maW a0 (a1 0) (a2 0) (a3 0) (a4 0) (a7 0 0) (a8 0) (a9 0) (a9 1), stW G a1 u9, paW G a7 q5.2]) hx hb hK hP hD hS 1 2 0 rfl rfl rfl h8 dX5_setGuarantor_50 (by rw [eu9]; rfl) (fun H locs hP hD hS => ?_)
    refine lv_iload_n hx hb dX5_setGuarantor_51 rfl (lv_at hl 0 rfl) ?_
    cases hf
    exact g_xiret hx hb hr hlocks rfl (Nat.le_of_ble_eq_true rfl) (Nat.le_of_ble_eq_true rfl) hP hS dX5_setGuarantor_52
  · rw [if_pos c1] at hf
    refine lv_aload_n hx hb dX5_setGuarantor_6 rfl (lv_at hl 0 rfl) ?_
    refine lv_iload_n hx hb dX5_setGuarantor_7 rfl (lv_at hl 1 rfl) ?_
    obtain ⟨q10, hq10, hf⟩ := bx_some hf
    refine g_callXVv S (cells' := 1) (slots' := 6) (As := [.int i1]) (c_X5_requireMember l hl0 G a0 a1 a2 a3 a4 a5 a6 a7 a8 a9 a10 a11 v1 i1 hq10) (cwV 1 hts gX5_setGuarantor_X5_requireMember rfl rfl rfl hd_X5_requireMember ⟨Nat.le_of_ble_eq_true rfl, Nat.le_of_ble_eq_true rfl⟩) hTH hK hP hD hS hA (is := [0, 1]) rfl rfl 0 rfl rfl rfl rfl hl.1 rfl (Nat.le_of_ble_eq_true rfl) dX5_setGuarantor_8 ⟨Nat.le_of_ble_eq_true rfl, Nat.le_of_ble_eq_true rfl⟩ rfl rfl (fun u ho H locs hP hD hS => ?_) (fun E u ho ce q9 H locs hP hD hS hce hcv hcl => by obtain ⟨r9, rfl, rfl, rfl⟩ := om_r ho; have hf := bxe_r hf; subst hf; exact g_xout hex hlocks hce hcv hcl rfl (Nat.le_of_ble_eq_true rfl) (Nat.le_of_ble_eq_true rfl) hP hS)
    obtain ⟨r11, rfl, -, rfl⟩ := om_l ho
    have hf := bxe_l hf
    have hP : gP G [maW a0 (a1 0) (a2 0) (a3 0) (a4 0) (a7 0 0) (a8 0) (a9 0) (a9 1), stW G a1 v1, paW G a7 v7] H := hP
    have hD : gD A [maW a0 (a1 0) (a2 0) (a3 0) (a4 0) (a7 0 0) (a8 0) (a9 0) (a9 1), stW G a1 v1, paW G a7 v7] := hD
    refine lv_goto (tgt := 20) hx hb dX5_setGuarantor_11 (by decide) ?_
    refine lv_aload_n hx hb dX5_setGuarantor_20 rfl (lv_at hl 0 rfl) ?_
    refine g_get (C := RX5) (T := TX5) (N := 8) hx hb hts iwX5_setGuarantor_X5 hown hK hP 0 0 rfl rfl rfl 4 (Nat.le_of_ble_eq_true rfl) (hts _ kX5_setGuarantor_1) (fun _ h9 => h9) rfl dX5_setGuarantor_21 ?_
    refine lv_aload_n hx hb dX5_setGuarantor_24 rfl (lv_at hl 0 rfl) ?_
    refine g_get (C := RX5) (T := TX5) (N := 8) hx hb hts iwX5_setGuarantor_X5 hown hK hP 0 0 rfl rfl rfl 0 (Nat.le_of_ble_eq_true rfl) (hts _ kX5_setGuarantor_2) (fun _ h9 => h9) rfl dX5_setGuarantor_25 ?_
    obtain ⟨q13, hq13, hf⟩ := bd_some hf
    refine g_callVv S (As := [.ref (a1 0)]) (gs' := [maW a0 (a1 0) (a2 0) (a3 0) (a4 0) (a7 0 0) (a8 0) (a9 0) (a9 1), stW G a1 v1, paW G a7 q13.2]) (c_X0_remember l G a7 a1 v7 v1 hq13) (cwV 1 hts gX5_setGuarantor_X0_remember rfl rfl rfl hd_X0_remember ⟨Nat.le_of_ble_eq_true rfl, Nat.le_of_ble_eq_true rfl⟩) hK hP hD hS hA (is := [2, 1]) rfl rfl 2 rfl rfl rfl rfl hl.1 rfl (Nat.le_of_ble_eq_true rfl) dX5_setGuarantor_28 ⟨Nat.le_of_ble_eq_true rfl, Nat.le_of_ble_eq_true rfl⟩ rfl (fun H locs hP hD hS => ?_)
    refine lv_aload_n hx hb dX5_setGuarantor_31 rfl (lv_at hl 0 rfl) ?_
    refine g_get (C := RX5) (T := TX5) (N := 8) hx hb hts iwX5_setGuarantor_X5 hown hK hP 0 0 rfl rfl rfl 0 (Nat.le_of_ble_eq_true rfl) (hts _ kX5_setGuarantor_2) (fun _ h9 => h9) rfl dX5_setGuarantor_32 ?_
    refine g_get (C := RX3) (T := TX3) (N := 17) hx hb hts iwX5_setGuarantor_X3 hown hK hP 1 0 rfl rfl rfl 6 (Nat.le_of_ble_eq_true rfl) (hts _ kX5_setGuarantor_3) (fun _ h9 => h9) rfl dX5_setGuarantor_35 ?_
    refine lv_iload_n hx hb dX5_setGuarantor_38 rfl (lv_at hl 1 rfl) ?_
    obtain ⟨h14, hf⟩ := gi_some hf
    refine g_iald hx hb hK hP 1 2 0 rfl rfl rfl h14 dX5_setGuarantor_39 ?_
    obtain ⟨x15, ex15, hf⟩ := lt_some hf
    refine lv_nmi ex15 ?_
    refine lv_istore_n (lv' := [(3, .int x15), (0, .ref (a0 0)), (1, .int i1), (2, .int i2)]) hx hb dX5_setGuarantor_40 rfl hl (by decide) rfl (fun ls hl => ?_)
    refine lv_aload_n hx hb dX5_setGuarantor_41 rfl (lv_at hl 1 rfl) ?_
    refine g_get (C := RX5) (T := TX5) (N := 8) hx hb hts iwX5_setGuarantor_X5 hown hK hP 0 0 rfl rfl rfl 0 (Nat.le_of_ble_eq_true rfl) (hts _ kX5_setGuarantor_2) (fun _ h9 => h9) rfl dX5_setGuarantor_42 ?_
    refine g_get (C := RX3) (T := TX3) (N := 17) hx hb hts iwX5_setGuarantor_X3 hown hK hP 1 0 rfl rfl rfl 6 (Nat.le_of_ble_eq_true rfl) (hts _ kX5_setGuarantor_3) (fun _ h9 => h9) rfl dX5_setGuarantor_45 ?_
    refine lv_iload_n hx hb dX5_setGuarantor_48 rfl (lv_at hl 2 rfl) ?_
    refine lv_iload_n hx hb dX5_setGuarantor_49 rfl (lv_at hl 3 rfl) ?_
    obtain ⟨h16, hf⟩ := gi_some hf
    obtain ⟨u17, eu17, hf⟩ := lt_some hf
    refine g_iast (gs' := [maW a0 (a1 0) (a2 0) (a3 0) (a4 0) (a7 0 0) (a8 0) (a9 0) (a9 1), stW G a1 u17, paW G a7 q13.2]) hx hb hK hP hD hS 1 2 0 rfl rfl rfl h16 dX5_setGuarantor_50 (by rw [eu17]; rfl) (fun H locs hP hD hS => ?_)
    refine lv_iload_n hx hb dX5_setGuarantor_51 rfl (lv_at hl 0 rfl) ?_
    cases hf
    exact g_xiret hx hb hr hlocks rfl (Nat.le_of_ble_eq_true rfl) (Nat.le_of_ble_eq_true rfl) hP hS dX5_setGuarantor_52
theorem kX5_bid_0 : Cond.fieldLink RX5 10 "SavingsCircle" "now" "LSavingsCircle$State;" ∈ wsX5_bid := (List.mem_cons_of_mem _ (List.mem_append_left _ (List.mem_append_left _ (List.mem_append_left _ (List.mem_append_left _ (List.mem_append_left _ (List.mem_append_left _ (List.mem_append_left _ (List.mem_of_getElem? (i := 2) rfl)))))))))
theorem kX5_bid_1 : Cond.fieldLink RX5 36 "SavingsCircle" "past" "LSavingsCircle$Past;" ∈ wsX5_bid := (List.mem_cons_of_mem _ (List.mem_append_left _ (List.mem_append_left _ (List.mem_append_left _ (List.mem_append_left _ (List.mem_append_left _ (List.mem_append_left _ (List.mem_append_left _ (List.mem_of_getElem? (i := 3) rfl)))))))))
theorem kX5_bid_2 : Cond.fieldLink RX5 132 "SavingsCircle$State" "bid" "[I" ∈ wsX5_bid := (List.mem_cons_of_mem _ (List.mem_append_left _ (List.mem_append_left _ (List.mem_append_left _ (List.mem_append_left _ (List.mem_append_left _ (List.mem_append_left _ (List.mem_append_left _ (List.mem_of_getElem? (i := 4) rfl)))))))))
theorem kX5_bid_3 : Cond.classLink RX5 63 "java/lang/IllegalStateException" ∈ wsX5_bid := (List.mem_cons_of_mem _ (List.mem_append_left _ (List.mem_append_left _ (List.mem_append_left _ (List.mem_append_left _ (List.mem_append_left _ (List.mem_append_left _ (List.mem_append_left _ (List.mem_of_getElem? (i := 0) rfl)))))))))
theorem kX5_bid_4 : Cond.initialized "java/lang/IllegalStateException" ∈ wsX5_bid := (List.mem_cons_of_mem _ (List.mem_append_left _ (List.mem_append_left _ (List.mem_append_left _ (List.mem_append_left _ (List.mem_append_left _ (List.mem_append_left _ (List.mem_append_left _ (List.mem_of_getElem? (i := 1) rfl)))))))))
theorem iwX5_bid_X5 : ∀ w ∈ wsX50, w ∈ wsX5_bid := fun w h => (List.mem_cons_of_mem _ (List.mem_append_left _ (List.mem_append_left _ (List.mem_append_left _ (List.mem_append_left _ (List.mem_append_left _ (List.mem_append_right _ h)))))))
theorem iwX5_bid_X3 : ∀ w ∈ wsX30, w ∈ wsX5_bid := fun w h => (List.mem_cons_of_mem _ (List.mem_append_left _ (List.mem_append_left _ (List.mem_append_left _ (List.mem_append_left _ (List.mem_append_right _ h))))))
theorem atX5_bid_67 : ∀ w ∈ (vx_atS RX5 67 "java/lang/IllegalStateException" ["java/lang/RuntimeException", "java/lang/Exception"]).filter goodWord, w ∈ wsX5_bid := fun w h => (List.mem_cons_of_mem _ (List.mem_append_left _ (List.mem_append_left _ (List.mem_append_right _ h))))
set_option maxHeartbeats 4000000 in
set_option maxRecDepth 100000 in
theorem c_X5_bid (l : Launch) (hl0 : l.stackTraces = false) (G : uG) (a0 : Nat → Nat) (a1 : Nat → Nat) (a2 : Nat → Nat) (a3 : Nat → Nat) (a4 : Nat → Nat) (a5 : Nat → Nat) (a6 : Nat → Nat) (a7 : Nat → Nat → Nat) (a8 : Nat → Nat) (a9 : Nat → Nat) (a10 : Nat → Nat) (a11 : Nat → Nat) (v1 : StV) (v7 : PaV) (i1 : Int32) (i2 : Int32) {q : (Int32 × (StV × PaV)) ⊕ (String × (StV × PaV))} (hf : f_X5_bid v1 v7 i1 i2 = some q) : mX l yX5_bid wsX5_bid ({ frames := 7, cells := 3, slots := 18, locals := 114 } : Room) G [.ref (a0 0), .int i1, .int i2] [maW a0 (a1 0) (a2 0) (a3 0) (a4 0) (a7 0 0) (a8 0) (a9 0) (a9 1), stW G a1 v1, paW G a7 v7] (om (fun (w9 : StV × PaV) => [maW a0 (a1 0) (a2 0) (a3 0) (a4 0) (a7 0 0) (a8 0) (a9 0) (a9 1), stW G a1 w9.1, paW G a7 w9.2]) q) (qIx G (om (fun (w9 : StV × PaV) => [maW a0 (a1 0) (a2 0) (a3 0) (a4 0) (a7 0 0) (a8 0) (a9 0) (a9 1), stW G a1 w9.1, paW G a7 w9.2]) q)) 3 18 := by
  unfold f_X5_bid at hf
  refine mX_of (cc := cX5_bid) (maxL := 4) (ret := (some .int)) (by decide) rfl (om_gad (fun _ => rfl)) (Nat.le_of_ble_eq_true rfl) ?_
  intro p e s m args below meth c A ls S hK hA hex hTH hP hD hS hl
  obtain ⟨hx, hb, hml, hown, hts, hr, hlocks⟩ := id S
  have hl : lv_has ls 4 [(0, .ref (a0 0)), (1, .int i1), (2, .int i2)] := hl
  refine lv_aload_n hx hb dX5_bid_0 rfl (lv_at hl 0 rfl) ?_
  refine lv_iload_n hx hb dX5_bid_1 rfl (lv_at hl 1 rfl) ?_
  obtain ⟨q1, hq1, hf⟩ := bx_some hf
  refine g_callXVv S (cells' := 1) (slots' := 6) (As := [.int i1]) (c_X5_requireMember l hl0 G a0 a1 a2 a3 a4 a5 a6 a7 a8 a9 a10 a11 v1 i1 hq1) (cwV 1 hts gX5_bid_X5_requireMember rfl rfl rfl hd_X5_requireMember ⟨Nat.le_of_ble_eq_true rfl, Nat.le_of_ble_eq_true rfl⟩) hTH hK hP hD hS hA (is := [0, 1]) rfl rfl 0 rfl rfl rfl rfl hl.1 rfl (Nat.le_of_ble_eq_true rfl) dX5_bid_2 ⟨Nat.le_of_ble_eq_true rfl, Nat.le_of_ble_eq_true rfl⟩ rfl rfl (fun u ho H locs hP hD hS => ?_) (fun E u ho ce q9 H locs hP hD hS hce hcv hcl => by obtain ⟨r9, rfl, rfl, rfl⟩ := om_r ho; have hf := bxe_r hf; subst hf; exact g_xout hex hlocks hce hcv hcl rfl (Nat.le_of_ble_eq_true rfl) (Nat.le_of_ble_eq_true rfl) hP hS)
  obtain ⟨r2, rfl, -, rfl⟩ := om_l ho
  have hf := bxe_l hf
  have hP : gP G [maW a0 (a1 0) (a2 0) (a3 0) (a4 0) (a7 0 0) (a8 0) (a9 0) (a9 1), stW G a1 v1, paW G a7 v7] H := hP
  have hD : gD A [maW a0 (a1 0) (a2 0) (a3 0) (a4 0) (a7 0 0) (a8 0) (a9 0) (a9 1), stW G a1 v1, paW G a7 v7] := hD
  refine lv_iload_n hx hb dX5_bid_5 rfl (lv_at hl 2 rfl) ?_
  refine lv_iconst (v := (0:Int32)) hx hb dX5_bid_6 (by decide) ?_
  refine lv_sipush (v := (999:Int32)) hx hb dX5_bid_7 (by decide) ?_
  obtain ⟨q4, hq4, hf⟩ := bx_some hf
  refine g_callXSv S (cells' := 2) (slots' := 12) (As := [.int i2, .int (0:Int32), .int (999:Int32)]) (c_X5_requireRange l hl0 G i2 (0:Int32) (999:Int32) hq4) (va_cwS 3 hts gX5_bid_X5_requireRange rfl rfl rfl hd_X5_requireRange.2 ⟨Nat.le_of_ble_eq_true rfl, Nat.le_of_ble_eq_true rfl⟩) hTH hK hP hD hS hA (is := []) rfl rfl rfl hl.1 rfl (Nat.le_of_ble_eq_true rfl) dX5_bid_10 ⟨Nat.le_of_ble_eq_true rfl, Nat.le_of_ble_eq_true rfl⟩ rfl rfl (fun u ho H locs hP hD hS => ?_) (fun E u ho ce q9 H locs hP hD hS hce hcv hcl => by obtain ⟨r9, rfl, rfl, rfl⟩ := om_r ho; have hf := bxe_r hf; subst hf; exact g_xout hex hlocks hce hcv hcl rfl (Nat.le_of_ble_eq_true rfl) (Nat.le_of_ble_eq_true rfl) hP hS)
  obtain ⟨r5, rfl, -, rfl⟩ := om_l ho
  have hf := bxe_l hf
  have hP : gP G [maW a0 (a1 0) (a2 0) (a3 0) (a4 0) (a7 0 0) (a8 0) (a9 0) (a9 1), stW G a1 v1, paW G a7 v7] H := hP
  have hD : gD A [maW a0 (a1 0) (a2 0) (a3 0) (a4 0) (a7 0 0) (a8 0) (a9 0) (a9 1), stW G a1 v1, paW G a7 v7] := hD
  refine lv_aload_n hx hb dX5_bid_13 rfl (lv_at hl 0 rfl) ?_
  refine g_get (C := RX5) (T := TX5) (N := 8) hx hb hts iwX5_bid_X5 hown hK hP 0 0 rfl rfl rfl 0 (Nat.le_of_ble_eq_true rfl) (hts _ kX5_bid_0) (fun _ h9 => h9) rfl dX5_bid_14 ?_
  refine lv_iload_n hx hb dX5_bid_17 rfl (lv_at hl 1 rfl) ?_
  obtain ⟨q7, hq7, hf⟩ := bd_some hf
  refine g_callVi S (As := [.int i1]) (gs' := [maW a0 (a1 0) (a2 0) (a3 0) (a4 0) (a7 0 0) (a8 0) (a9 0) (a9 1), stW G a1 v1, paW G a7 v7]) (c_X3_mayBid l G a1 v1 i1 hq7) (cwV 1 hts gX5_bid_X3_mayBid rfl rfl rfl hd_X3_mayBid ⟨Nat.le_of_ble_eq_true rfl, Nat.le_of_ble_eq_true rfl⟩) hK hP hD hS hA (is := [1]) rfl rfl 1 rfl rfl rfl rfl hl.1 rfl (Nat.le_of_ble_eq_true rfl) dX5_bid_18 ⟨Nat.le_of_ble_eq_true rfl, Nat.le_of_ble_eq_true rfl⟩ rfl (fun H locs hP hD hS => ?_)
  refine lv_if_ne (tgt := 34) hx hb dX5_bid_21 (by decide) (fun c8 => ?_) (fun c8 => ?_)
  · rw [if_neg c8] at hf
    refine lv_aload_n hx hb dX5_bid_34 rfl (lv_at hl 0 rfl) ?_
    refine g_get (C := RX5) (T := TX5) (N := 8) hx hb hts iwX5_bid_X5 hown hK hP 0 0 rfl rfl rfl 4 (Nat.le_of_ble_eq_true rfl) (hts _ kX5_bid_1) (fun _ h9 => h9) rfl dX5_bid_35 ?_
    refine lv_aload_n hx hb dX5_bid_38 rfl (lv_at hl 0 rfl) ?_
    refine g_get (C := RX5) (T := TX5) (N := 8) hx hb hts iwX5_bid_X5 hown hK hP 0 0 rfl rfl rfl 0 (Nat.le_of_ble_eq_true rfl) (hts _ kX5_bid_0) (fun _ h9 => h9) rfl dX5_bid_39 ?_
    obtain ⟨q9, hq9, hf⟩ := bd_some hf
    refine g_callVv S (As := [.ref (a1 0)]) (gs' := [maW a0 (a1 0) (a2 0) (a3 0) (a4 0) (a7 0 0) (a8 0) (a9 0) (a9 1), stW G a1 v1, paW G a7 q9.2]) (c_X0_remember l G a7 a1 v7 v1 hq9) (cwV 1 hts gX5_bid_X0_remember rfl rfl rfl hd_X0_remember ⟨Nat.le_of_ble_eq_true rfl, Nat.le_of_ble_eq_true rfl⟩) hK hP hD hS hA (is := [2, 1]) rfl rfl 2 rfl rfl rfl rfl hl.1 rfl (Nat.le_of_ble_eq_true rfl) dX5_bid_42 ⟨Nat.le_of_ble_eq_true rfl, Nat.le_of_ble_eq_true rfl⟩ rfl (fun H locs hP hD hS => ?_)
    refine lv_aload_n hx hb dX5_bid_45 rfl (lv_at hl 0 rfl) ?_
    refine g_get (C := RX5) (T := TX5) (N := 8) hx hb hts iwX5_bid_X5 hown hK hP 0 0 rfl rfl rfl 0 (Nat.le_of_ble_eq_true rfl) (hts _ kX5_bid_0) (fun _ h9 => h9) rfl dX5_bid_46 ?_
    refine g_get (C := RX3) (T := TX3) (N := 17) hx hb hts iwX5_bid_X3 hown hK hP 1 0 rfl rfl rfl 7 (Nat.le_of_ble_eq_true rfl) (hts _ kX5_bid_2) (fun _ h9 => h9) rfl dX5_bid_49 ?_
    refine lv_iload_n hx hb dX5_bid_52 rfl (lv_at hl 1 rfl) ?_
    obtain ⟨h10, hf⟩ := gi_some hf
    refine g_iald hx hb hK hP 1 3 0 rfl rfl rfl h10 dX5_bid_53 ?_
    obtain ⟨x11, ex11, hf⟩ := lt_some hf
    refine lv_nmi ex11 ?_
    refine lv_istore_n (lv' := [(3, .int x11), (0, .ref (a0 0)), (1, .int i1), (2, .int i2)]) hx hb dX5_bid_54 rfl hl (by decide) rfl (fun ls hl => ?_)
    refine lv_aload_n hx hb dX5_bid_55 rfl (lv_at hl 1 rfl) ?_
    refine g_get (C := RX5) (T := TX5) (N := 8) hx hb hts iwX5_bid_X5 hown hK hP 0 0 rfl rfl rfl 0 (Nat.le_of_ble_eq_true rfl) (hts _ kX5_bid_0) (fun _ h9 => h9) rfl dX5_bid_56 ?_
    refine g_get (C := RX3) (T := TX3) (N := 17) hx hb hts iwX5_bid_X3 hown hK hP 1 0 rfl rfl rfl 7 (Nat.le_of_ble_eq_true rfl) (hts _ kX5_bid_2) (fun _ h9 => h9) rfl dX5_bid_59 ?_
    refine lv_iload_n hx hb dX5_bid_62 rfl (lv_at hl 2 rfl) ?_
    refine lv_iload_n hx hb dX5_bid_63 rfl (lv_at hl 3 rfl) ?_
    obtain ⟨h12, hf⟩ := gi_some hf
    obtain ⟨u13, eu13, hf⟩ := lt_some hf
    refine g_iast (gs' := [maW a0 (a1 0) (a2 0) (a3 0) (a4 0) (a7 0 0) (a8 0) (a9 0) (a9 1), stW G a1 u13, paW G a7 q9.2]) hx hb hK hP hD hS 1 3 0 rfl rfl rfl h12 dX5_bid_64 (by rw [eu13]; rfl) (fun H locs hP hD hS => ?_)
    refine lv_iload_n hx hb dX5_bid_65 rfl (lv_at hl 0 rfl) ?_
    cases hf
    exact g_xiret hx hb hr hlocks rfl (Nat.le_of_ble_eq_true rfl) (Nat.le_of_ble_eq_true rfl) hP hS dX5_bid_66
  · rw [if_pos c8] at hf
    cases hf
    exact g_throw S (cls := "java/lang/IllegalStateException") (text := "it is not in the circle, or has taken the pot") (names := ["java/lang/RuntimeException", "java/lang/Exception"]) rfl hex hl0 hTH vf_IllegalStateException vf_names (hts _ kX5_bid_3) (hts _ kX5_bid_4) (List.mem_of_getElem? (i := 5) rfl) atX5_bid_67 vg_RX5_67 vh_RX5_67 dX5_bid_24 dX5_bid_27 dX5_bid_28 dX5_bid_30 dX5_bid_33 (Nat.le_of_ble_eq_true rfl) (Nat.le_of_ble_eq_true rfl) (Nat.le_of_ble_eq_true rfl) (Nat.le_of_ble_eq_true rfl) (Nat.le_of_ble_eq_true rfl) (Nat.le_of_ble_eq_true rfl) hl.1 rfl hP hS
