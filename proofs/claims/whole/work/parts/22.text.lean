theorem hd_X3_becomeEmpty : yX3_becomeEmpty.cls = RX3 ∧ yX3_becomeEmpty.cls ≠ "java/lang/invoke/MethodHandle" ∧ yX3_becomeEmpty.cls ≠ "java/lang/invoke/VarHandle" ∧ (parseMethodDescriptor yX3_becomeEmpty.desc).map (fun d => d.parameters.length) = some 1 := by decide +kernel
theorem hd_X3_join : yX3_join.cls = RX3 ∧ yX3_join.cls ≠ "java/lang/invoke/MethodHandle" ∧ yX3_join.cls ≠ "java/lang/invoke/VarHandle" ∧ (parseMethodDescriptor yX3_join.desc).map (fun d => d.parameters.length) = some 1 := by decide +kernel
theorem hd_X4_readBid : yX4_readBid.cls = RX4 ∧ yX4_readBid.cls ≠ "java/lang/invoke/MethodHandle" ∧ yX4_readBid.cls ≠ "java/lang/invoke/VarHandle" ∧ (parseMethodDescriptor yX4_readBid.desc).map (fun d => d.parameters.length) = some 1 := by decide +kernel
theorem hd_X4_readContribution : yX4_readContribution.cls = RX4 ∧ yX4_readContribution.cls ≠ "java/lang/invoke/MethodHandle" ∧ yX4_readContribution.cls ≠ "java/lang/invoke/VarHandle" ∧ (parseMethodDescriptor yX4_readContribution.desc).map (fun d => d.parameters.length) = some 1 := by decide +kernel
theorem hd_X4_readDigit : yX4_readDigit.cls = RX4 ∧ yX4_readDigit.cls ≠ "java/lang/invoke/MethodHandle" ∧ yX4_readDigit.cls ≠ "java/lang/invoke/VarHandle" ∧ (parseMethodDescriptor yX4_readDigit.desc).map (fun d => d.parameters.length) = some 3 := by decide +kernel
theorem hd_X4_readGuarantor : yX4_readGuarantor.cls = RX4 ∧ yX4_readGuarantor.cls ≠ "java/lang/invoke/MethodHandle" ∧ yX4_readGuarantor.cls ≠ "java/lang/invoke/VarHandle" ∧ (parseMethodDescriptor yX4_readGuarantor.desc).map (fun d => d.parameters.length) = some 1 := by decide +kernel
theorem hd_X4_readMember : yX4_readMember.cls = RX4 ∧ yX4_readMember.cls ≠ "java/lang/invoke/MethodHandle" ∧ yX4_readMember.cls ≠ "java/lang/invoke/VarHandle" ∧ (parseMethodDescriptor yX4_readMember.desc).map (fun d => d.parameters.length) = some 1 := by decide +kernel
theorem hd_X4_readPart : yX4_readPart.cls = RX4 ∧ yX4_readPart.cls ≠ "java/lang/invoke/MethodHandle" ∧ yX4_readPart.cls ≠ "java/lang/invoke/VarHandle" ∧ (parseMethodDescriptor yX4_readPart.desc).map (fun d => d.parameters.length) = some 1 := by decide +kernel
theorem hd_X4_readParts : yX4_readParts.cls = RX4 ∧ yX4_readParts.cls ≠ "java/lang/invoke/MethodHandle" ∧ yX4_readParts.cls ≠ "java/lang/invoke/VarHandle" ∧ (parseMethodDescriptor yX4_readParts.desc).map (fun d => d.parameters.length) = some 1 := by decide +kernel
theorem hd_X4_readThreeDigits : yX4_readThreeDigits.cls = RX4 ∧ yX4_readThreeDigits.cls ≠ "java/lang/invoke/MethodHandle" ∧ yX4_readThreeDigits.cls ≠ "java/lang/invoke/VarHandle" ∧ (parseMethodDescriptor yX4_readThreeDigits.desc).map (fun d => d.parameters.length) = some 0 := by decide +kernel
theorem kX4_add_0 : Cond.fieldLink RX4 9 "SavingsCircle$Text" "signs" "[I" ∈ wsX4_add := (List.mem_cons_of_mem _ (List.mem_append_left _ (List.mem_of_getElem? (i := 0) rfl)))
theorem kX4_add_1 : Cond.fieldLink RX4 15 "SavingsCircle$Text" "length" "I" ∈ wsX4_add := (List.mem_cons_of_mem _ (List.mem_append_left _ (List.mem_of_getElem? (i := 1) rfl)))
theorem iwX4_add_X4 : ∀ w ∈ wsX40, w ∈ wsX4_add := fun w h => (List.mem_cons_of_mem _ (List.mem_append_right _ h))
set_option maxHeartbeats 4000000 in
set_option maxRecDepth 100000 in
theorem c_X4_add (l : Launch) (G : uG) (a0 : Nat → Nat) (v0 : TxV) (i1 : Int32) {q : Int32 × (TxV)} (hf : f_X4_add v0 i1 = some q) : mQ l yX4_add wsX4_add ({ frames := 0, cells := 0, slots := 0, locals := 0 } : Room) G [.ref (a0 0), .int i1] [txW G a0 v0] [txW G a0 q.2] (qI G [txW G a0 q.2] q.1) := by
  unfold f_X4_add at hf
  refine m_of (cc := cX4_add) (maxL := 2) (ret := (some .int)) (by decide) rfl rfl (Nat.le_of_ble_eq_true rfl) ?_
  intro p e s m args below meth c A ls S hK hA hP hD hS hl
  obtain ⟨hx, hb, hml, hown, hts, hr, hlocks⟩ := id S
  have hl : lv_has ls 2 [(0, .ref (a0 0)), (1, .int i1)] := hl
  refine lv_aload_n hx hb dX4_add_0 rfl (lv_at hl 0 rfl) ?_
  refine g_get (C := RX4) (T := TX4) (N := 3) hx hb hts iwX4_add_X4 hown hK hP 0 0 rfl rfl rfl 0 (Nat.le_of_ble_eq_true rfl) (hts _ kX4_add_0) (fun _ h9 => h9) rfl dX4_add_1 ?_
  refine lv_aload_n hx hb dX4_add_4 rfl (lv_at hl 0 rfl) ?_
  refine g_get (C := RX4) (T := TX4) (N := 3) hx hb hts iwX4_add_X4 hown hK hP 0 0 rfl rfl rfl 1 (Nat.le_of_ble_eq_true rfl) (hts _ kX4_add_1) (fun _ h9 => h9) rfl dX4_add_5 ?_
  refine lv_iload_n hx hb dX4_add_8 rfl (lv_at hl 1 rfl) ?_
  obtain ⟨h1, hf⟩ := gi_some hf
  obtain ⟨u2, eu2, hf⟩ := lt_some hf
  refine g_iast (gs' := [txW G a0 u2]) hx hb hK hP hD hS 0 1 0 rfl rfl rfl h1 dX4_add_9 (by rw [eu2]; rfl) (fun H locs hP hD hS => ?_)
  refine lv_aload_n hx hb dX4_add_10 rfl (lv_at hl 0 rfl) ?_
  refine lv_dup hx hb dX4_add_11 rfl ?_
  refine g_get (C := RX4) (T := TX4) (N := 3) hx hb hts iwX4_add_X4 hown hK hP 0 0 rfl rfl rfl 1 (Nat.le_of_ble_eq_true rfl) (hts _ kX4_add_1) (fun _ h9 => h9) rfl dX4_add_12 ?_
  refine lv_iconst (v := (1:Int32)) hx hb dX4_add_15 (by decide) ?_
  refine lv_iadd hx hb dX4_add_16 ?_
  obtain ⟨u3, eu3, hf⟩ := lt_some hf
  refine g_put (ty := .int) (C := RX4) (T := TX4) (N := 3) (gs' := [txW G a0 u3]) hx hb hts iwX4_add_X4 tyX4 tyX4_ok nmX4 hown hK hP hD hS 0 0 rfl rfl rfl 1 (Nat.le_of_ble_eq_true rfl) (hts _ kX4_add_1) (fun _ h9 => h9) rfl (by decide +kernel) rfl rfl (Nat.le_of_ble_eq_true rfl) dX4_add_17 (by rw [eu3]; rfl) (fun H locs hP hD hS => ?_)
  refine lv_aload_n hx hb dX4_add_20 rfl (lv_at hl 0 rfl) ?_
  refine g_get (C := RX4) (T := TX4) (N := 3) hx hb hts iwX4_add_X4 hown hK hP 0 0 rfl rfl rfl 1 (Nat.le_of_ble_eq_true rfl) (hts _ kX4_add_1) (fun _ h9 => h9) rfl dX4_add_21 ?_
  cases hf
  exact g_iret hx hb hr hlocks hP hS dX4_add_24
theorem kX4_readDigit_0 : Cond.fieldLink RX4 19 "SavingsCircle$Text" "at" "I" ∈ wsX4_readDigit := (List.mem_cons_of_mem _ (List.mem_append_left _ (List.mem_of_getElem? (i := 0) rfl)))
theorem kX4_readDigit_1 : Cond.fieldLink RX4 15 "SavingsCircle$Text" "length" "I" ∈ wsX4_readDigit := (List.mem_cons_of_mem _ (List.mem_append_left _ (List.mem_of_getElem? (i := 1) rfl)))
theorem kX4_readDigit_2 : Cond.fieldLink RX4 9 "SavingsCircle$Text" "signs" "[I" ∈ wsX4_readDigit := (List.mem_cons_of_mem _ (List.mem_append_left _ (List.mem_of_getElem? (i := 3) rfl)))
theorem kX4_readDigit_3 : Cond.constant RX4 29 (-99999) ∈ wsX4_readDigit := (List.mem_cons_of_mem _ (List.mem_append_left _ (List.mem_of_getElem? (i := 2) rfl)))
theorem iwX4_readDigit_X4 : ∀ w ∈ wsX40, w ∈ wsX4_readDigit := fun w h => (List.mem_cons_of_mem _ (List.mem_append_right _ h))
set_option maxHeartbeats 4000000 in
set_option maxRecDepth 100000 in
theorem c_X4_readDigit (l : Launch) (G : uG) (a0 : Nat → Nat) (v0 : TxV) (i1 : Int32) (i2 : Int32) (i3 : Int32) {q : Int32 × (TxV)} (hf : f_X4_readDigit v0 i1 i2 i3 = some q) : mQ l yX4_readDigit wsX4_readDigit ({ frames := 0, cells := 0, slots := 0, locals := 0 } : Room) G [.ref (a0 0), .int i1, .int i2, .int i3] [txW G a0 v0] [txW G a0 q.2] (qI G [txW G a0 q.2] q.1) := by
  unfold f_X4_readDigit at hf
  refine m_of (cc := cX4_readDigit) (maxL := 5) (ret := (some .int)) (by decide) rfl rfl (Nat.le_of_ble_eq_true rfl) ?_
  intro p e s m args below meth c A ls S hK hA hP hD hS hl
  obtain ⟨hx, hb, hml, hown, hts, hr, hlocks⟩ := id S
  have hl : lv_has ls 5 [(0, .ref (a0 0)), (1, .int i1), (2, .int i2), (3, .int i3)] := hl
  refine lv_aload_n hx hb dX4_readDigit_0 rfl (lv_at hl 0 rfl) ?_
  refine g_get (C := RX4) (T := TX4) (N := 3) hx hb hts iwX4_readDigit_X4 hown hK hP 0 0 rfl rfl rfl 2 (Nat.le_of_ble_eq_true rfl) (hts _ kX4_readDigit_0) (fun _ h9 => h9) rfl dX4_readDigit_1 ?_
  refine lv_aload_n hx hb dX4_readDigit_4 rfl (lv_at hl 0 rfl) ?_
  refine g_get (C := RX4) (T := TX4) (N := 3) hx hb hts iwX4_readDigit_X4 hown hK hP 0 0 rfl rfl rfl 1 (Nat.le_of_ble_eq_true rfl) (hts _ kX4_readDigit_1) (fun _ h9 => h9) rfl dX4_readDigit_5 ?_
  refine lv_icmp_lt (tgt := 14) hx hb dX4_readDigit_8 (by decide) (fun c1 => ?_) (fun c1 => ?_)
  · rw [if_pos c1] at hf
    refine lv_aload_n hx hb dX4_readDigit_14 rfl (lv_at hl 0 rfl) ?_
    refine g_get (C := RX4) (T := TX4) (N := 3) hx hb hts iwX4_readDigit_X4 hown hK hP 0 0 rfl rfl rfl 0 (Nat.le_of_ble_eq_true rfl) (hts _ kX4_readDigit_2) (fun _ h9 => h9) rfl dX4_readDigit_15 ?_
    refine lv_aload_n hx hb dX4_readDigit_18 rfl (lv_at hl 0 rfl) ?_
    refine g_get (C := RX4) (T := TX4) (N := 3) hx hb hts iwX4_readDigit_X4 hown hK hP 0 0 rfl rfl rfl 2 (Nat.le_of_ble_eq_true rfl) (hts _ kX4_readDigit_0) (fun _ h9 => h9) rfl dX4_readDigit_19 ?_
    obtain ⟨h2, hf⟩ := gi_some hf
    refine g_iald hx hb hK hP 0 1 0 rfl rfl rfl h2 dX4_readDigit_22 ?_
    refine lv_bipush (v := (48:Int32)) hx hb dX4_readDigit_23 (by decide) ?_
    refine lv_isub hx hb dX4_readDigit_25 ?_
    obtain ⟨x3, ex3, hf⟩ := lt_some hf
    refine lv_nmi ex3 ?_
    refine lv_istore (lv' := [(4, .int x3), (0, .ref (a0 0)), (1, .int i1), (2, .int i2), (3, .int i3)]) hx hb dX4_readDigit_26 hl (by decide) rfl (fun ls hl => ?_)
    refine lv_iload hx hb dX4_readDigit_28 (lv_at hl 0 rfl) ?_
    refine lv_iload_n hx hb dX4_readDigit_30 rfl (lv_at hl 2 rfl) ?_
    refine lv_icmp_lt (tgt := 46) hx hb dX4_readDigit_31 (by decide) (fun c4 => ?_) (fun c4 => ?_)
    · rw [if_pos c4] at hf
      refine lv_ldc (v := (-99999:Int32)) hx hb hown (hts _ kX4_readDigit_3) dX4_readDigit_46 ?_
      cases hf
      exact g_iret hx hb hr hlocks hP hS dX4_readDigit_48
    · rw [if_neg c4] at hf
      refine lv_iload hx hb dX4_readDigit_34 (lv_at hl 0 rfl) ?_
      refine lv_iload_n hx hb dX4_readDigit_36 rfl (lv_at hl 3 rfl) ?_
      refine lv_icmp_gt (tgt := 46) hx hb dX4_readDigit_37 (by decide) (fun c5 => ?_) (fun c5 => ?_)
      · rw [if_pos c5] at hf
        refine lv_ldc (v := (-99999:Int32)) hx hb hown (hts _ kX4_readDigit_3) dX4_readDigit_46 ?_
        cases hf
        exact g_iret hx hb hr hlocks hP hS dX4_readDigit_48
      · rw [if_neg c5] at hf
        refine lv_iload hx hb dX4_readDigit_40 (lv_at hl 0 rfl) ?_
        refine lv_iload_n hx hb dX4_readDigit_42 rfl (lv_at hl 4 rfl) ?_
        refine lv_icmp_ne (tgt := 49) hx hb dX4_readDigit_43 (by decide) (fun c6 => ?_) (fun c6 => ?_)
        · rw [if_neg c6] at hf
          refine lv_aload_n hx hb dX4_readDigit_49 rfl (lv_at hl 1 rfl) ?_
          refine lv_dup hx hb dX4_readDigit_50 rfl ?_
          refine g_get (C := RX4) (T := TX4) (N := 3) hx hb hts iwX4_readDigit_X4 hown hK hP 0 0 rfl rfl rfl 2 (Nat.le_of_ble_eq_true rfl) (hts _ kX4_readDigit_0) (fun _ h9 => h9) rfl dX4_readDigit_51 ?_
          refine lv_iconst (v := (1:Int32)) hx hb dX4_readDigit_54 (by decide) ?_
          refine lv_iadd hx hb dX4_readDigit_55 ?_
          obtain ⟨u7, eu7, hf⟩ := lt_some hf
          refine g_put (ty := .int) (C := RX4) (T := TX4) (N := 3) (gs' := [txW G a0 u7]) hx hb hts iwX4_readDigit_X4 tyX4 tyX4_ok nmX4 hown hK hP hD hS 0 0 rfl rfl rfl 2 (Nat.le_of_ble_eq_true rfl) (hts _ kX4_readDigit_0) (fun _ h9 => h9) rfl (by decide +kernel) rfl rfl (Nat.le_of_ble_eq_true rfl) dX4_readDigit_56 (by rw [eu7]; rfl) (fun H locs hP hD hS => ?_)
          refine lv_iload hx hb dX4_readDigit_59 (lv_at hl 0 rfl) ?_
          cases hf
          exact g_iret hx hb hr hlocks hP hS dX4_readDigit_61
        · rw [if_pos c6] at hf
          refine lv_ldc (v := (-99999:Int32)) hx hb hown (hts _ kX4_readDigit_3) dX4_readDigit_46 ?_
          cases hf
          exact g_iret hx hb hr hlocks hP hS dX4_readDigit_48
  · rw [if_neg c1] at hf
    refine lv_ldc (v := (-99999:Int32)) hx hb hown (hts _ kX4_readDigit_3) dX4_readDigit_11 ?_
    cases hf
    exact g_iret hx hb hr hlocks hP hS dX4_readDigit_13
theorem kX4_readContribution_0 : Cond.fieldLink RX4 19 "SavingsCircle$Text" "at" "I" ∈ wsX4_readContribution := (List.mem_cons_of_mem _ (List.mem_append_left _ (List.mem_append_left _ (List.mem_of_getElem? (i := 0) rfl))))
theorem kX4_readContribution_1 : Cond.fieldLink RX4 15 "SavingsCircle$Text" "length" "I" ∈ wsX4_readContribution := (List.mem_cons_of_mem _ (List.mem_append_left _ (List.mem_append_left _ (List.mem_of_getElem? (i := 1) rfl))))
theorem kX4_readContribution_2 : Cond.fieldLink RX4 9 "SavingsCircle$Text" "signs" "[I" ∈ wsX4_readContribution := (List.mem_cons_of_mem _ (List.mem_append_left _ (List.mem_append_left _ (List.mem_of_getElem? (i := 2) rfl))))
theorem kX4_readContribution_3 : Cond.constant RX4 29 (-99999) ∈ wsX4_readContribution := (List.mem_cons_of_mem _ (List.mem_append_left _ (List.mem_append_left _ (List.mem_of_getElem? (i := 3) rfl))))
theorem iwX4_readContribution_X4 : ∀ w ∈ wsX40, w ∈ wsX4_readContribution := fun w h => (List.mem_cons_of_mem _ (List.mem_append_left _ (List.mem_append_right _ h)))
set_option maxHeartbeats 4000000 in
set_option maxRecDepth 100000 in
theorem c_X4_readContribution (l : Launch) (G : uG) (a0 : Nat → Nat) (a1 : Nat → Nat) (v0 : TxV) (v1 : StV) {q : Int32 × (TxV × StV)} (hf : f_X4_readContribution v0 v1 = some q) : mQ l yX4_readContribution wsX4_readContribution ({ frames := 1, cells := 0, slots := 0, locals := 24 } : Room) G [.ref (a0 0), .ref (a1 0)] [txW G a0 v0, stW G a1 v1] [txW G a0 q.2.1, stW G a1 q.2.2] (qI G [txW G a0 q.2.1, stW G a1 q.2.2] q.1) := by
  unfold f_X4_readContribution at hf
  refine m_of (cc := cX4_readContribution) (maxL := 4) (ret := (some .boolean)) (by decide) rfl rfl (Nat.le_of_ble_eq_true rfl) ?_
  intro p e s m args below meth c A ls S hK hA hP hD hS hl
  obtain ⟨hx, hb, hml, hown, hts, hr, hlocks⟩ := id S
  have hl : lv_has ls 4 [(0, .ref (a0 0)), (1, .ref (a1 0))] := hl
  refine lv_aload_n hx hb dX4_readContribution_0 rfl (lv_at hl 0 rfl) ?_
  refine g_get (C := RX4) (T := TX4) (N := 3) hx hb hts iwX4_readContribution_X4 hown hK hP 0 0 rfl rfl rfl 2 (Nat.le_of_ble_eq_true rfl) (hts _ kX4_readContribution_0) (fun _ h9 => h9) rfl dX4_readContribution_1 ?_
  refine lv_aload_n hx hb dX4_readContribution_4 rfl (lv_at hl 0 rfl) ?_
  refine g_get (C := RX4) (T := TX4) (N := 3) hx hb hts iwX4_readContribution_X4 hown hK hP 0 0 rfl rfl rfl 1 (Nat.le_of_ble_eq_true rfl) (hts _ kX4_readContribution_1) (fun _ h9 => h9) rfl dX4_readContribution_5 ?_
  refine lv_icmp_ge (tgt := 25) hx hb dX4_readContribution_8 (by decide) (fun c1 => ?_) (fun c1 => ?_)
  · rw [if_pos c1] at hf
    refine lv_iconst (v := (0:Int32)) hx hb dX4_readContribution_25 (by decide) ?_
    cases hf
    exact g_zret hx hb hr gz0 hlocks hP hS dX4_readContribution_26
  · rw [if_neg c1] at hf
    refine lv_aload_n hx hb dX4_readContribution_11 rfl (lv_at hl 0 rfl) ?_
    refine g_get (C := RX4) (T := TX4) (N := 3) hx hb hts iwX4_readContribution_X4 hown hK hP 0 0 rfl rfl rfl 0 (Nat.le_of_ble_eq_true rfl) (hts _ kX4_readContribution_2) (fun _ h9 => h9) rfl dX4_readContribution_12 ?_
    refine lv_aload_n hx hb dX4_readContribution_15 rfl (lv_at hl 0 rfl) ?_
    refine g_get (C := RX4) (T := TX4) (N := 3) hx hb hts iwX4_readContribution_X4 hown hK hP 0 0 rfl rfl rfl 2 (Nat.le_of_ble_eq_true rfl) (hts _ kX4_readContribution_0) (fun _ h9 => h9) rfl dX4_readContribution_16 ?_
    obtain ⟨h2, hf⟩ := gi_some hf
    refine g_iald hx hb hK hP 0 1 0 rfl rfl rfl h2 dX4_readContribution_19 ?_
    refine lv_bipush (v := (67:Int32)) hx hb dX4_readContribution_20 (by decide) ?_
    refine lv_icmp_eq (tgt := 27) hx hb dX4_readContribution_22 (by decide) (fun c3 => ?_) (fun c3 => ?_)
    · rw [if_pos c3] at hf
      refine lv_aload_n hx hb dX4_readContribution_27 rfl (lv_at hl 0 rfl) ?_
      refine lv_dup hx hb dX4_readContribution_28 rfl ?_
      refine g_get (C := RX4) (T := TX4) (N := 3) hx hb hts iwX4_readContribution_X4 hown hK hP 0 0 rfl rfl rfl 2 (Nat.le_of_ble_eq_true rfl) (hts _ kX4_readContribution_0) (fun _ h9 => h9) rfl dX4_readContribution_29 ?_
      refine lv_iconst (v := (1:Int32)) hx hb dX4_readContribution_32 (by decide) ?_
      refine lv_iadd hx hb dX4_readContribution_33 ?_
      obtain ⟨u4, eu4, hf⟩ := lt_some hf
      refine g_put (ty := .int) (C := RX4) (T := TX4) (N := 3) (gs' := [txW G a0 u4, stW G a1 v1]) hx hb hts iwX4_readContribution_X4 tyX4 tyX4_ok nmX4 hown hK hP hD hS 0 0 rfl rfl rfl 2 (Nat.le_of_ble_eq_true rfl) (hts _ kX4_readContribution_0) (fun _ h9 => h9) rfl (by decide +kernel) rfl rfl (Nat.le_of_ble_eq_true rfl) dX4_readContribution_34 (by rw [eu4]; rfl) (fun H locs hP hD hS => ?_)
      refine lv_aload_n hx hb dX4_readContribution_37 rfl (lv_at hl 0 rfl) ?_
      refine lv_iconst (v := (0:Int32)) hx hb dX4_readContribution_38 (by decide) ?_
      refine lv_iconst (v := (5:Int32)) hx hb dX4_readContribution_39 (by decide) ?_
      refine lv_ldc (v := (-99999:Int32)) hx hb hown (hts _ kX4_readContribution_3) dX4_readContribution_40 ?_
      obtain ⟨q5, hq5, hf⟩ := bd_some hf
      refine g_callVi S (As := [.int (0:Int32), .int (5:Int32), .int (-99999:Int32)]) (gs' := [txW G a0 q5.2, stW G a1 v1]) (c_X4_readDigit l G a0 u4 (0:Int32) (5:Int32) (-99999:Int32) hq5) (cwV 3 hts gX4_readContribution_X4_readDigit rfl rfl rfl hd_X4_readDigit ⟨Nat.le_of_ble_eq_true rfl, Nat.le_of_ble_eq_true rfl⟩) hK hP hD hS hA (is := [0]) rfl rfl 0 rfl rfl rfl rfl hl.1 rfl (Nat.le_of_ble_eq_true rfl) dX4_readContribution_42 ⟨Nat.le_of_ble_eq_true rfl, Nat.le_of_ble_eq_true rfl⟩ rfl (fun H locs hP hD hS => ?_)
      refine lv_istore_n (lv' := [(2, .int q5.1), (0, .ref (a0 0)), (1, .ref (a1 0))]) hx hb dX4_readContribution_45 rfl hl (by decide) rfl (fun ls hl => ?_)
      refine lv_iload_n hx hb dX4_readContribution_46 rfl (lv_at hl 0 rfl) ?_
      refine lv_ldc (v := (-99999:Int32)) hx hb hown (hts _ kX4_readContribution_3) dX4_readContribution_47 ?_
      refine lv_icmp_ne (tgt := 54) hx hb dX4_readContribution_49 (by decide) (fun c6 => ?_) (fun c6 => ?_)
      · rw [if_neg c6] at hf
        refine lv_aload_n hx hb dX4_readContribution_54 rfl (lv_at hl 1 rfl) ?_
        refine lv_iload_n hx hb dX4_readContribution_55 rfl (lv_at hl 0 rfl) ?_
        refine lv_if_ne (tgt := 63) hx hb dX4_readContribution_56 (by decide) (fun c7 => ?_) (fun c7 => ?_)
        · rw [if_neg c7] at hf
          refine lv_iconst (v := (0:Int32)) hx hb dX4_readContribution_63 (by decide) ?_
          refine lv_iload_n hx hb dX4_readContribution_64 rfl (lv_at hl 0 rfl) ?_
          refine lv_iconst (v := (5:Int32)) hx hb dX4_readContribution_65 (by decide) ?_
          refine lv_icmp_ne (tgt := 73) hx hb dX4_readContribution_66 (by decide) (fun c8 => ?_) (fun c8 => ?_)
          · rw [if_neg c8] at hf
            refine lv_bipush (v := (9:Int32)) hx hb dX4_readContribution_73 (by decide) ?_
            refine lv_ldc (v := (-99999:Int32)) hx hb hown (hts _ kX4_readContribution_3) dX4_readContribution_75 ?_
            obtain ⟨q9, hq9, hf⟩ := bd_some hf
            refine g_callVi S (As := [.int (0:Int32), .int (9:Int32), .int (-99999:Int32)]) (gs' := [txW G a0 q9.2, stW G a1 v1]) (c_X4_readDigit l G a0 q5.2 (0:Int32) (9:Int32) (-99999:Int32) hq9) (cwV 3 hts gX4_readContribution_X4_readDigit rfl rfl rfl hd_X4_readDigit ⟨Nat.le_of_ble_eq_true rfl, Nat.le_of_ble_eq_true rfl⟩) hK hP hD hS hA (is := [0]) rfl rfl 0 rfl rfl rfl rfl hl.1 rfl (Nat.le_of_ble_eq_true rfl) dX4_readContribution_77 ⟨Nat.le_of_ble_eq_true rfl, Nat.le_of_ble_eq_true rfl⟩ rfl (fun H locs hP hD hS => ?_)
            refine lv_istore_n (lv' := [(3, .int q9.1), (2, .int q5.1), (0, .ref (a0 0)), (1, .ref (a1 0))]) hx hb dX4_readContribution_80 rfl hl (by decide) rfl (fun ls hl => ?_)
            refine lv_iload_n hx hb dX4_readContribution_81 rfl (lv_at hl 0 rfl) ?_
            refine lv_ldc (v := (-99999:Int32)) hx hb hown (hts _ kX4_readContribution_3) dX4_readContribution_82 ?_
            refine lv_icmp_ne (tgt := 89) hx hb dX4_readContribution_84 (by decide) (fun c10 => ?_) (fun c10 => ?_)
            · rw [if_neg c10] at hf
              refine lv_aload_n hx hb dX4_readContribution_89 rfl (lv_at hl 3 rfl) ?_
              refine lv_bipush (v := (10:Int32)) hx hb dX4_readContribution_90 (by decide) ?_
              refine lv_iload_n hx hb dX4_readContribution_92 rfl (lv_at hl 1 rfl) ?_
              refine lv_imul hx hb dX4_readContribution_93 ?_
              refine lv_iload_n hx hb dX4_readContribution_94 rfl (lv_at hl 0 rfl) ?_
              refine lv_iadd hx hb dX4_readContribution_95 ?_
              obtain ⟨q11, hq11, hf⟩ := bd_some hf
              refine g_callVv S (As := [.int (((10:Int32) * q5.1) + q9.1)]) (gs' := [txW G a0 q9.2, stW G a1 q11.2]) (c_X3_becomeEmpty l G a1 v1 (((10:Int32) * q5.1) + q9.1) hq11) (cwV 1 hts gX4_readContribution_X3_becomeEmpty rfl rfl rfl hd_X3_becomeEmpty ⟨Nat.le_of_ble_eq_true rfl, Nat.le_of_ble_eq_true rfl⟩) hK hP hD hS hA (is := [1]) rfl rfl 1 rfl rfl rfl rfl hl.1 rfl (Nat.le_of_ble_eq_true rfl) dX4_readContribution_96 ⟨Nat.le_of_ble_eq_true rfl, Nat.le_of_ble_eq_true rfl⟩ rfl (fun H locs hP hD hS => ?_)
              refine lv_iconst (v := (1:Int32)) hx hb dX4_readContribution_99 (by decide) ?_
              cases hf
              exact g_zret hx hb hr gz1 hlocks hP hS dX4_readContribution_100
            · rw [if_pos c10] at hf
              refine lv_iconst (v := (0:Int32)) hx hb dX4_readContribution_87 (by decide) ?_
              cases hf
              exact g_zret hx hb hr gz0 hlocks hP hS dX4_readContribution_88
          · rw [if_pos c8] at hf
            refine lv_iconst (v := (0:Int32)) hx hb dX4_readContribution_69 (by decide) ?_
            refine lv_goto (tgt := 75) hx hb dX4_readContribution_70 (by decide) ?_
            refine lv_ldc (v := (-99999:Int32)) hx hb hown (hts _ kX4_readContribution_3) dX4_readContribution_75 ?_
            obtain ⟨q12, hq12, hf⟩ := bd_some hf
            refine g_callVi S (As := [.int (0:Int32), .int (0:Int32), .int (-99999:Int32)]) (gs' := [txW G a0 q12.2, stW G a1 v1]) (c_X4_readDigit l G a0 q5.2 (0:Int32) (0:Int32) (-99999:Int32) hq12) (cwV 3 hts gX4_readContribution_X4_readDigit rfl rfl rfl hd_X4_readDigit ⟨Nat.le_of_ble_eq_true rfl, Nat.le_of_ble_eq_true rfl⟩) hK hP hD hS hA (is := [0]) rfl rfl 0 rfl rfl rfl rfl hl.1 rfl (Nat.le_of_ble_eq_true rfl) dX4_readContribution_77 ⟨Nat.le_of_ble_eq_true rfl, Nat.le_of_ble_eq_true rfl⟩ rfl (fun H locs hP hD hS => ?_)
            refine lv_istore_n (lv' := [(3, .int q12.1), (2, .int q5.1), (0, .ref (a0 0)), (1, .ref (a1 0))]) hx hb dX4_readContribution_80 rfl hl (by decide) rfl (fun ls hl => ?_)
            refine lv_iload_n hx hb dX4_readContribution_81 rfl (lv_at hl 0 rfl) ?_
            refine lv_ldc (v := (-99999:Int32)) hx hb hown (hts _ kX4_readContribution_3) dX4_readContribution_82 ?_
            refine lv_icmp_ne (tgt := 89) hx hb dX4_readContribution_84 (by decide) (fun c13 => ?_) (fun c13 => ?_)
            · rw [if_neg c13] at hf
              refine lv_aload_n hx hb dX4_readContribution_89 rfl (lv_at hl 3 rfl) ?_
              refine lv_bipush (v := (10:Int32)) hx hb dX4_readContribution_90 (by decide) ?_
              refine lv_iload_n hx hb dX4_readContribution_92 rfl (lv_at hl 1 rfl) ?_
              refine lv_imul hx hb dX4_readContribution_93 ?_
              refine lv_iload_n hx hb dX4_readContribution_94 rfl (lv_at hl 0 rfl) ?_
              refine lv_iadd hx hb dX4_readContribution_95 ?_
              obtain ⟨q14, hq14, hf⟩ := bd_some hf
              refine g_callVv S (As := [.int (((10:Int32) * q5.1) + q12.1)]) (gs' := [txW G a0 q12.2, stW G a1 q14.2]) (c_X3_becomeEmpty l G a1 v1 (((10:Int32) * q5.1) + q12.1) hq14) (cwV 1 hts gX4_readContribution_X3_becomeEmpty rfl rfl rfl hd_X3_becomeEmpty ⟨Nat.le_of_ble_eq_true rfl, Nat.le_of_ble_eq_true rfl⟩) hK hP hD hS hA (is := [1]) rfl rfl 1 rfl rfl rfl rfl hl.1 rfl (Nat.le_of_ble_eq_true rfl) dX4_readContribution_96 ⟨Nat.le_of_ble_eq_true rfl, Nat.le_of_ble_eq_true rfl⟩ rfl (fun H locs hP hD hS => ?_)
              refine lv_iconst (v := (1:Int32)) hx hb dX4_readContribution_99 (by decide) ?_
              cases hf
              exact g_zret hx hb hr gz1 hlocks hP hS dX4_readContribution_100
            · rw [if_pos c13] at hf
              refine lv_iconst (v := (0:Int32)) hx hb dX4_readContribution_87 (by decide) ?_
              cases hf
              exact g_zret hx hb hr gz0 hlocks hP hS dX4_readContribution_88
        · rw [if_pos c7] at hf
          refine lv_iconst (v := (1:Int32)) hx hb dX4_readContribution_59 (by decide) ?_
          refine lv_goto (tgt := 64) hx hb dX4_readContribution_60 (by decide) ?_
          refine lv_iload_n hx hb dX4_readContribution_64 rfl (lv_at hl 0 rfl) ?_
          refine lv_iconst (v := (5:Int32)) hx hb dX4_readContribution_65 (by decide) ?_
          refine lv_icmp_ne (tgt := 73) hx hb dX4_readContribution_66 (by decide) (fun c15 => ?_) (fun c15 => ?_)
          · rw [if_neg c15] at hf
            refine lv_bipush (v := (9:Int32)) hx hb dX4_readContribution_73 (by decide) ?_
            refine lv_ldc (v := (-99999:Int32)) hx hb hown (hts _ kX4_readContribution_3) dX4_readContribution_75 ?_
            obtain ⟨q16, hq16, hf⟩ := bd_some hf
            refine g_callVi S (As := [.int (1:Int32), .int (9:Int32), .int (-99999:Int32)]) (gs' := [txW G a0 q16.2, stW G a1 v1]) (c_X4_readDigit l G a0 q5.2 (1:Int32) (9:Int32) (-99999:Int32) hq16) (cwV 3 hts gX4_readContribution_X4_readDigit rfl rfl rfl hd_X4_readDigit ⟨Nat.le_of_ble_eq_true rfl, Nat.le_of_ble_eq_true rfl⟩) hK hP hD hS hA (is := [0]) rfl rfl 0 rfl rfl rfl rfl hl.1 rfl (Nat.le_of_ble_eq_true rfl) dX4_readContribution_77 ⟨Nat.le_of_ble_eq_true rfl, Nat.le_of_ble_eq_true rfl⟩ rfl (fun H locs hP hD hS => ?_)
            refine lv_istore_n (lv' := [(3, .int q16.1), (2, .int q5.1), (0, .ref (a0 0)), (1, .ref (a1 0))]) hx hb dX4_readContribution_80 rfl hl (by decide) rfl (fun ls hl => ?_)
            refine lv_iload_n hx hb dX4_readContribution_81 rfl (lv_at hl 0 rfl) ?_
            refine lv_ldc (v := (-99999:Int32)) hx hb hown (hts _ kX4_readContribution_3) dX4_readContribution_82 ?_
            refine lv_icmp_ne (tgt := 89) hx hb dX4_readContribution_84 (by decide) (fun c17 => ?_) (fun c17 => ?_)
            · rw [if_neg c17] at hf
              refine lv_aload_n hx hb dX4_readContribution_89 rfl (lv_at hl 3 rfl) ?_
              refine lv_bipush (v := (10:Int32)) hx hb dX4_readContribution_90 (by decide) ?_
              refine lv_iload_n hx hb dX4_readContribution_92 rfl (lv_at hl 1 rfl) ?_
              refine lv_imul hx hb dX4_readContribution_93 ?_
              refine lv_iload_n hx hb dX4_readContribution_94 rfl (lv_at hl 0 rfl) ?_
              refine lv_iadd hx hb dX4_readContribution_95 ?_
              obtain ⟨q18, hq18, hf⟩ := bd_some hf
              refine g_callVv S (As := [.int (((10:Int32) * q5.1) + q16.1)]) (gs' := [txW G a0 q16.2, stW G a1 q18.2]) (c_X3_becomeEmpty l G a1 v1 (((10:Int32) * q5.1) + q16.1) hq18) (cwV 1 hts gX4_readContribution_X3_becomeEmpty rfl rfl rfl hd_X3_becomeEmpty ⟨Nat.le_of_ble_eq_true rfl, Nat.le_of_ble_eq_true rfl⟩) hK hP hD hS hA (is := [1]) rfl rfl 1 rfl rfl rfl rfl hl.1 rfl (Nat.le_of_ble_eq_true rfl) dX4_readContribution_96 ⟨Nat.le_of_ble_eq_true rfl, Nat.le_of_ble_eq_true rfl⟩ rfl (fun H locs hP hD hS => ?_)
              refine lv_iconst (v := (1:Int32)) hx hb dX4_readContribution_99 (by decide) ?_
              cases hf
              exact g_zret hx hb hr gz1 hlocks hP hS dX4_readContribution_100
            · rw [if_pos c17] at hf
              refine lv_iconst (v := (0:Int32)) hx hb dX4_readContribution_87 (by decide) ?_
              cases hf
              exact g_zret hx hb hr gz0 hlocks hP hS dX4_readContribution_88
          · rw [if_pos c15] at hf
            refine lv_iconst (v := (0:Int32)) hx hb dX4_readContribution_69 (by decide) ?_
            refine lv_goto (tgt := 75) hx hb dX4_readContribution_70 (by decide) ?_
            refine lv_ldc (v := (-99999:Int32)) hx hb hown (hts _ kX4_readContribution_3) dX4_readContribution_75 ?_
            obtain ⟨q19, hq19, hf⟩ := bd_some hf
            refine g_callVi S (As := [.int (1:Int32), .int (0:Int32), .int (-99999:Int32)]) (gs' := [txW G a0 q19.2, stW G a1 v1]) (c_X4_readDigit l G a0 q5.2 (1:Int32) (0:Int32) (-99999:Int32) hq19) (cwV 3 hts gX4_readContribution_X4_readDigit rfl rfl rfl hd_X4_readDigit ⟨Nat.le_of_ble_eq_true rfl, Nat.le_of_ble_eq_true rfl⟩) hK hP hD hS hA (is := [0]) rfl rfl 0 rfl rfl rfl rfl hl.1 rfl (Nat.le_of_ble_eq_true rfl) dX4_readContribution_77 ⟨Nat.le_of_ble_eq_true rfl, Nat.le_of_ble_eq_true rfl⟩ rfl (fun H locs hP hD hS => ?_)
            refine lv_istore_n (lv' := [(3, .int q19.1), (2, .int q5.1), (0, .ref (a0 0)), (1, .ref (a1 0))]) hx hb dX4_readContribution_80 rfl hl (by decide) rfl (fun ls hl => ?_)
            refine lv_iload_n hx hb dX4_readContribution_81 rfl (lv_at hl 0 rfl) ?_
            refine lv_ldc (v := (-99999:Int32)) hx hb hown (hts _ kX4_readContribution_3) dX4_readContribution_82 ?_
            refine lv_icmp_ne (tgt := 89) hx hb dX4_readContribution_84 (by decide) (fun c20 => ?_) (fun c20 => ?_)
            · rw [if_neg c20] at hf
              refine lv_aload_n hx hb dX4_readContribution_89 rfl (lv_at hl 3 rfl) ?_
              refine lv_bipush (v := (10:Int32)) hx hb dX4_readContribution_90 (by decide) ?_
              refine lv_iload_n hx hb dX4_readContribution_92 rfl (lv_at hl 1 rfl) ?_
              refine lv_imul hx hb dX4_readContribution_93 ?_
              refine lv_iload_n hx hb dX4_readContribution_94 rfl (lv_at hl 0 rfl) ?_
              refine lv_iadd hx hb dX4_readContribution_95 ?_
              obtain ⟨q21, hq21, hf⟩ := bd_some hf
              refine g_callVv S (As := [.int (((10:Int32) * q5.1) + q19.1)]) (gs' := [txW G a0 q19.2, stW G a1 q21.2]) (c_X3_becomeEmpty l G a1 v1 (((10:Int32) * q5.1) + q19.1) hq21) (cwV 1 hts gX4_readContribution_X3_becomeEmpty rfl rfl rfl hd_X3_becomeEmpty ⟨Nat.le_of_ble_eq_true rfl, Nat.le_of_ble_eq_true rfl⟩) hK hP hD hS hA (is := [1]) rfl rfl 1 rfl rfl rfl rfl hl.1 rfl (Nat.le_of_ble_eq_true rfl) dX4_readContribution_96 ⟨Nat.le_of_ble_eq_true rfl, Nat.le_of_ble_eq_true rfl⟩ rfl (fun H locs hP hD hS => ?_)
              refine lv_iconst (v := (1:Int32)) hx hb dX4_readContribution_99 (by decide) ?_
              cases hf
              exact g_zret hx hb hr gz1 hlocks hP hS dX4_readContribution_100
            · rw [if_pos c20] at hf
              refine lv_iconst (v := (0:Int32)) hx hb dX4_readContribution_87 (by decide) ?_
              cases hf
              exact g_zret hx hb hr gz0 hlocks hP hS dX4_readContribution_88
      · rw [if_pos c6] at hf
        refine lv_iconst (v := (0:Int32)) hx hb dX4_readContribution_52 (by decide) ?_
        cases hf
        exact g_zret hx hb hr gz0 hlocks hP hS dX4_readContribution_53
    · rw [if_neg c3] at hf
      refine lv_iconst (v := (0:Int32)) hx hb dX4_readContribution_25 (by decide) ?_
      cases hf
      exact g_zret hx hb hr gz0 hlocks hP hS dX4_readContribution_26
theorem kX4_readThreeDigits_0 : Cond.constant RX4 29 (-99999) ∈ wsX4_readThreeDigits := (List.mem_cons_of_mem _ (List.mem_append_left _ (List.mem_of_getElem? (i := 0) rfl)))
set_option maxHeartbeats 4000000 in
set_option maxRecDepth 100000 in
theorem w_X4_readThreeDigits_4 {p : Program} {l : Launch} {e : Env} {s : State} {m : MethodId} {args : Array Value} {below : List Frame} {meth : Method} {c : Code} {A : Nat → Prop} {q : Int32 × (TxV)} (S : Ev p s m args meth c cX4_readThreeDigits 4 (some .int) yX4_readThreeDigits.cls wsX4_readThreeDigits) {G : uG} (hK : kK G s) (hA : ∀ q, s.heap.size ≤ q → A q) (_ : uG) (a0 : Nat → Nat) : ∀ (n : Nat) (z : (Int32 × Int32 × TxV)) (e1 : ((Int32 × Int32 × TxV) ⊕ (Int32 × (TxV)))) (_ : ∀ r, e1 = Sum.inr r → r = q), lp (b_X4_readThreeDigits_4) n z = some e1 → ∀ (H : Heap) (locs : List Loc) (ls : Array Slot), gP G [txW G a0 z.2.2] H → gD A [txW G a0 z.2.2] → va_S A s.heap H locs → lv_has ls 4 [(0, .ref (a0 0)), (1, .int z.1), (2, .int z.2.1)] → (∀ (s1 : (Int32 × Int32 × TxV)), e1 = .inl s1 → ∀ (H : Heap) (locs : List Loc) (ls : Array Slot), gP G [txW G a0 s1.2.2] H → gD A [txW G a0 s1.2.2] → va_S A s.heap H locs → lv_has ls 4 [(0, .ref (a0 0)), (1, .int s1.1), (2, .int s1.2.1)] → W p l e ({ frames := 1, cells := 0, slots := 0, locals := 24 } : Room) s m args below meth c H locs 0 0 (MQ below (qI G [txW G a0 q.2] q.1 A) args s 0 0 A) (F0 m 41 ls [])) → W p l e ({ frames := 1, cells := 0, slots := 0, locals := 24 } : Room) s m args below meth c H locs 0 0 (MQ below (qI G [txW G a0 q.2] q.1 A) args s 0 0 A) (F0 m 4 ls []) := by
  obtain ⟨hx, hb, hml, hown, hts, hr, hlocks⟩ := id S
  intro n
  induction n with
  | zero => intro z e1 hE h; cases h
  | succ n ih =>
    intro z e1 hE hlp H locs ls hP hD hS hl K
    obtain ⟨z9, hf, hz⟩ := lp_s hlp
    unfold b_X4_readThreeDigits_4 at hf
    refine lv_iload_n hx hb dX4_readThreeDigits_4 rfl (lv_at hl 2 rfl) ?_
    refine lv_iconst (v := (3:Int32)) hx hb dX4_readThreeDigits_5 (by decide) ?_
    refine lv_icmp_ge (tgt := 41) hx hb dX4_readThreeDigits_6 (by decide) (fun c1 => ?_) (fun c1 => ?_)
    · rw [if_pos c1] at hf
      have he := lz_r hf hz
      exact K _ he.symm H locs ls hP hD hS (lv_sub hl [0, 1, 2] rfl)
    · rw [if_neg c1] at hf
      refine lv_aload_n hx hb dX4_readThreeDigits_9 rfl (lv_at hl 0 rfl) ?_
      refine lv_iconst (v := (0:Int32)) hx hb dX4_readThreeDigits_10 (by decide) ?_
      refine lv_bipush (v := (9:Int32)) hx hb dX4_readThreeDigits_11 (by decide) ?_
      refine lv_ldc (v := (-99999:Int32)) hx hb hown (hts _ kX4_readThreeDigits_0) dX4_readThreeDigits_13 ?_
      obtain ⟨q2, hq2, hf⟩ := bd_some hf
      refine g_callVi S (As := [.int (0:Int32), .int (9:Int32), .int (-99999:Int32)]) (gs' := [txW G a0 q2.2]) (c_X4_readDigit l G a0 z.2.2 (0:Int32) (9:Int32) (-99999:Int32) hq2) (cwV 3 hts gX4_readThreeDigits_X4_readDigit rfl rfl rfl hd_X4_readDigit ⟨Nat.le_of_ble_eq_true rfl, Nat.le_of_ble_eq_true rfl⟩) hK hP hD hS hA (is := [0]) rfl rfl 0 rfl rfl rfl rfl hl.1 rfl (Nat.le_of_ble_eq_true rfl) dX4_readThreeDigits_15 ⟨Nat.le_of_ble_eq_true rfl, Nat.le_of_ble_eq_true rfl⟩ rfl (fun H locs hP hD hS => ?_)
      refine lv_istore_n (lv' := [(3, .int q2.1), (0, .ref (a0 0)), (1, .int z.1), (2, .int z.2.1)]) hx hb dX4_readThreeDigits_18 rfl hl (by decide) rfl (fun ls hl => ?_)
      refine lv_iload_n hx hb dX4_readThreeDigits_19 rfl (lv_at hl 0 rfl) ?_
      refine lv_ldc (v := (-99999:Int32)) hx hb hown (hts _ kX4_readThreeDigits_0) dX4_readThreeDigits_20 ?_
      refine lv_icmp_ne (tgt := 28) hx hb dX4_readThreeDigits_22 (by decide) (fun c3 => ?_) (fun c3 => ?_)
      · rw [if_neg c3] at hf
        refine lv_bipush (v := (10:Int32)) hx hb dX4_readThreeDigits_28 (by decide) ?_
        refine lv_iload_n hx hb dX4_readThreeDigits_30 rfl (lv_at hl 2 rfl) ?_
        refine lv_imul hx hb dX4_readThreeDigits_31 ?_
        refine lv_iload_n hx hb dX4_readThreeDigits_32 rfl (lv_at hl 0 rfl) ?_
        refine lv_iadd hx hb dX4_readThreeDigits_33 ?_
        obtain ⟨x4, ex4, hf⟩ := lt_some hf
        refine lv_nmi ex4 ?_
        refine lv_istore_n (lv' := [(1, .int x4), (3, .int q2.1), (0, .ref (a0 0)), (2, .int z.2.1)]) hx hb dX4_readThreeDigits_34 rfl hl (by decide) rfl (fun ls hl => ?_)
        obtain ⟨x5, ex5, hf⟩ := lt_some hf
        refine lv_iinc (v := x5) (lv' := [(2, .int x5), (1, .int x4), (3, .int q2.1), (0, .ref (a0 0))]) hx hb dX4_readThreeDigits_35 hl (k := 3) rfl (by rw [ex5]; rfl) (by decide) rfl (fun ls hl => ?_)
        refine lv_goto (tgt := 4) hx hb dX4_readThreeDigits_38 (by decide) ?_
        exact ih _ e1 hE (lz_l hf hz) H locs ls hP hD hS (lv_sub hl [3, 1, 0] rfl) K
      · rw [if_pos c3] at hf
        refine lv_ldc (v := (-99999:Int32)) hx hb hown (hts _ kX4_readThreeDigits_0) dX4_readThreeDigits_25 ?_
        have he := lz_r hf hz
        have hq := hE _ he.symm
        subst hq
        exact g_iret hx hb hr hlocks hP hS dX4_readThreeDigits_27
set_option maxHeartbeats 4000000 in
set_option maxRecDepth 100000 in
theorem c_X4_readThreeDigits (l : Launch) (G : uG) (a0 : Nat → Nat) (v0 : TxV) {q : Int32 × (TxV)} (hf : f_X4_readThreeDigits v0 = some q) : mQ l yX4_readThreeDigits wsX4_readThreeDigits ({ frames := 1, cells := 0, slots := 0, locals := 24 } : Room) G [.ref (a0 0)] [txW G a0 v0] [txW G a0 q.2] (qI G [txW G a0 q.2] q.1) := by
  unfold f_X4_readThreeDigits at hf
  refine m_of (cc := cX4_readThreeDigits) (maxL := 4) (ret := (some .int)) (by decide) rfl rfl (Nat.le_of_ble_eq_true rfl) ?_
  intro p e s m args below meth c A ls S hK hA hP hD hS hl
  obtain ⟨hx, hb, hml, hown, hts, hr, hlocks⟩ := id S
  have hl : lv_has ls 4 [(0, .ref (a0 0))] := hl
  refine lv_iconst (v := (0:Int32)) hx hb dX4_readThreeDigits_0 (by decide) ?_
  refine lv_istore_n (lv' := [(1, .int (0:Int32)), (0, .ref (a0 0))]) hx hb dX4_readThreeDigits_1 rfl hl (by decide) rfl (fun ls hl => ?_)
  refine lv_iconst (v := (0:Int32)) hx hb dX4_readThreeDigits_2 (by decide) ?_
  refine lv_istore_n (lv' := [(2, .int (0:Int32)), (1, .int (0:Int32)), (0, .ref (a0 0))]) hx hb dX4_readThreeDigits_3 rfl hl (by decide) rfl (fun ls hl => ?_)
  obtain ⟨e6, he6, hf⟩ := bd_some hf
  refine w_X4_readThreeDigits_4 S hK hA G a0 FU _ e6 (fun r hr9 => by subst hr9; exact (Option.some.inj hf)) he6 _ _ _ hP hD hS (lv_sub hl [2, 1, 0] rfl) (fun s7 hs9 H locs ls hP hD hS hl => ?_)
  subst hs9
  have hf := el_h hf
  refine lv_iload_n hx hb dX4_readThreeDigits_41 rfl (lv_at hl 1 rfl) ?_
  cases hf
  exact g_iret hx hb hr hlocks hP hS dX4_readThreeDigits_42
theorem kX4_readMember_0 : Cond.constant RX4 29 (-99999) ∈ wsX4_readMember := (List.mem_cons_of_mem _ (List.mem_append_left _ (List.mem_append_left _ (List.mem_append_left _ (List.mem_of_getElem? (i := 0) rfl)))))
set_option maxHeartbeats 4000000 in
set_option maxRecDepth 100000 in
theorem c_X4_readMember (l : Launch) (G : uG) (a0 : Nat → Nat) (a1 : Nat → Nat) (v0 : TxV) (v1 : StV) {q : Int32 × (TxV × StV)} (hf : f_X4_readMember v0 v1 = some q) : mQ l yX4_readMember wsX4_readMember ({ frames := 2, cells := 0, slots := 0, locals := 47 } : Room) G [.ref (a0 0), .ref (a1 0)] [txW G a0 v0, stW G a1 v1] [txW G a0 q.2.1, stW G a1 q.2.2] (qI G [txW G a0 q.2.1, stW G a1 q.2.2] q.1) := by
  unfold f_X4_readMember at hf
  refine m_of (cc := cX4_readMember) (maxL := 3) (ret := (some .boolean)) (by decide) rfl rfl (Nat.le_of_ble_eq_true rfl) ?_
  intro p e s m args below meth c A ls S hK hA hP hD hS hl
  obtain ⟨hx, hb, hml, hown, hts, hr, hlocks⟩ := id S
  have hl : lv_has ls 3 [(0, .ref (a0 0)), (1, .ref (a1 0))] := hl
  refine lv_aload_n hx hb dX4_readMember_0 rfl (lv_at hl 0 rfl) ?_
  obtain ⟨q1, hq1, hf⟩ := bd_some hf
  refine g_callVi S (As := []) (gs' := [txW G a0 q1.2, stW G a1 v1]) (c_X4_readThreeDigits l G a0 v0 hq1) (cwV 0 hts gX4_readMember_X4_readThreeDigits rfl rfl rfl hd_X4_readThreeDigits ⟨Nat.le_of_ble_eq_true rfl, Nat.le_of_ble_eq_true rfl⟩) hK hP hD hS hA (is := [0]) rfl rfl 0 rfl rfl rfl rfl hl.1 rfl (Nat.le_of_ble_eq_true rfl) dX4_readMember_1 ⟨Nat.le_of_ble_eq_true rfl, Nat.le_of_ble_eq_true rfl⟩ rfl (fun H locs hP hD hS => ?_)
  refine lv_istore_n (lv' := [(2, .int q1.1), (0, .ref (a0 0)), (1, .ref (a1 0))]) hx hb dX4_readMember_4 rfl hl (by decide) rfl (fun ls hl => ?_)
  refine lv_iload_n hx hb dX4_readMember_5 rfl (lv_at hl 0 rfl) ?_
  refine lv_ldc (v := (-99999:Int32)) hx hb hown (hts _ kX4_readMember_0) dX4_readMember_6 ?_
  refine lv_icmp_ne (tgt := 13) hx hb dX4_readMember_8 (by decide) (fun c2 => ?_) (fun c2 => ?_)
  · rw [if_neg c2] at hf
    refine lv_aload_n hx hb dX4_readMember_13 rfl (lv_at hl 2 rfl) ?_
    refine lv_iload_n hx hb dX4_readMember_14 rfl (lv_at hl 0 rfl) ?_
    obtain ⟨q3, hq3, hf⟩ := bd_some hf
    refine g_callVi S (As := [.int q1.1]) (gs' := [txW G a0 q1.2, stW G a1 q3.2]) (c_X3_join l G a1 v1 q1.1 hq3) (cwV 1 hts gX4_readMember_X3_join rfl rfl rfl hd_X3_join ⟨Nat.le_of_ble_eq_true rfl, Nat.le_of_ble_eq_true rfl⟩) hK hP hD hS hA (is := [1]) rfl rfl 1 rfl rfl rfl rfl hl.1 rfl (Nat.le_of_ble_eq_true rfl) dX4_readMember_15 ⟨Nat.le_of_ble_eq_true rfl, Nat.le_of_ble_eq_true rfl⟩ rfl (fun H locs hP hD hS => ?_)
    refine lv_pop hx hb dX4_readMember_18 rfl ?_
    refine lv_iconst (v := (1:Int32)) hx hb dX4_readMember_19 (by decide) ?_
    cases hf
    exact g_zret hx hb hr gz1 hlocks hP hS dX4_readMember_20
  · rw [if_pos c2] at hf
    refine lv_iconst (v := (0:Int32)) hx hb dX4_readMember_11 (by decide) ?_
    cases hf
    exact g_zret hx hb hr gz0 hlocks hP hS dX4_readMember_12
theorem kX4_readGuarantor_0 : Cond.fieldLink RX4 43 "SavingsCircle$State" "count" "I" ∈ wsX4_readGuarantor := (List.mem_cons_of_mem _ (List.mem_append_left _ (List.mem_append_left _ (List.mem_of_getElem? (i := 0) rfl))))
theorem kX4_readGuarantor_1 : Cond.constant RX4 29 (-99999) ∈ wsX4_readGuarantor := (List.mem_cons_of_mem _ (List.mem_append_left _ (List.mem_append_left _ (List.mem_of_getElem? (i := 1) rfl))))
theorem kX4_readGuarantor_2 : Cond.fieldLink RX4 63 "SavingsCircle$State" "guarantor" "[I" ∈ wsX4_readGuarantor := (List.mem_cons_of_mem _ (List.mem_append_left _ (List.mem_append_left _ (List.mem_of_getElem? (i := 2) rfl))))
theorem iwX4_readGuarantor_X3 : ∀ w ∈ wsX30, w ∈ wsX4_readGuarantor := fun w h => (List.mem_cons_of_mem _ (List.mem_append_left _ (List.mem_append_right _ h)))
set_option maxHeartbeats 4000000 in
set_option maxRecDepth 100000 in
theorem c_X4_readGuarantor (l : Launch) (G : uG) (a0 : Nat → Nat) (a1 : Nat → Nat) (v0 : TxV) (v1 : StV) {q : Int32 × (TxV × StV)} (hf : f_X4_readGuarantor v0 v1 = some q) : mQ l yX4_readGuarantor wsX4_readGuarantor ({ frames := 1, cells := 0, slots := 0, locals := 24 } : Room) G [.ref (a0 0), .ref (a1 0)] [txW G a0 v0, stW G a1 v1] [txW G a0 q.2.1, stW G a1 q.2.2] (qI G [txW G a0 q.2.1, stW G a1 q.2.2] q.1) := by
  unfold f_X4_readGuarantor at hf
  refine m_of (cc := cX4_readGuarantor) (maxL := 4) (ret := (some .boolean)) (by decide) rfl rfl (Nat.le_of_ble_eq_true rfl) ?_
  intro p e s m args below meth c A ls S hK hA hP hD hS hl
  obtain ⟨hx, hb, hml, hown, hts, hr, hlocks⟩ := id S
  have hl : lv_has ls 4 [(0, .ref (a0 0)), (1, .ref (a1 0))] := hl
  refine lv_aload_n hx hb dX4_readGuarantor_0 rfl (lv_at hl 0 rfl) ?_
  refine lv_iconst (v := (0:Int32)) hx hb dX4_readGuarantor_1 (by decide) ?_
  refine lv_aload_n hx hb dX4_readGuarantor_2 rfl (lv_at hl 1 rfl) ?_
  refine g_get (C := RX3) (T := TX3) (N := 17) hx hb hts iwX4_readGuarantor_X3 hown hK hP 1 0 rfl rfl rfl 0 (Nat.le_of_ble_eq_true rfl) (hts _ kX4_readGuarantor_0) (fun _ h9 => h9) rfl dX4_readGuarantor_3 ?_
  refine lv_iconst (v := (1:Int32)) hx hb dX4_readGuarantor_6 (by decide) ?_
  refine lv_isub hx hb dX4_readGuarantor_7 ?_
  refine lv_ldc (v := (-99999:Int32)) hx hb hown (hts _ kX4_readGuarantor_1) dX4_readGuarantor_8 ?_
  obtain ⟨q1, hq1, hf⟩ := bd_some hf
  refine g_callVi S (As := [.int (0:Int32), .int ((St_count v1) - (1:Int32)), .int (-99999:Int32)]) (gs' := [txW G a0 q1.2, stW G a1 v1]) (c_X4_readDigit l G a0 v0 (0:Int32) ((St_count v1) - (1:Int32)) (-99999:Int32) hq1) (cwV 3 hts gX4_readGuarantor_X4_readDigit rfl rfl rfl hd_X4_readDigit ⟨Nat.le_of_ble_eq_true rfl, Nat.le_of_ble_eq_true rfl⟩) hK hP hD hS hA (is := [0]) rfl rfl 0 rfl rfl rfl rfl hl.1 rfl (Nat.le_of_ble_eq_true rfl) dX4_readGuarantor_10 ⟨Nat.le_of_ble_eq_true rfl, Nat.le_of_ble_eq_true rfl⟩ rfl (fun H locs hP hD hS => ?_)
  refine lv_istore_n (lv' := [(2, .int q1.1), (0, .ref (a0 0)), (1, .ref (a1 0))]) hx hb dX4_readGuarantor_13 rfl hl (by decide) rfl (fun ls hl => ?_)
  refine lv_iload_n hx hb dX4_readGuarantor_14 rfl (lv_at hl 0 rfl) ?_
  refine lv_ldc (v := (-99999:Int32)) hx hb hown (hts _ kX4_readGuarantor_1) dX4_readGuarantor_15 ?_
  refine lv_icmp_ne (tgt := 22) hx hb dX4_readGuarantor_17 (by decide) (fun c2 => ?_) (fun c2 => ?_)
  · rw [if_neg c2] at hf
    refine lv_aload_n hx hb dX4_readGuarantor_22 rfl (lv_at hl 1 rfl) ?_
    refine lv_iconst (v := (0:Int32)) hx hb dX4_readGuarantor_23 (by decide) ?_
    refine lv_aload_n hx hb dX4_readGuarantor_24 rfl (lv_at hl 2 rfl) ?_
    refine g_get (C := RX3) (T := TX3) (N := 17) hx hb hts iwX4_readGuarantor_X3 hown hK hP 1 0 rfl rfl rfl 0 (Nat.le_of_ble_eq_true rfl) (hts _ kX4_readGuarantor_0) (fun _ h9 => h9) rfl dX4_readGuarantor_25 ?_
    refine lv_iconst (v := (1:Int32)) hx hb dX4_readGuarantor_28 (by decide) ?_
    refine lv_isub hx hb dX4_readGuarantor_29 ?_
    refine lv_iload_n hx hb dX4_readGuarantor_30 rfl (lv_at hl 0 rfl) ?_
    obtain ⟨q3, hq3, hf⟩ := bd_some hf
    refine g_callVi S (As := [.int (0:Int32), .int ((St_count v1) - (1:Int32)), .int q1.1]) (gs' := [txW G a0 q3.2, stW G a1 v1]) (c_X4_readDigit l G a0 q1.2 (0:Int32) ((St_count v1) - (1:Int32)) q1.1 hq3) (cwV 3 hts gX4_readGuarantor_X4_readDigit rfl rfl rfl hd_X4_readDigit ⟨Nat.le_of_ble_eq_true rfl, Nat.le_of_ble_eq_true rfl⟩) hK hP hD hS hA (is := [0]) rfl rfl 0 rfl rfl rfl rfl hl.1 rfl (Nat.le_of_ble_eq_true rfl) dX4_readGuarantor_31 ⟨Nat.le_of_ble_eq_true rfl, Nat.le_of_ble_eq_true rfl⟩ rfl (fun H locs hP hD hS => ?_)
    refine lv_istore_n (lv' := [(3, .int q3.1), (2, .int q1.1), (0, .ref (a0 0)), (1, .ref (a1 0))]) hx hb dX4_readGuarantor_34 rfl hl (by decide) rfl (fun ls hl => ?_)
    refine lv_iload_n hx hb dX4_readGuarantor_35 rfl (lv_at hl 0 rfl) ?_
    refine lv_ldc (v := (-99999:Int32)) hx hb hown (hts _ kX4_readGuarantor_1) dX4_readGuarantor_36 ?_
    refine lv_icmp_ne (tgt := 43) hx hb dX4_readGuarantor_38 (by decide) (fun c4 => ?_) (fun c4 => ?_)
    · rw [if_neg c4] at hf
      refine lv_aload_n hx hb dX4_readGuarantor_43 rfl (lv_at hl 3 rfl) ?_
      refine g_get (C := RX3) (T := TX3) (N := 17) hx hb hts iwX4_readGuarantor_X3 hown hK hP 1 0 rfl rfl rfl 6 (Nat.le_of_ble_eq_true rfl) (hts _ kX4_readGuarantor_2) (fun _ h9 => h9) rfl dX4_readGuarantor_44 ?_
      refine lv_iload_n hx hb dX4_readGuarantor_47 rfl (lv_at hl 1 rfl) ?_
      refine lv_iload_n hx hb dX4_readGuarantor_48 rfl (lv_at hl 0 rfl) ?_
      obtain ⟨h5, hf⟩ := gi_some hf
      obtain ⟨u6, eu6, hf⟩ := lt_some hf
      refine g_iast (gs' := [txW G a0 q3.2, stW G a1 u6]) hx hb hK hP hD hS 1 2 0 rfl rfl rfl h5 dX4_readGuarantor_49 (by rw [eu6]; rfl) (fun H locs hP hD hS => ?_)
      refine lv_iconst (v := (1:Int32)) hx hb dX4_readGuarantor_50 (by decide) ?_
      cases hf
      exact g_zret hx hb hr gz1 hlocks hP hS dX4_readGuarantor_51
    · rw [if_pos c4] at hf
      refine lv_iconst (v := (0:Int32)) hx hb dX4_readGuarantor_41 (by decide) ?_
      cases hf
      exact g_zret hx hb hr gz0 hlocks hP hS dX4_readGuarantor_42
  · rw [if_pos c2] at hf
    refine lv_iconst (v := (0:Int32)) hx hb dX4_readGuarantor_20 (by decide) ?_
    cases hf
    exact g_zret hx hb hr gz0 hlocks hP hS dX4_readGuarantor_21
theorem kX4_readBid_0 : Cond.fieldLink RX4 43 "SavingsCircle$State" "count" "I" ∈ wsX4_readBid := (List.mem_cons_of_mem _ (List.mem_append_left _ (List.mem_append_left _ (List.mem_of_getElem? (i := 0) rfl))))
theorem kX4_readBid_1 : Cond.constant RX4 29 (-99999) ∈ wsX4_readBid := (List.mem_cons_of_mem _ (List.mem_append_left _ (List.mem_append_left _ (List.mem_of_getElem? (i := 1) rfl))))
theorem kX4_readBid_2 : Cond.fieldLink RX4 66 "SavingsCircle$State" "bid" "[I" ∈ wsX4_readBid := (List.mem_cons_of_mem _ (List.mem_append_left _ (List.mem_append_left _ (List.mem_of_getElem? (i := 2) rfl))))
theorem iwX4_readBid_X3 : ∀ w ∈ wsX30, w ∈ wsX4_readBid := fun w h => (List.mem_cons_of_mem _ (List.mem_append_left _ (List.mem_append_right _ h)))
set_option maxHeartbeats 4000000 in
set_option maxRecDepth 100000 in
theorem c_X4_readBid (l : Launch) (G : uG) (a0 : Nat → Nat) (a1 : Nat → Nat) (v0 : TxV) (v1 : StV) {q : Int32 × (TxV × StV)} (hf : f_X4_readBid v0 v1 = some q) : mQ l yX4_readBid wsX4_readBid ({ frames := 2, cells := 0, slots := 0, locals := 47 } : Room) G [.ref (a0 0), .ref (a1 0)] [txW G a0 v0, stW G a1 v1] [txW G a0 q.2.1, stW G a1 q.2.2] (qI G [txW G a0 q.2.1, stW G a1 q.2.2] q.1) := by
  unfold f_X4_readBid at hf
  refine m_of (cc := cX4_readBid) (maxL := 4) (ret := (some .boolean)) (by decide) rfl rfl (Nat.le_of_ble_eq_true rfl) ?_
  intro p e s m args below meth c A ls S hK hA hP hD hS hl
  obtain ⟨hx, hb, hml, hown, hts, hr, hlocks⟩ := id S
  have hl : lv_has ls 4 [(0, .ref (a0 0)), (1, .ref (a1 0))] := hl
  refine lv_aload_n hx hb dX4_readBid_0 rfl (lv_at hl 0 rfl) ?_
  refine lv_iconst (v := (0:Int32)) hx hb dX4_readBid_1 (by decide) ?_
  refine lv_aload_n hx hb dX4_readBid_2 rfl (lv_at hl 1 rfl) ?_
  refine g_get (C := RX3) (T := TX3) (N := 17) hx hb hts iwX4_readBid_X3 hown hK hP 1 0 rfl rfl rfl 0 (Nat.le_of_ble_eq_true rfl) (hts _ kX4_readBid_0) (fun _ h9 => h9) rfl dX4_readBid_3 ?_
  refine lv_iconst (v := (1:Int32)) hx hb dX4_readBid_6 (by decide) ?_
  refine lv_isub hx hb dX4_readBid_7 ?_
  refine lv_ldc (v := (-99999:Int32)) hx hb hown (hts _ kX4_readBid_1) dX4_readBid_8 ?_
  obtain ⟨q1, hq1, hf⟩ := bd_some hf
  refine g_callVi S (As := [.int (0:Int32), .int ((St_count v1) - (1:Int32)), .int (-99999:Int32)]) (gs' := [txW G a0 q1.2, stW G a1 v1]) (c_X4_readDigit l G a0 v0 (0:Int32) ((St_count v1) - (1:Int32)) (-99999:Int32) hq1) (cwV 3 hts gX4_readBid_X4_readDigit rfl rfl rfl hd_X4_readDigit ⟨Nat.le_of_ble_eq_true rfl, Nat.le_of_ble_eq_true rfl⟩) hK hP hD hS hA (is := [0]) rfl rfl 0 rfl rfl rfl rfl hl.1 rfl (Nat.le_of_ble_eq_true rfl) dX4_readBid_10 ⟨Nat.le_of_ble_eq_true rfl, Nat.le_of_ble_eq_true rfl⟩ rfl (fun H locs hP hD hS => ?_)
  refine lv_istore_n (lv' := [(2, .int q1.1), (0, .ref (a0 0)), (1, .ref (a1 0))]) hx hb dX4_readBid_13 rfl hl (by decide) rfl (fun ls hl => ?_)
  refine lv_iload_n hx hb dX4_readBid_14 rfl (lv_at hl 0 rfl) ?_
  refine lv_ldc (v := (-99999:Int32)) hx hb hown (hts _ kX4_readBid_1) dX4_readBid_15 ?_
  refine lv_icmp_ne (tgt := 22) hx hb dX4_readBid_17 (by decide) (fun c2 => ?_) (fun c2 => ?_)
  · rw [if_neg c2] at hf
    refine lv_aload_n hx hb dX4_readBid_22 rfl (lv_at hl 1 rfl) ?_
    obtain ⟨q3, hq3, hf⟩ := bd_some hf
    refine g_callVi S (As := []) (gs' := [txW G a0 q3.2, stW G a1 v1]) (c_X4_readThreeDigits l G a0 q1.2 hq3) (cwV 0 hts gX4_readBid_X4_readThreeDigits rfl rfl rfl hd_X4_readThreeDigits ⟨Nat.le_of_ble_eq_true rfl, Nat.le_of_ble_eq_true rfl⟩) hK hP hD hS hA (is := [0]) rfl rfl 0 rfl rfl rfl rfl hl.1 rfl (Nat.le_of_ble_eq_true rfl) dX4_readBid_23 ⟨Nat.le_of_ble_eq_true rfl, Nat.le_of_ble_eq_true rfl⟩ rfl (fun H locs hP hD hS => ?_)
    refine lv_istore_n (lv' := [(3, .int q3.1), (2, .int q1.1), (0, .ref (a0 0)), (1, .ref (a1 0))]) hx hb dX4_readBid_26 rfl hl (by decide) rfl (fun ls hl => ?_)
    refine lv_iload_n hx hb dX4_readBid_27 rfl (lv_at hl 0 rfl) ?_
    refine lv_ldc (v := (-99999:Int32)) hx hb hown (hts _ kX4_readBid_1) dX4_readBid_28 ?_
    refine lv_icmp_ne (tgt := 35) hx hb dX4_readBid_30 (by decide) (fun c4 => ?_) (fun c4 => ?_)
    · rw [if_neg c4] at hf
      refine lv_aload_n hx hb dX4_readBid_35 rfl (lv_at hl 3 rfl) ?_
      refine g_get (C := RX3) (T := TX3) (N := 17) hx hb hts iwX4_readBid_X3 hown hK hP 1 0 rfl rfl rfl 7 (Nat.le_of_ble_eq_true rfl) (hts _ kX4_readBid_2) (fun _ h9 => h9) rfl dX4_readBid_36 ?_
      refine lv_iload_n hx hb dX4_readBid_39 rfl (lv_at hl 1 rfl) ?_
      refine lv_iload_n hx hb dX4_readBid_40 rfl (lv_at hl 0 rfl) ?_
      obtain ⟨h5, hf⟩ := gi_some hf
      obtain ⟨u6, eu6, hf⟩ := lt_some hf
      refine g_iast (gs' := [txW G a0 q3.2, stW G a1 u6]) hx hb hK hP hD hS 1 3 0 rfl rfl rfl h5 dX4_readBid_41 (by rw [eu6]; rfl) (fun H locs hP hD hS => ?_)
      refine lv_iconst (v := (1:Int32)) hx hb dX4_readBid_42 (by decide) ?_
      cases hf
      exact g_zret hx hb hr gz1 hlocks hP hS dX4_readBid_43
    · rw [if_pos c4] at hf
      refine lv_iconst (v := (0:Int32)) hx hb dX4_readBid_33 (by decide) ?_
      cases hf
      exact g_zret hx hb hr gz0 hlocks hP hS dX4_readBid_34
  · rw [if_pos c2] at hf
    refine lv_iconst (v := (0:Int32)) hx hb dX4_readBid_20 (by decide) ?_
    cases hf
    exact g_zret hx hb hr gz0 hlocks hP hS dX4_readBid_21
theorem kX4_readPart_0 : Cond.fieldLink RX4 19 "SavingsCircle$Text" "at" "I" ∈ wsX4_readPart := (List.mem_cons_of_mem _ (List.mem_append_left _ (List.mem_append_left _ (List.mem_append_left _ (List.mem_of_getElem? (i := 0) rfl)))))
theorem kX4_readPart_1 : Cond.fieldLink RX4 15 "SavingsCircle$Text" "length" "I" ∈ wsX4_readPart := (List.mem_cons_of_mem _ (List.mem_append_left _ (List.mem_append_left _ (List.mem_append_left _ (List.mem_of_getElem? (i := 1) rfl)))))
theorem kX4_readPart_2 : Cond.fieldLink RX4 43 "SavingsCircle$State" "count" "I" ∈ wsX4_readPart := (List.mem_cons_of_mem _ (List.mem_append_left _ (List.mem_append_left _ (List.mem_append_left _ (List.mem_of_getElem? (i := 3) rfl)))))
theorem kX4_readPart_3 : Cond.fieldLink RX4 9 "SavingsCircle$Text" "signs" "[I" ∈ wsX4_readPart := (List.mem_cons_of_mem _ (List.mem_append_left _ (List.mem_append_left _ (List.mem_append_left _ (List.mem_of_getElem? (i := 2) rfl)))))
theorem iwX4_readPart_X4 : ∀ w ∈ wsX40, w ∈ wsX4_readPart := fun w h => (List.mem_cons_of_mem _ (List.mem_append_left _ (List.mem_append_right _ h)))
theorem iwX4_readPart_X3 : ∀ w ∈ wsX30, w ∈ wsX4_readPart := fun w h => (List.mem_cons_of_mem _ (List.mem_append_right _ h))
set_option maxHeartbeats 4000000 in
set_option maxRecDepth 100000 in
theorem c_X4_readPart (l : Launch) (G : uG) (a0 : Nat → Nat) (a1 : Nat → Nat) (v0 : TxV) (v1 : StV) {q : Int32 × (TxV × StV)} (hf : f_X4_readPart v0 v1 = some q) : mQ l yX4_readPart wsX4_readPart ({ frames := 3, cells := 0, slots := 0, locals := 70 } : Room) G [.ref (a0 0), .ref (a1 0)] [txW G a0 v0, stW G a1 v1] [txW G a0 q.2.1, stW G a1 q.2.2] (qI G [txW G a0 q.2.1, stW G a1 q.2.2] q.1) := by
  unfold f_X4_readPart at hf
  refine m_of (cc := cX4_readPart) (maxL := 3) (ret := (some .boolean)) (by decide) rfl rfl (Nat.le_of_ble_eq_true rfl) ?_
  intro p e s m args below meth c A ls S hK hA hP hD hS hl
  obtain ⟨hx, hb, hml, hown, hts, hr, hlocks⟩ := id S
  have hl : lv_has ls 3 [(0, .ref (a0 0)), (1, .ref (a1 0))] := hl
  refine lv_aload_n hx hb dX4_readPart_0 rfl (lv_at hl 0 rfl) ?_
  refine g_get (C := RX4) (T := TX4) (N := 3) hx hb hts iwX4_readPart_X4 hown hK hP 0 0 rfl rfl rfl 2 (Nat.le_of_ble_eq_true rfl) (hts _ kX4_readPart_0) (fun _ h9 => h9) rfl dX4_readPart_1 ?_
  refine lv_aload_n hx hb dX4_readPart_4 rfl (lv_at hl 0 rfl) ?_
  refine g_get (C := RX4) (T := TX4) (N := 3) hx hb hts iwX4_readPart_X4 hown hK hP 0 0 rfl rfl rfl 1 (Nat.le_of_ble_eq_true rfl) (hts _ kX4_readPart_1) (fun _ h9 => h9) rfl dX4_readPart_5 ?_
  refine lv_icmp_ge (tgt := 23) hx hb dX4_readPart_8 (by decide) (fun c1 => ?_) (fun c1 => ?_)
  · rw [if_pos c1] at hf
    refine lv_iconst (v := (0:Int32)) hx hb dX4_readPart_23 (by decide) ?_
    refine lv_istore_n (lv' := [(2, .int (0:Int32)), (0, .ref (a0 0)), (1, .ref (a1 0))]) hx hb dX4_readPart_24 rfl hl (by decide) rfl (fun ls hl => ?_)
    refine lv_iload_n hx hb dX4_readPart_25 rfl (lv_at hl 0 rfl) ?_
    refine lv_bipush (v := (109:Int32)) hx hb dX4_readPart_26 (by decide) ?_
    refine lv_icmp_ne (tgt := 56) hx hb dX4_readPart_28 (by decide) (fun c2 => ?_) (fun c2 => ?_)
    · rw [if_neg c2] at hf
      refine lv_iload_n hx hb dX4_readPart_56 rfl (lv_at hl 0 rfl) ?_
      refine lv_bipush (v := (103:Int32)) hx hb dX4_readPart_57 (by decide) ?_
      refine lv_icmp_ne (tgt := 86) hx hb dX4_readPart_59 (by decide) (fun c3 => ?_) (fun c3 => ?_)
      · rw [if_neg c3] at hf
        refine lv_iload_n hx hb dX4_readPart_86 rfl (lv_at hl 0 rfl) ?_
        refine lv_bipush (v := (98:Int32)) hx hb dX4_readPart_87 (by decide) ?_
        refine lv_icmp_ne (tgt := 116) hx hb dX4_readPart_89 (by decide) (fun c4 => ?_) (fun c4 => ?_)
        · rw [if_neg c4] at hf
          refine lv_iconst (v := (0:Int32)) hx hb dX4_readPart_116 (by decide) ?_
          cases hf
          exact g_zret hx hb hr gz0 hlocks hP hS dX4_readPart_117
        · rw [if_pos c4] at hf
          refine lv_aload_n hx hb dX4_readPart_92 rfl (lv_at hl 2 rfl) ?_
          refine g_get (C := RX3) (T := TX3) (N := 17) hx hb hts iwX4_readPart_X3 hown hK hP 1 0 rfl rfl rfl 0 (Nat.le_of_ble_eq_true rfl) (hts _ kX4_readPart_2) (fun _ h9 => h9) rfl dX4_readPart_93 ?_
          refine lv_iconst (v := (1:Int32)) hx hb dX4_readPart_96 (by decide) ?_
          refine lv_icmp_lt (tgt := 116) hx hb dX4_readPart_97 (by decide) (fun c5 => ?_) (fun c5 => ?_)
          · rw [if_pos c5] at hf
            refine lv_iconst (v := (0:Int32)) hx hb dX4_readPart_116 (by decide) ?_
            cases hf
            exact g_zret hx hb hr gz0 hlocks hP hS dX4_readPart_117
          · rw [if_neg c5] at hf
            refine lv_aload_n hx hb dX4_readPart_100 rfl (lv_at hl 1 rfl) ?_
            refine lv_dup hx hb dX4_readPart_101 rfl ?_
            refine g_get (C := RX4) (T := TX4) (N := 3) hx hb hts iwX4_readPart_X4 hown hK hP 0 0 rfl rfl rfl 2 (Nat.le_of_ble_eq_true rfl) (hts _ kX4_readPart_0) (fun _ h9 => h9) rfl dX4_readPart_102 ?_
            refine lv_iconst (v := (1:Int32)) hx hb dX4_readPart_105 (by decide) ?_
            refine lv_iadd hx hb dX4_readPart_106 ?_
            obtain ⟨u6, eu6, hf⟩ := lt_some hf
            refine g_put (ty := .int) (C := RX4) (T := TX4) (N := 3) (gs' := [txW G a0 u6, stW G a1 v1]) hx hb hts iwX4_readPart_X4 tyX4 tyX4_ok nmX4 hown hK hP hD hS 0 0 rfl rfl rfl 2 (Nat.le_of_ble_eq_true rfl) (hts _ kX4_readPart_0) (fun _ h9 => h9) rfl (by decide +kernel) rfl rfl (Nat.le_of_ble_eq_true rfl) dX4_readPart_107 (by rw [eu6]; rfl) (fun H locs hP hD hS => ?_)
            refine lv_aload_n hx hb dX4_readPart_110 rfl (lv_at hl 1 rfl) ?_
            refine lv_aload_n hx hb dX4_readPart_111 rfl (lv_at hl 2 rfl) ?_
            obtain ⟨q7, hq7, hf⟩ := bd_some hf
            refine g_callVi S (As := [.ref (a1 0)]) (gs' := [txW G a0 q7.2.1, stW G a1 q7.2.2]) (c_X4_readBid l G a0 a1 u6 v1 hq7) (cwV 1 hts gX4_readPart_X4_readBid rfl rfl rfl hd_X4_readBid ⟨Nat.le_of_ble_eq_true rfl, Nat.le_of_ble_eq_true rfl⟩) hK hP hD hS hA (is := [0, 1]) rfl rfl 0 rfl rfl rfl rfl hl.1 rfl (Nat.le_of_ble_eq_true rfl) dX4_readPart_112 ⟨Nat.le_of_ble_eq_true rfl, Nat.le_of_ble_eq_true rfl⟩ rfl (fun H locs hP hD hS => ?_)
            obtain ⟨h8, hf⟩ := gb_some hf
            cases hf
            exact g_zret hx hb hr h8 hlocks hP hS dX4_readPart_115
      · rw [if_pos c3] at hf
        refine lv_aload_n hx hb dX4_readPart_62 rfl (lv_at hl 2 rfl) ?_
        refine g_get (C := RX3) (T := TX3) (N := 17) hx hb hts iwX4_readPart_X3 hown hK hP 1 0 rfl rfl rfl 0 (Nat.le_of_ble_eq_true rfl) (hts _ kX4_readPart_2) (fun _ h9 => h9) rfl dX4_readPart_63 ?_
        refine lv_iconst (v := (2:Int32)) hx hb dX4_readPart_66 (by decide) ?_
        refine lv_icmp_lt (tgt := 86) hx hb dX4_readPart_67 (by decide) (fun c9 => ?_) (fun c9 => ?_)
        · rw [if_pos c9] at hf
          refine lv_iload_n hx hb dX4_readPart_86 rfl (lv_at hl 0 rfl) ?_
          refine lv_bipush (v := (98:Int32)) hx hb dX4_readPart_87 (by decide) ?_
          refine lv_icmp_ne (tgt := 116) hx hb dX4_readPart_89 (by decide) (fun c10 => ?_) (fun c10 => ?_)
          · rw [if_neg c10] at hf
            refine lv_iconst (v := (0:Int32)) hx hb dX4_readPart_116 (by decide) ?_
            cases hf
            exact g_zret hx hb hr gz0 hlocks hP hS dX4_readPart_117
          · rw [if_pos c10] at hf
            refine lv_aload_n hx hb dX4_readPart_92 rfl (lv_at hl 2 rfl) ?_
            refine g_get (C := RX3) (T := TX3) (N := 17) hx hb hts iwX4_readPart_X3 hown hK hP 1 0 rfl rfl rfl 0 (Nat.le_of_ble_eq_true rfl) (hts _ kX4_readPart_2) (fun _ h9 => h9) rfl dX4_readPart_93 ?_
            refine lv_iconst (v := (1:Int32)) hx hb dX4_readPart_96 (by decide) ?_
            refine lv_icmp_lt (tgt := 116) hx hb dX4_readPart_97 (by decide) (fun c11 => ?_) (fun c11 => ?_)
            · rw [if_pos c11] at hf
              refine lv_iconst (v := (0:Int32)) hx hb dX4_readPart_116 (by decide) ?_
              cases hf
              exact g_zret hx hb hr gz0 hlocks hP hS dX4_readPart_117
            · rw [if_neg c11] at hf
              refine lv_aload_n hx hb dX4_readPart_100 rfl (lv_at hl 1 rfl) ?_
              refine lv_dup hx hb dX4_readPart_101 rfl ?_
              refine g_get (C := RX4) (T := TX4) (N := 3) hx hb hts iwX4_readPart_X4 hown hK hP 0 0 rfl rfl rfl 2 (Nat.le_of_ble_eq_true rfl) (hts _ kX4_readPart_0) (fun _ h9 => h9) rfl dX4_readPart_102 ?_
              refine lv_iconst (v := (1:Int32)) hx hb dX4_readPart_105 (by decide) ?_
              refine lv_iadd hx hb dX4_readPart_106 ?_
              obtain ⟨u12, eu12, hf⟩ := lt_some hf
              refine g_put (ty := .int) (C := RX4) (T := TX4) (N := 3) (gs' := [txW G a0 u12, stW G a1 v1]) hx hb hts iwX4_readPart_X4 tyX4 tyX4_ok nmX4 hown hK hP hD hS 0 0 rfl rfl rfl 2 (Nat.le_of_ble_eq_true rfl) (hts _ kX4_readPart_0) (fun _ h9 => h9) rfl (by decide +kernel) rfl rfl (Nat.le_of_ble_eq_true rfl) dX4_readPart_107 (by rw [eu12]; rfl) (fun H locs hP hD hS => ?_)
              refine lv_aload_n hx hb dX4_readPart_110 rfl (lv_at hl 1 rfl) ?_
              refine lv_aload_n hx hb dX4_readPart_111 rfl (lv_at hl 2 rfl) ?_
              obtain ⟨q13, hq13, hf⟩ := bd_some hf
              refine g_callVi S (As := [.ref (a1 0)]) (gs' := [txW G a0 q13.2.1, stW G a1 q13.2.2]) (c_X4_readBid l G a0 a1 u12 v1 hq13) (cwV 1 hts gX4_readPart_X4_readBid rfl rfl rfl hd_X4_readBid ⟨Nat.le_of_ble_eq_true rfl, Nat.le_of_ble_eq_true rfl⟩) hK hP hD hS hA (is := [0, 1]) rfl rfl 0 rfl rfl rfl rfl hl.1 rfl (Nat.le_of_ble_eq_true rfl) dX4_readPart_112 ⟨Nat.le_of_ble_eq_true rfl, Nat.le_of_ble_eq_true rfl⟩ rfl (fun H locs hP hD hS => ?_)
              obtain ⟨h14, hf⟩ := gb_some hf
              cases hf
              exact g_zret hx hb hr h14 hlocks hP hS dX4_readPart_115
        · rw [if_neg c9] at hf
          refine lv_aload_n hx hb dX4_readPart_70 rfl (lv_at hl 1 rfl) ?_
          refine lv_dup hx hb dX4_readPart_71 rfl ?_
          refine g_get (C := RX4) (T := TX4) (N := 3) hx hb hts iwX4_readPart_X4 hown hK hP 0 0 rfl rfl rfl 2 (Nat.le_of_ble_eq_true rfl) (hts _ kX4_readPart_0) (fun _ h9 => h9) rfl dX4_readPart_72 ?_
          refine lv_iconst (v := (1:Int32)) hx hb dX4_readPart_75 (by decide) ?_
          refine lv_iadd hx hb dX4_readPart_76 ?_
          obtain ⟨u15, eu15, hf⟩ := lt_some hf
          refine g_put (ty := .int) (C := RX4) (T := TX4) (N := 3) (gs' := [txW G a0 u15, stW G a1 v1]) hx hb hts iwX4_readPart_X4 tyX4 tyX4_ok nmX4 hown hK hP hD hS 0 0 rfl rfl rfl 2 (Nat.le_of_ble_eq_true rfl) (hts _ kX4_readPart_0) (fun _ h9 => h9) rfl (by decide +kernel) rfl rfl (Nat.le_of_ble_eq_true rfl) dX4_readPart_77 (by rw [eu15]; rfl) (fun H locs hP hD hS => ?_)
          refine lv_aload_n hx hb dX4_readPart_80 rfl (lv_at hl 1 rfl) ?_
          refine lv_aload_n hx hb dX4_readPart_81 rfl (lv_at hl 2 rfl) ?_
          obtain ⟨q16, hq16, hf⟩ := bd_some hf
          refine g_callVi S (As := [.ref (a1 0)]) (gs' := [txW G a0 q16.2.1, stW G a1 q16.2.2]) (c_X4_readGuarantor l G a0 a1 u15 v1 hq16) (cwV 1 hts gX4_readPart_X4_readGuarantor rfl rfl rfl hd_X4_readGuarantor ⟨Nat.le_of_ble_eq_true rfl, Nat.le_of_ble_eq_true rfl⟩) hK hP hD hS hA (is := [0, 1]) rfl rfl 0 rfl rfl rfl rfl hl.1 rfl (Nat.le_of_ble_eq_true rfl) dX4_readPart_82 ⟨Nat.le_of_ble_eq_true rfl, Nat.le_of_ble_eq_true rfl⟩ rfl (fun H locs hP hD hS => ?_)
          obtain ⟨h17, hf⟩ := gb_some hf
          cases hf
          exact g_zret hx hb hr h17 hlocks hP hS dX4_readPart_85
    · rw [if_pos c2] at hf
      refine lv_aload_n hx hb dX4_readPart_31 rfl (lv_at hl 2 rfl) ?_
      refine g_get (C := RX3) (T := TX3) (N := 17) hx hb hts iwX4_readPart_X3 hown hK hP 1 0 rfl rfl rfl 0 (Nat.le_of_ble_eq_true rfl) (hts _ kX4_readPart_2) (fun _ h9 => h9) rfl dX4_readPart_32 ?_
      refine lv_bipush (v := (8:Int32)) hx hb dX4_readPart_35 (by decide) ?_
      refine lv_icmp_ge (tgt := 56) hx hb dX4_readPart_37 (by decide) (fun c18 => ?_) (fun c18 => ?_)
      · rw [if_pos c18] at hf
        refine lv_iload_n hx hb dX4_readPart_56 rfl (lv_at hl 0 rfl) ?_
        refine lv_bipush (v := (103:Int32)) hx hb dX4_readPart_57 (by decide) ?_
        refine lv_icmp_ne (tgt := 86) hx hb dX4_readPart_59 (by decide) (fun c19 => ?_) (fun c19 => ?_)
        · rw [if_neg c19] at hf
          refine lv_iload_n hx hb dX4_readPart_86 rfl (lv_at hl 0 rfl) ?_
          refine lv_bipush (v := (98:Int32)) hx hb dX4_readPart_87 (by decide) ?_
          refine lv_icmp_ne (tgt := 116) hx hb dX4_readPart_89 (by decide) (fun c20 => ?_) (fun c20 => ?_)
          · rw [if_neg c20] at hf
            refine lv_iconst (v := (0:Int32)) hx hb dX4_readPart_116 (by decide) ?_
            cases hf
            exact g_zret hx hb hr gz0 hlocks hP hS dX4_readPart_117
          · rw [if_pos c20] at hf
            refine lv_aload_n hx hb dX4_readPart_92 rfl (lv_at hl 2 rfl) ?_
            refine g_get (C := RX3) (T := TX3) (N := 17) hx hb hts iwX4_readPart_X3 hown hK hP 1 0 rfl rfl rfl 0 (Nat.le_of_ble_eq_true rfl) (hts _ kX4_readPart_2) (fun _ h9 => h9) rfl dX4_readPart_93 ?_
            refine lv_iconst (v := (1:Int32)) hx hb dX4_readPart_96 (by decide) ?_
            refine lv_icmp_lt (tgt := 116) hx hb dX4_readPart_97 (by decide) (fun c21 => ?_) (fun c21 => ?_)
            · rw [if_pos c21] at hf
              refine lv_iconst (v := (0:Int32)) hx hb dX4_readPart_116 (by decide) ?_
              cases hf
              exact g_zret hx hb hr gz0 hlocks hP hS dX4_readPart_117
            · rw [if_neg c21] at hf
              refine lv_aload_n hx hb dX4_readPart_100 rfl (lv_at hl 1 rfl) ?_
              refine lv_dup hx hb dX4_readPart_101 rfl ?_
              refine g_get (C := RX4) (T := TX4) (N := 3) hx hb hts iwX4_readPart_X4 hown hK hP 0 0 rfl rfl rfl 2 (Nat.le_of_ble_eq_true rfl) (hts _ kX4_readPart_0) (fun _ h9 => h9) rfl dX4_readPart_102 ?_
              refine lv_iconst (v := (1:Int32)) hx hb dX4_readPart_105 (by decide) ?_
              refine lv_iadd hx hb dX4_readPart_106 ?_
              obtain ⟨u22, eu22, hf⟩ := lt_some hf
              refine g_put (ty := .int) (C := RX4) (T := TX4) (N := 3) (gs' := [txW G a0 u22, stW G a1 v1]) hx hb hts iwX4_readPart_X4 tyX4 tyX4_ok nmX4 hown hK hP hD hS 0 0 rfl rfl rfl 2 (Nat.le_of_ble_eq_true rfl) (hts _ kX4_readPart_0) (fun _ h9 => h9) rfl (by decide +kernel) rfl rfl (Nat.le_of_ble_eq_true rfl) dX4_readPart_107 (by rw [eu22]; rfl) (fun H locs hP hD hS => ?_)
              refine lv_aload_n hx hb dX4_readPart_110 rfl (lv_at hl 1 rfl) ?_
              refine lv_aload_n hx hb dX4_readPart_111 rfl (lv_at hl 2 rfl) ?_
              obtain ⟨q23, hq23, hf⟩ := bd_some hf
              refine g_callVi S (As := [.ref (a1 0)]) (gs' := [txW G a0 q23.2.1, stW G a1 q23.2.2]) (c_X4_readBid l G a0 a1 u22 v1 hq23) (cwV 1 hts gX4_readPart_X4_readBid rfl rfl rfl hd_X4_readBid ⟨Nat.le_of_ble_eq_true rfl, Nat.le_of_ble_eq_true rfl⟩) hK hP hD hS hA (is := [0, 1]) rfl rfl 0 rfl rfl rfl rfl hl.1 rfl (Nat.le_of_ble_eq_true rfl) dX4_readPart_112 ⟨Nat.le_of_ble_eq_true rfl, Nat.le_of_ble_eq_true rfl⟩ rfl (fun H locs hP hD hS => ?_)
              obtain ⟨h24, hf⟩ := gb_some hf
              cases hf
              exact g_zret hx hb hr h24 hlocks hP hS dX4_readPart_115
        · rw [if_pos c19] at hf
          refine lv_aload_n hx hb dX4_readPart_62 rfl (lv_at hl 2 rfl) ?_
          refine g_get (C := RX3) (T := TX3) (N := 17) hx hb hts iwX4_readPart_X3 hown hK hP 1 0 rfl rfl rfl 0 (Nat.le_of_ble_eq_true rfl) (hts _ kX4_readPart_2) (fun _ h9 => h9) rfl dX4_readPart_63 ?_
          refine lv_iconst (v := (2:Int32)) hx hb dX4_readPart_66 (by decide) ?_
          refine lv_icmp_lt (tgt := 86) hx hb dX4_readPart_67 (by decide) (fun c25 => ?_) (fun c25 => ?_)
          · rw [if_pos c25] at hf
            refine lv_iload_n hx hb dX4_readPart_86 rfl (lv_at hl 0 rfl) ?_
            refine lv_bipush (v := (98:Int32)) hx hb dX4_readPart_87 (by decide) ?_
            refine lv_icmp_ne (tgt := 116) hx hb dX4_readPart_89 (by decide) (fun c26 => ?_) (fun c26 => ?_)
            · rw [if_neg c26] at hf
              refine lv_iconst (v := (0:Int32)) hx hb dX4_readPart_116 (by decide) ?_
              cases hf
              exact g_zret hx hb hr gz0 hlocks hP hS dX4_readPart_117
            · rw [if_pos c26] at hf
              refine lv_aload_n hx hb dX4_readPart_92 rfl (lv_at hl 2 rfl) ?_
              refine g_get (C := RX3) (T := TX3) (N := 17) hx hb hts iwX4_readPart_X3 hown hK hP 1 0 rfl rfl rfl 0 (Nat.le_of_ble_eq_true rfl) (hts _ kX4_readPart_2) (fun _ h9 => h9) rfl dX4_readPart_93 ?_
              refine lv_iconst (v := (1:Int32)) hx hb dX4_readPart_96 (by decide) ?_
              refine lv_icmp_lt (tgt := 116) hx hb dX4_readPart_97 (by decide) (fun c27 => ?_) (fun c27 => ?_)
              · rw [if_pos c27] at hf
                refine lv_iconst (v := (0:Int32)) hx hb dX4_readPart_116 (by decide) ?_
                cases hf
                exact g_zret hx hb hr gz0 hlocks hP hS dX4_readPart_117
              · rw [if_neg c27] at hf
                refine lv_aload_n hx hb dX4_readPart_100 rfl (lv_at hl 1 rfl) ?_
                refine lv_dup hx hb dX4_readPart_101 rfl ?_
                refine g_get (C := RX4) (T := TX4) (N := 3) hx hb hts iwX4_readPart_X4 hown hK hP 0 0 rfl rfl rfl 2 (Nat.le_of_ble_eq_true rfl) (hts _ kX4_readPart_0) (fun _ h9 => h9) rfl dX4_readPart_102 ?_
                refine lv_iconst (v := (1:Int32)) hx hb dX4_readPart_105 (by decide) ?_
                refine lv_iadd hx hb dX4_readPart_106 ?_
                obtain ⟨u28, eu28, hf⟩ := lt_some hf
                refine g_put (ty := .int) (C := RX4) (T := TX4) (N := 3) (gs' := [txW G a0 u28, stW G a1 v1]) hx hb hts iwX4_readPart_X4 tyX4 tyX4_ok nmX4 hown hK hP hD hS 0 0 rfl rfl rfl 2 (Nat.le_of_ble_eq_true rfl) (hts _ kX4_readPart_0) (fun _ h9 => h9) rfl (by decide +kernel) rfl rfl (Nat.le_of_ble_eq_true rfl) dX4_readPart_107 (by rw [eu28]; rfl) (fun H locs hP hD hS => ?_)
                refine lv_aload_n hx hb dX4_readPart_110 rfl (lv_at hl 1 rfl) ?_
                refine lv_aload_n hx hb dX4_readPart_111 rfl (lv_at hl 2 rfl) ?_
                obtain ⟨q29, hq29, hf⟩ := bd_some hf
                refine g_callVi S (As := [.ref (a1 0)]) (gs' := [txW G a0 q29.2.1, stW G a1 q29.2.2]) (c_X4_readBid l G a0 a1 u28 v1 hq29) (cwV 1 hts gX4_readPart_X4_readBid rfl rfl rfl hd_X4_readBid ⟨Nat.le_of_ble_eq_true rfl, Nat.le_of_ble_eq_true rfl⟩) hK hP hD hS hA (is := [0, 1]) rfl rfl 0 rfl rfl rfl rfl hl.1 rfl (Nat.le_of_ble_eq_true rfl) dX4_readPart_112 ⟨Nat.le_of_ble_eq_true rfl, Nat.le_of_ble_eq_true rfl⟩ rfl (fun H locs hP hD hS => ?_)
                obtain ⟨h30, hf⟩ := gb_some hf
                cases hf
                exact g_zret hx hb hr h30 hlocks hP hS dX4_readPart_115
          · rw [if_neg c25] at hf
            refine lv_aload_n hx hb dX4_readPart_70 rfl (lv_at hl 1 rfl) ?_
            refine lv_dup hx hb dX4_readPart_71 rfl ?_
            refine g_get (C := RX4) (T := TX4) (N := 3) hx hb hts iwX4_readPart_X4 hown hK hP 0 0 rfl rfl rfl 2 (Nat.le_of_ble_eq_true rfl) (hts _ kX4_readPart_0) (fun _ h9 => h9) rfl dX4_readPart_72 ?_
            refine lv_iconst (v := (1:Int32)) hx hb dX4_readPart_75 (by decide) ?_
            refine lv_iadd hx hb dX4_readPart_76 ?_
            obtain ⟨u31, eu31, hf⟩ := lt_some hf
            refine g_put (ty := .int) (C := RX4) (T := TX4) (N := 3) (gs' := [txW G a0 u31, stW G a1 v1]) hx hb hts iwX4_readPart_X4 tyX4 tyX4_ok nmX4 hown hK hP hD hS 0 0 rfl rfl rfl 2 (Nat.le_of_ble_eq_true rfl) (hts _ kX4_readPart_0) (fun _ h9 => h9) rfl (by decide +kernel) rfl rfl (Nat.le_of_ble_eq_true rfl) dX4_readPart_77 (by rw [eu31]; rfl) (fun H locs hP hD hS => ?_)
            refine lv_aload_n hx hb dX4_readPart_80 rfl (lv_at hl 1 rfl) ?_
            refine lv_aload_n hx hb dX4_readPart_81 rfl (lv_at hl 2 rfl) ?_
            obtain ⟨q32, hq32, hf⟩ := bd_some hf
            refine g_callVi S (As := [.ref (a1 0)]) (gs' := [txW G a0 q32.2.1, stW G a1 q32.2.2]) (c_X4_readGuarantor l G a0 a1 u31 v1 hq32) (cwV 1 hts gX4_readPart_X4_readGuarantor rfl rfl rfl hd_X4_readGuarantor ⟨Nat.le_of_ble_eq_true rfl, Nat.le_of_ble_eq_true rfl⟩) hK hP hD hS hA (is := [0, 1]) rfl rfl 0 rfl rfl rfl rfl hl.1 rfl (Nat.le_of_ble_eq_true rfl) dX4_readPart_82 ⟨Nat.le_of_ble_eq_true rfl, Nat.le_of_ble_eq_true rfl⟩ rfl (fun H locs hP hD hS => ?_)
            obtain ⟨h33, hf⟩ := gb_some hf
            cases hf
            exact g_zret hx hb hr h33 hlocks hP hS dX4_readPart_85
      · rw [if_neg c18] at hf
        refine lv_aload_n hx hb dX4_readPart_40 rfl (lv_at hl 1 rfl) ?_
        refine lv_dup hx hb dX4_readPart_41 rfl ?_
        refine g_get (C := RX4) (T := TX4) (N := 3) hx hb hts iwX4_readPart_X4 hown hK hP 0 0 rfl rfl rfl 2 (Nat.le_of_ble_eq_true rfl) (hts _ kX4_readPart_0) (fun _ h9 => h9) rfl dX4_readPart_42 ?_
        refine lv_iconst (v := (1:Int32)) hx hb dX4_readPart_45 (by decide) ?_
        refine lv_iadd hx hb dX4_readPart_46 ?_
        obtain ⟨u34, eu34, hf⟩ := lt_some hf
        refine g_put (ty := .int) (C := RX4) (T := TX4) (N := 3) (gs' := [txW G a0 u34, stW G a1 v1]) hx hb hts iwX4_readPart_X4 tyX4 tyX4_ok nmX4 hown hK hP hD hS 0 0 rfl rfl rfl 2 (Nat.le_of_ble_eq_true rfl) (hts _ kX4_readPart_0) (fun _ h9 => h9) rfl (by decide +kernel) rfl rfl (Nat.le_of_ble_eq_true rfl) dX4_readPart_47 (by rw [eu34]; rfl) (fun H locs hP hD hS => ?_)
        refine lv_aload_n hx hb dX4_readPart_50 rfl (lv_at hl 1 rfl) ?_
        refine lv_aload_n hx hb dX4_readPart_51 rfl (lv_at hl 2 rfl) ?_
        obtain ⟨q35, hq35, hf⟩ := bd_some hf
        refine g_callVi S (As := [.ref (a1 0)]) (gs' := [txW G a0 q35.2.1, stW G a1 q35.2.2]) (c_X4_readMember l G a0 a1 u34 v1 hq35) (cwV 1 hts gX4_readPart_X4_readMember rfl rfl rfl hd_X4_readMember ⟨Nat.le_of_ble_eq_true rfl, Nat.le_of_ble_eq_true rfl⟩) hK hP hD hS hA (is := [0, 1]) rfl rfl 0 rfl rfl rfl rfl hl.1 rfl (Nat.le_of_ble_eq_true rfl) dX4_readPart_52 ⟨Nat.le_of_ble_eq_true rfl, Nat.le_of_ble_eq_true rfl⟩ rfl (fun H locs hP hD hS => ?_)
        obtain ⟨h36, hf⟩ := gb_some hf
        cases hf
        exact g_zret hx hb hr h36 hlocks hP hS dX4_readPart_55
  · rw [if_neg c1] at hf
    refine lv_aload_n hx hb dX4_readPart_11 rfl (lv_at hl 0 rfl) ?_
    refine g_get (C := RX4) (T := TX4) (N := 3) hx hb hts iwX4_readPart_X4 hown hK hP 0 0 rfl rfl rfl 0 (Nat.le_of_ble_eq_true rfl) (hts _ kX4_readPart_3) (fun _ h9 => h9) rfl dX4_readPart_12 ?_
    refine lv_aload_n hx hb dX4_readPart_15 rfl (lv_at hl 0 rfl) ?_
    refine g_get (C := RX4) (T := TX4) (N := 3) hx hb hts iwX4_readPart_X4 hown hK hP 0 0 rfl rfl rfl 2 (Nat.le_of_ble_eq_true rfl) (hts _ kX4_readPart_0) (fun _ h9 => h9) rfl dX4_readPart_16 ?_
    obtain ⟨h37, hf⟩ := gi_some hf
    refine g_iald hx hb hK hP 0 1 0 rfl rfl rfl h37 dX4_readPart_19 ?_
    refine lv_goto (tgt := 24) hx hb dX4_readPart_20 (by decide) ?_
    obtain ⟨x38, ex38, hf⟩ := lt_some hf
    refine lv_nmi ex38 ?_
    refine lv_istore_n (lv' := [(2, .int x38), (0, .ref (a0 0)), (1, .ref (a1 0))]) hx hb dX4_readPart_24 rfl hl (by decide) rfl (fun ls hl => ?_)
    refine lv_iload_n hx hb dX4_readPart_25 rfl (lv_at hl 0 rfl) ?_
    refine lv_bipush (v := (109:Int32)) hx hb dX4_readPart_26 (by decide) ?_
    refine lv_icmp_ne (tgt := 56) hx hb dX4_readPart_28 (by decide) (fun c39 => ?_) (fun c39 => ?_)
    · rw [if_neg c39] at hf
      refine lv_iload_n hx hb dX4_readPart_56 rfl (lv_at hl 0 rfl) ?_
      refine lv_bipush (v := (103:Int32)) hx hb dX4_readPart_57 (by decide) ?_
      refine lv_icmp_ne (tgt := 86) hx hb dX4_readPart_59 (by decide) (fun c40 => ?_) (fun c40 => ?_)
      · rw [if_neg c40] at hf
        refine lv_iload_n hx hb dX4_readPart_86 rfl (lv_at hl 0 rfl) ?_
        refine lv_bipush (v := (98:Int32)) hx hb dX4_readPart_87 (by decide) ?_
        refine lv_icmp_ne (tgt := 116) hx hb dX4_readPart_89 (by decide) (fun c41 => ?_) (fun c41 => ?_)
        · rw [if_neg c41] at hf
          refine lv_iconst (v := (0:Int32)) hx hb dX4_readPart_116 (by decide) ?_
          cases hf
          exact g_zret hx hb hr gz0 hlocks hP hS dX4_readPart_117
        · rw [if_pos c41] at hf
          refine lv_aload_n hx hb dX4_readPart_92 rfl (lv_at hl 2 rfl) ?_
          refine g_get (C := RX3) (T := TX3) (N := 17) hx hb hts iwX4_readPart_X3 hown hK hP 1 0 rfl rfl rfl 0 (Nat.le_of_ble_eq_true rfl) (hts _ kX4_readPart_2) (fun _ h9 => h9) rfl dX4_readPart_93 ?_
          refine lv_iconst (v := (1:Int32)) hx hb dX4_readPart_96 (by decide) ?_
          refine lv_icmp_lt (tgt := 116) hx hb dX4_readPart_97 (by decide) (fun c42 => ?_) (fun c42 => ?_)
          · rw [if_pos c42] at hf
            refine lv_iconst (v := (0:Int32)) hx hb dX4_readPart_116 (by decide) ?_
            cases hf
            exact g_zret hx hb hr gz0 hlocks hP hS dX4_readPart_117
          · rw [if_neg c42] at hf
            refine lv_aload_n hx hb dX4_readPart_100 rfl (lv_at hl 1 rfl) ?_
            refine lv_dup hx hb dX4_readPart_101 rfl ?_
            refine g_get (C := RX4) (T := TX4) (N := 3) hx hb hts iwX4_readPart_X4 hown hK hP 0 0 rfl rfl rfl 2 (Nat.le_of_ble_eq_true rfl) (hts _ kX4_readPart_0) (fun _ h9 => h9) rfl dX4_readPart_102 ?_
            refine lv_iconst (v := (1:Int32)) hx hb dX4_readPart_105 (by decide) ?_
            refine lv_iadd hx hb dX4_readPart_106 ?_
            obtain ⟨u43, eu43, hf⟩ := lt_some hf
            refine g_put (ty := .int) (C := RX4) (T := TX4) (N := 3) (gs' := [txW G a0 u43, stW G a1 v1]) hx hb hts iwX4_readPart_X4 tyX4 tyX4_ok nmX4 hown hK hP hD hS 0 0 rfl rfl rfl 2 (Nat.le_of_ble_eq_true rfl) (hts _ kX4_readPart_0) (fun _ h9 => h9) rfl (by decide +kernel) rfl rfl (Nat.le_of_ble_eq_true rfl) dX4_readPart_107 (by rw [eu43]; rfl) (fun H locs hP hD hS => ?_)
            refine lv_aload_n hx hb dX4_readPart_110 rfl (lv_at hl 1 rfl) ?_
            refine lv_aload_n hx hb dX4_readPart_111 rfl (lv_at hl 2 rfl) ?_
            obtain ⟨q44, hq44, hf⟩ := bd_some hf
            refine g_callVi S (As := [.ref (a1 0)]) (gs' := [txW G a0 q44.2.1, stW G a1 q44.2.2]) (c_X4_readBid l G a0 a1 u43 v1 hq44) (cwV 1 hts gX4_readPart_X4_readBid rfl rfl rfl hd_X4_readBid ⟨Nat.le_of_ble_eq_true rfl, Nat.le_of_ble_eq_true rfl⟩) hK hP hD hS hA (is := [0, 1]) rfl rfl 0 rfl rfl rfl rfl hl.1 rfl (Nat.le_of_ble_eq_true rfl) dX4_readPart_112 ⟨Nat.le_of_ble_eq_true rfl, Nat.le_of_ble_eq_true rfl⟩ rfl (fun H locs hP hD hS => ?_)
            obtain ⟨h45, hf⟩ := gb_some hf
            cases hf
            exact g_zret hx hb hr h45 hlocks hP hS dX4_readPart_115
      · rw [if_pos c40] at hf
        refine lv_aload_n hx hb dX4_readPart_62 rfl (lv_at hl 2 rfl) ?_
        refine g_get (C := RX3) (T := TX3) (N := 17) hx hb hts iwX4_readPart_X3 hown hK hP 1 0 rfl rfl rfl 0 (Nat.le_of_ble_eq_true rfl) (hts _ kX4_readPart_2) (fun _ h9 => h9) rfl dX4_readPart_63 ?_
        refine lv_iconst (v := (2:Int32)) hx hb dX4_readPart_66 (by decide) ?_
        refine lv_icmp_lt (tgt := 86) hx hb dX4_readPart_67 (by decide) (fun c46 => ?_) (fun c46 => ?_)
        · rw [if_pos c46] at hf
          refine lv_iload_n hx hb dX4_readPart_86 rfl (lv_at hl 0 rfl) ?_
          refine lv_bipush (v := (98:Int32)) hx hb dX4_readPart_87 (by decide) ?_
          refine lv_icmp_ne (tgt := 116) hx hb dX4_readPart_89 (by decide) (fun c47 => ?_) (fun c47 => ?_)
          · rw [if_neg c47] at hf
            refine lv_iconst (v := (0:Int32)) hx hb dX4_readPart_116 (by decide) ?_
            cases hf
            exact g_zret hx hb hr gz0 hlocks hP hS dX4_readPart_117
          · rw [if_pos c47] at hf
            refine lv_aload_n hx hb dX4_readPart_92 rfl (lv_at hl 2 rfl) ?_
            refine g_get (C := RX3) (T := TX3) (N := 17) hx hb hts iwX4_readPart_X3 hown hK hP 1 0 rfl rfl rfl 0 (Nat.le_of_ble_eq_true rfl) (hts _ kX4_readPart_2) (fun _ h9 => h9) rfl dX4_readPart_93 ?_
            refine lv_iconst (v := (1:Int32)) hx hb dX4_readPart_96 (by decide) ?_
            refine lv_icmp_lt (tgt := 116) hx hb dX4_readPart_97 (by decide) (fun c48 => ?_) (fun c48 => ?_)
            · rw [if_pos c48] at hf
              refine lv_iconst (v := (0:Int32)) hx hb dX4_readPart_116 (by decide) ?_
              cases hf
              exact g_zret hx hb hr gz0 hlocks hP hS dX4_readPart_117
            · rw [if_neg c48] at hf
              refine lv_aload_n hx hb dX4_readPart_100 rfl (lv_at hl 1 rfl) ?_
              refine lv_dup hx hb dX4_readPart_101 rfl ?_
              refine g_get (C := RX4) (T := TX4) (N := 3) hx hb hts iwX4_readPart_X4 hown hK hP 0 0 rfl rfl rfl 2 (Nat.le_of_ble_eq_true rfl) (hts _ kX4_readPart_0) (fun _ h9 => h9) rfl dX4_readPart_102 ?_
              refine lv_iconst (v := (1:Int32)) hx hb dX4_readPart_105 (by decide) ?_
              refine lv_iadd hx hb dX4_readPart_106 ?_
              obtain ⟨u49, eu49, hf⟩ := lt_some hf
              refine g_put (ty := .int) (C := RX4) (T := TX4) (N := 3) (gs' := [txW G a0 u49, stW G a1 v1]) hx hb hts iwX4_readPart_X4 tyX4 tyX4_ok nmX4 hown hK hP hD hS 0 0 rfl rfl rfl 2 (Nat.le_of_ble_eq_true rfl) (hts _ kX4_readPart_0) (fun _ h9 => h9) rfl (by decide +kernel) rfl rfl (Nat.le_of_ble_eq_true rfl) dX4_readPart_107 (by rw [eu49]; rfl) (fun H locs hP hD hS => ?_)
              refine lv_aload_n hx hb dX4_readPart_110 rfl (lv_at hl 1 rfl) ?_
              refine lv_aload_n hx hb dX4_readPart_111 rfl (lv_at hl 2 rfl) ?_
              obtain ⟨q50, hq50, hf⟩ := bd_some hf
              refine g_callVi S (As := [.ref (a1 0)]) (gs' := [txW G a0 q50.2.1, stW G a1 q50.2.2]) (c_X4_readBid l G a0 a1 u49 v1 hq50) (cwV 1 hts gX4_readPart_X4_readBid rfl rfl rfl hd_X4_readBid ⟨Nat.le_of_ble_eq_true rfl, Nat.le_of_ble_eq_true rfl⟩) hK hP hD hS hA (is := [0, 1]) rfl rfl 0 rfl rfl rfl rfl hl.1 rfl (Nat.le_of_ble_eq_true rfl) dX4_readPart_112 ⟨Nat.le_of_ble_eq_true rfl, Nat.le_of_ble_eq_true rfl⟩ rfl (fun H locs hP hD hS => ?_)
              obtain ⟨h51, hf⟩ := gb_some hf
              cases hf
              exact g_zret hx hb hr h51 hlocks hP hS dX4_readPart_115
        · rw [if_neg c46] at hf
          refine lv_aload_n hx hb dX4_readPart_70 rfl (lv_at hl 1 rfl) ?_
          refine lv_dup hx hb dX4_readPart_71 rfl ?_
          refine g_get (C := RX4) (T := TX4) (N := 3) hx hb hts iwX4_readPart_X4 hown hK hP 0 0 rfl rfl rfl 2 (Nat.le_of_ble_eq_true rfl) (hts _ kX4_readPart_0) (fun _ h9 => h9) rfl dX4_readPart_72 ?_
          refine lv_iconst (v := (1:Int32)) hx hb dX4_readPart_75 (by decide) ?_
          refine lv_iadd hx hb dX4_readPart_76 ?_
          obtain ⟨u52, eu52, hf⟩ := lt_some hf
          refine g_put (ty := .int) (C := RX4) (T := TX4) (N := 3) (gs' := [txW G a0 u52, stW G a1 v1]) hx hb hts iwX4_readPart_X4 tyX4 tyX4_ok nmX4 hown hK hP hD hS 0 0 rfl rfl rfl 2 (Nat.le_of_ble_eq_true rfl) (hts _ kX4_readPart_0) (fun _ h9 => h9) rfl (by decide +kernel) rfl rfl (Nat.le_of_ble_eq_true rfl) dX4_readPart_77 (by rw [eu52]; rfl) (fun H locs hP hD hS => ?_)
          refine lv_aload_n hx hb dX4_readPart_80 rfl (lv_at hl 1 rfl) ?_
          refine lv_aload_n hx hb dX4_readPart_81 rfl (lv_at hl 2 rfl) ?_
          obtain ⟨q53, hq53, hf⟩ := bd_some hf
          refine g_callVi S (As := [.ref (a1 0)]) (gs' := [txW G a0 q53.2.1, stW G a1 q53.2.2]) (c_X4_readGuarantor l G a0 a1 u52 v1 hq53) (cwV 1 hts gX4_readPart_X4_readGuarantor rfl rfl rfl hd_X4_readGuarantor ⟨Nat.le_of_ble_eq_true rfl, Nat.le_of_ble_eq_true rfl⟩) hK hP hD hS hA (is := [0, 1]) rfl rfl 0 rfl rfl rfl rfl hl.1 rfl (Nat.le_of_ble_eq_true rfl) dX4_readPart_82 ⟨Nat.le_of_ble_eq_true rfl, Nat.le_of_ble_eq_true rfl⟩ rfl (fun H locs hP hD hS => ?_)
          obtain ⟨h54, hf⟩ := gb_some hf
          cases hf
          exact g_zret hx hb hr h54 hlocks hP hS dX4_readPart_85
    · rw [if_pos c39] at hf
      refine lv_aload_n hx hb dX4_readPart_31 rfl (lv_at hl 2 rfl) ?_
      refine g_get (C := RX3) (T := TX3) (N := 17) hx hb hts iwX4_readPart_X3 hown hK hP 1 0 rfl rfl rfl 0 (Nat.le_of_ble_eq_true rfl) (hts _ kX4_readPart_2) (fun _ h9 => h9) rfl dX4_readPart_32 ?_
      refine lv_bipush (v := (8:Int32)) hx hb dX4_readPart_35 (by decide) ?_
      refine lv_icmp_ge (tgt := 56) hx hb dX4_readPart_37 (by decide) (fun c55 => ?_) (fun c55 => ?_)
      · rw [if_pos c55] at hf
        refine lv_iload_n hx hb dX4_readPart_56 rfl (lv_at hl 0 rfl) ?_
        refine lv_bipush (v := (103:Int32)) hx hb dX4_readPart_57 (by decide) ?_
        refine lv_icmp_ne (tgt := 86) hx hb dX4_readPart_59 (by decide) (fun c56 => ?_) (fun c56 => ?_)
        · rw [if_neg c56] at hf
          refine lv_iload_n hx hb dX4_readPart_86 rfl (lv_at hl 0 rfl) ?_
          refine lv_bipush (v := (98:Int32)) hx hb dX4_readPart_87 (by decide) ?_
          refine lv_icmp_ne (tgt := 116) hx hb dX4_readPart_89 (by decide) (fun c57 => ?_) (fun c57 => ?_)
          · rw [if_neg c57] at hf
            refine lv_iconst (v := (0:Int32)) hx hb dX4_readPart_116 (by decide) ?_
            cases hf
            exact g_zret hx hb hr gz0 hlocks hP hS dX4_readPart_117
          · rw [if_pos c57] at hf
            refine lv_aload_n hx hb dX4_readPart_92 rfl (lv_at hl 2 rfl) ?_
            refine g_get (C := RX3) (T := TX3) (N := 17) hx hb hts iwX4_readPart_X3 hown hK hP 1 0 rfl rfl rfl 0 (Nat.le_of_ble_eq_true rfl) (hts _ kX4_readPart_2) (fun _ h9 => h9) rfl dX4_readPart_93 ?_
            refine lv_iconst (v := (1:Int32)) hx hb dX4_readPart_96 (by decide) ?_
            refine lv_icmp_lt (tgt := 116) hx hb dX4_readPart_97 (by decide) (fun c58 => ?_) (fun c58 => ?_)
            · rw [if_pos c58] at hf
              refine lv_iconst (v := (0:Int32)) hx hb dX4_readPart_116 (by decide) ?_
              cases hf
              exact g_zret hx hb hr gz0 hlocks hP hS dX4_readPart_117
            · rw [if_neg c58] at hf
              refine lv_aload_n hx hb dX4_readPart_100 rfl (lv_at hl 1 rfl) ?_
              refine lv_dup hx hb dX4_readPart_101 rfl ?_
              refine g_get (C := RX4) (T := TX4) (N := 3) hx hb hts iwX4_readPart_X4 hown hK hP 0 0 rfl rfl rfl 2 (Nat.le_of_ble_eq_true rfl) (hts _ kX4_readPart_0) (fun _ h9 => h9) rfl dX4_readPart_102 ?_
              refine lv_iconst (v := (1:Int32)) hx hb dX4_readPart_105 (by decide) ?_
              refine lv_iadd hx hb dX4_readPart_106 ?_
              obtain ⟨u59, eu59, hf⟩ := lt_some hf
              refine g_put (ty := .int) (C := RX4) (T := TX4) (N := 3) (gs' := [txW G a0 u59, stW G a1 v1]) hx hb hts iwX4_readPart_X4 tyX4 tyX4_ok nmX4 hown hK hP hD hS 0 0 rfl rfl rfl 2 (Nat.le_of_ble_eq_true rfl) (hts _ kX4_readPart_0) (fun _ h9 => h9) rfl (by decide +kernel) rfl rfl (Nat.le_of_ble_eq_true rfl) dX4_readPart_107 (by rw [eu59]; rfl) (fun H locs hP hD hS => ?_)
              refine lv_aload_n hx hb dX4_readPart_110 rfl (lv_at hl 1 rfl) ?_
              refine lv_aload_n hx hb dX4_readPart_111 rfl (lv_at hl 2 rfl) ?_
              obtain ⟨q60, hq60, hf⟩ := bd_some hf
              refine g_callVi S (As := [.ref (a1 0)]) (gs' := [txW G a0 q60.2.1, stW G a1 q60.2.2]) (c_X4_readBid l G a0 a1 u59 v1 hq60) (cwV 1 hts gX4_readPart_X4_readBid rfl rfl rfl hd_X4_readBid ⟨Nat.le_of_ble_eq_true rfl, Nat.le_of_ble_eq_true rfl⟩) hK hP hD hS hA (is := [0, 1]) rfl rfl 0 rfl rfl rfl rfl hl.1 rfl (Nat.le_of_ble_eq_true rfl) dX4_readPart_112 ⟨Nat.le_of_ble_eq_true rfl, Nat.le_of_ble_eq_true rfl⟩ rfl (fun H locs hP hD hS => ?_)
              obtain ⟨h61, hf⟩ := gb_some hf
              cases hf
              exact g_zret hx hb hr h61 hlocks hP hS dX4_readPart_115
        · rw [if_pos c56] at hf
          refine lv_aload_n hx hb dX4_readPart_62 rfl (lv_at hl 2 rfl) ?_
          refine g_get (C := RX3) (T := TX3) (N := 17) hx hb hts iwX4_readPart_X3 hown hK hP 1 0 rfl rfl rfl 0 (Nat.le_of_ble_eq_true rfl) (hts _ kX4_readPart_2) (fun _ h9 => h9) rfl dX4_readPart_63 ?_
          refine lv_iconst (v := (2:Int32)) hx hb dX4_readPart_66 (by decide) ?_
          refine lv_icmp_lt (tgt := 86) hx hb dX4_readPart_67 (by decide) (fun c62 => ?_) (fun c62 => ?_)
          · rw [if_pos c62] at hf
            refine lv_iload_n hx hb dX4_readPart_86 rfl (lv_at hl 0 rfl) ?_
            refine lv_bipush (v := (98:Int32)) hx hb dX4_readPart_87 (by decide) ?_
            refine lv_icmp_ne (tgt := 116) hx hb dX4_readPart_89 (by decide) (fun c63 => ?_) (fun c63 => ?_)
            · rw [if_neg c63] at hf
              refine lv_iconst (v := (0:Int32)) hx hb dX4_readPart_116 (by decide) ?_
              cases hf
              exact g_zret hx hb hr gz0 hlocks hP hS dX4_readPart_117
            · rw [if_pos c63] at hf
              refine lv_aload_n hx hb dX4_readPart_92 rfl (lv_at hl 2 rfl) ?_
              refine g_get (C := RX3) (T := TX3) (N := 17) hx hb hts iwX4_readPart_X3 hown hK hP 1 0 rfl rfl rfl 0 (Nat.le_of_ble_eq_true rfl) (hts _ kX4_readPart_2) (fun _ h9 => h9) rfl dX4_readPart_93 ?_
              refine lv_iconst (v := (1:Int32)) hx hb dX4_readPart_96 (by decide) ?_
              refine lv_icmp_lt (tgt := 116) hx hb dX4_readPart_97 (by decide) (fun c64 => ?_) (fun c64 => ?_)
              · rw [if_pos c64] at hf
                refine lv_iconst (v := (0:Int32)) hx hb dX4_readPart_116 (by decide) ?_
                cases hf
                exact g_zret hx hb hr gz0 hlocks hP hS dX4_readPart_117
              · rw [if_neg c64] at hf
                refine lv_aload_n hx hb dX4_readPart_100 rfl (lv_at hl 1 rfl) ?_
                refine lv_dup hx hb dX4_readPart_101 rfl ?_
                refine g_get (C := RX4) (T := TX4) (N := 3) hx hb hts iwX4_readPart_X4 hown hK hP 0 0 rfl rfl rfl 2 (Nat.le_of_ble_eq_true rfl) (hts _ kX4_readPart_0) (fun _ h9 => h9) rfl dX4_readPart_102 ?_
                refine lv_iconst (v := (1:Int32)) hx hb dX4_readPart_105 (by decide) ?_
                refine lv_iadd hx hb dX4_readPart_106 ?_
                obtain ⟨u65, eu65, hf⟩ := lt_some hf
                refine g_put (ty := .int) (C := RX4) (T := TX4) (N := 3) (gs' := [txW G a0 u65, stW G a1 v1]) hx hb hts iwX4_readPart_X4 tyX4 tyX4_ok nmX4 hown hK hP hD hS 0 0 rfl rfl rfl 2 (Nat.le_of_ble_eq_true rfl) (hts _ kX4_readPart_0) (fun _ h9 => h9) rfl (by decide +kernel) rfl rfl (Nat.le_of_ble_eq_true rfl) dX4_readPart_107 (by rw [eu65]; rfl) (fun H locs hP hD hS => ?_)
                refine lv_aload_n hx hb dX4_readPart_110 rfl (lv_at hl 1 rfl) ?_
                refine lv_aload_n hx hb dX4_readPart_111 rfl (lv_at hl 2 rfl) ?_
                obtain ⟨q66, hq66, hf⟩ := bd_some hf
                refine g_callVi S (As := [.ref (a1 0)]) (gs' := [txW G a0 q66.2.1, stW G a1 q66.2.2]) (c_X4_readBid l G a0 a1 u65 v1 hq66) (cwV 1 hts gX4_readPart_X4_readBid rfl rfl rfl hd_X4_readBid ⟨Nat.le_of_ble_eq_true rfl, Nat.le_of_ble_eq_true rfl⟩) hK hP hD hS hA (is := [0, 1]) rfl rfl 0 rfl rfl rfl rfl hl.1 rfl (Nat.le_of_ble_eq_true rfl) dX4_readPart_112 ⟨Nat.le_of_ble_eq_true rfl, Nat.le_of_ble_eq_true rfl⟩ rfl (fun H locs hP hD hS => ?_)
                obtain ⟨h67, hf⟩ := gb_some hf
                cases hf
                exact g_zret hx hb hr h67 hlocks hP hS dX4_readPart_115
          · rw [if_neg c62] at hf
            refine lv_aload_n hx hb dX4_readPart_70 rfl (lv_at hl 1 rfl) ?_
            refine lv_dup hx hb dX4_readPart_71 rfl ?_
            refine g_get (C := RX4) (T := TX4) (N := 3) hx hb hts iwX4_readPart_X4 hown hK hP 0 0 rfl rfl rfl 2 (Nat.le_of_ble_eq_true rfl) (hts _ kX4_readPart_0) (fun _ h9 => h9) rfl dX4_readPart_72 ?_
            refine lv_iconst (v := (1:Int32)) hx hb dX4_readPart_75 (by decide) ?_
            refine lv_iadd hx hb dX4_readPart_76 ?_
            obtain ⟨u68, eu68, hf⟩ := lt_some hf
            refine g_put (ty := .int) (C := RX4) (T := TX4) (N := 3) (gs' := [txW G a0 u68, stW G a1 v1]) hx hb hts iwX4_readPart_X4 tyX4 tyX4_ok nmX4 hown hK hP hD hS 0 0 rfl rfl rfl 2 (Nat.le_of_ble_eq_true rfl) (hts _ kX4_readPart_0) (fun _ h9 => h9) rfl (by decide +kernel) rfl rfl (Nat.le_of_ble_eq_true rfl) dX4_readPart_77 (by rw [eu68]; rfl) (fun H locs hP hD hS => ?_)
            refine lv_aload_n hx hb dX4_readPart_80 rfl (lv_at hl 1 rfl) ?_
            refine lv_aload_n hx hb dX4_readPart_81 rfl (lv_at hl 2 rfl) ?_
            obtain ⟨q69, hq69, hf⟩ := bd_some hf
            refine g_callVi S (As := [.ref (a1 0)]) (gs' := [txW G a0 q69.2.1, stW G a1 q69.2.2]) (c_X4_readGuarantor l G a0 a1 u68 v1 hq69) (cwV 1 hts gX4_readPart_X4_readGuarantor rfl rfl rfl hd_X4_readGuarantor ⟨Nat.le_of_ble_eq_true rfl, Nat.le_of_ble_eq_true rfl⟩) hK hP hD hS hA (is := [0, 1]) rfl rfl 0 rfl rfl rfl rfl hl.1 rfl (Nat.le_of_ble_eq_true rfl) dX4_readPart_82 ⟨Nat.le_of_ble_eq_true rfl, Nat.le_of_ble_eq_true rfl⟩ rfl (fun H locs hP hD hS => ?_)
            obtain ⟨h70, hf⟩ := gb_some hf
            cases hf
            exact g_zret hx hb hr h70 hlocks hP hS dX4_readPart_85
      · rw [if_neg c55] at hf
        refine lv_aload_n hx hb dX4_readPart_40 rfl (lv_at hl 1 rfl) ?_
        refine lv_dup hx hb dX4_readPart_41 rfl ?_
        refine g_get (C := RX4) (T := TX4) (N := 3) hx hb hts iwX4_readPart_X4 hown hK hP 0 0 rfl rfl rfl 2 (Nat.le_of_ble_eq_true rfl) (hts _ kX4_readPart_0) (fun _ h9 => h9) rfl dX4_readPart_42 ?_
        refine lv_iconst (v := (1:Int32)) hx hb dX4_readPart_45 (by decide) ?_
        refine lv_iadd hx hb dX4_readPart_46 ?_
        obtain ⟨u71, eu71, hf⟩ := lt_some hf
        refine g_put (ty := .int) (C := RX4) (T := TX4) (N := 3) (gs' := [txW G a0 u71, stW G a1 v1]) hx hb hts iwX4_readPart_X4 tyX4 tyX4_ok nmX4 hown hK hP hD hS 0 0 rfl rfl rfl 2 (Nat.le_of_ble_eq_true rfl) (hts _ kX4_readPart_0) (fun _ h9 => h9) rfl (by decide +kernel) rfl rfl (Nat.le_of_ble_eq_true rfl) dX4_readPart_47 (by rw [eu71]; rfl) (fun H locs hP hD hS => ?_)
        refine lv_aload_n hx hb dX4_readPart_50 rfl (lv_at hl 1 rfl) ?_
        refine lv_aload_n hx hb dX4_readPart_51 rfl (lv_at hl 2 rfl) ?_
        obtain ⟨q72, hq72, hf⟩ := bd_some hf
        refine g_callVi S (As := [.ref (a1 0)]) (gs' := [txW G a0 q72.2.1, stW G a1 q72.2.2]) (c_X4_readMember l G a0 a1 u71 v1 hq72) (cwV 1 hts gX4_readPart_X4_readMember rfl rfl rfl hd_X4_readMember ⟨Nat.le_of_ble_eq_true rfl, Nat.le_of_ble_eq_true rfl⟩) hK hP hD hS hA (is := [0, 1]) rfl rfl 0 rfl rfl rfl rfl hl.1 rfl (Nat.le_of_ble_eq_true rfl) dX4_readPart_52 ⟨Nat.le_of_ble_eq_true rfl, Nat.le_of_ble_eq_true rfl⟩ rfl (fun H locs hP hD hS => ?_)
        obtain ⟨h73, hf⟩ := gb_some hf
        cases hf
        exact g_zret hx hb hr h73 hlocks hP hS dX4_readPart_55
theorem kX4_readParts_0 : Cond.fieldLink RX4 19 "SavingsCircle$Text" "at" "I" ∈ wsX4_readParts := (List.mem_cons_of_mem _ (List.mem_append_left _ (List.mem_append_left _ (List.mem_append_left _ (List.mem_of_getElem? (i := 0) rfl)))))
theorem kX4_readParts_1 : Cond.fieldLink RX4 15 "SavingsCircle$Text" "length" "I" ∈ wsX4_readParts := (List.mem_cons_of_mem _ (List.mem_append_left _ (List.mem_append_left _ (List.mem_append_left _ (List.mem_of_getElem? (i := 1) rfl)))))
theorem iwX4_readParts_X4 : ∀ w ∈ wsX40, w ∈ wsX4_readParts := fun w h => (List.mem_cons_of_mem _ (List.mem_append_left _ (List.mem_append_right _ h)))
set_option maxHeartbeats 4000000 in
set_option maxRecDepth 100000 in
theorem w_X4_readParts_2 {p : Program} {l : Launch} {e : Env} {s : State} {m : MethodId} {args : Array Value} {below : List Frame} {meth : Method} {c : Code} {A : Nat → Prop} {q : Int32 × (TxV × StV)} (S : Ev p s m args meth c cX4_readParts 3 (some .boolean) yX4_readParts.cls wsX4_readParts) {G : uG} (hK : kK G s) (hA : ∀ q, s.heap.size ≤ q → A q) (_ : uG) (a0 : Nat → Nat) (a1 : Nat → Nat) : ∀ (n : Nat) (z : (Int32 × TxV × StV)) (e1 : ((Int32 × TxV × StV) ⊕ (Int32 × (TxV × StV)))) (_ : ∀ r, e1 = Sum.inr r → r = q), lp (b_X4_readParts_2) n z = some e1 → ∀ (H : Heap) (locs : List Loc) (ls : Array Slot), gP G [txW G a0 z.2.1, stW G a1 z.2.2] H → gD A [txW G a0 z.2.1, stW G a1 z.2.2] → va_S A s.heap H locs → lv_has ls 3 [(0, .ref (a0 0)), (1, .ref (a1 0)), (2, .int z.1)] → (∀ (s1 : (Int32 × TxV × StV)), e1 = .inl s1 → ∀ (H : Heap) (locs : List Loc) (ls : Array Slot), gP G [txW G a0 s1.2.1, stW G a1 s1.2.2] H → gD A [txW G a0 s1.2.1, stW G a1 s1.2.2] → va_S A s.heap H locs → lv_has ls 3 [(0, .ref (a0 0)), (1, .ref (a1 0)), (2, .int s1.1)] → W p l e ({ frames := 4, cells := 0, slots := 0, locals := 92 } : Room) s m args below meth c H locs 0 0 (MQ below (qI G [txW G a0 q.2.1, stW G a1 q.2.2] q.1 A) args s 0 0 A) (F0 m 35 ls [])) → W p l e ({ frames := 4, cells := 0, slots := 0, locals := 92 } : Room) s m args below meth c H locs 0 0 (MQ below (qI G [txW G a0 q.2.1, stW G a1 q.2.2] q.1 A) args s 0 0 A) (F0 m 2 ls []) := by
  obtain ⟨hx, hb, hml, hown, hts, hr, hlocks⟩ := id S
  intro n
  induction n with
  | zero => intro z e1 hE h; cases h
  | succ n ih =>
    intro z e1 hE hlp H locs ls hP hD hS hl K
    obtain ⟨z9, hf, hz⟩ := lp_s hlp
    unfold b_X4_readParts_2 at hf
    refine lv_iload_n hx hb dX4_readParts_2 rfl (lv_at hl 2 rfl) ?_
    refine lv_bipush (v := (100:Int32)) hx hb dX4_readParts_3 (by decide) ?_
    refine lv_icmp_ge (tgt := 35) hx hb dX4_readParts_5 (by decide) (fun c1 => ?_) (fun c1 => ?_)
    · rw [if_pos c1] at hf
      have he := lz_r hf hz
      exact K _ he.symm H locs ls hP hD hS (lv_sub hl [0, 1, 2] rfl)
    · rw [if_neg c1] at hf
      refine lv_aload_n hx hb dX4_readParts_8 rfl (lv_at hl 0 rfl) ?_
      refine g_get (C := RX4) (T := TX4) (N := 3) hx hb hts iwX4_readParts_X4 hown hK hP 0 0 rfl rfl rfl 2 (Nat.le_of_ble_eq_true rfl) (hts _ kX4_readParts_0) (fun _ h9 => h9) rfl dX4_readParts_9 ?_
      refine lv_aload_n hx hb dX4_readParts_12 rfl (lv_at hl 0 rfl) ?_
      refine g_get (C := RX4) (T := TX4) (N := 3) hx hb hts iwX4_readParts_X4 hown hK hP 0 0 rfl rfl rfl 1 (Nat.le_of_ble_eq_true rfl) (hts _ kX4_readParts_1) (fun _ h9 => h9) rfl dX4_readParts_13 ?_
      refine lv_icmp_ge (tgt := 35) hx hb dX4_readParts_16 (by decide) (fun c2 => ?_) (fun c2 => ?_)
      · rw [if_pos c2] at hf
        have he := lz_r hf hz
        exact K _ he.symm H locs ls hP hD hS (lv_sub hl [0, 1, 2] rfl)
      · rw [if_neg c2] at hf
        refine lv_aload_n hx hb dX4_readParts_19 rfl (lv_at hl 0 rfl) ?_
        refine lv_aload_n hx hb dX4_readParts_20 rfl (lv_at hl 1 rfl) ?_
        obtain ⟨q3, hq3, hf⟩ := bd_some hf
        refine g_callVi S (As := [.ref (a1 0)]) (gs' := [txW G a0 q3.2.1, stW G a1 q3.2.2]) (c_X4_readPart l G a0 a1 z.2.1 z.2.2 hq3) (cwV 1 hts gX4_readParts_X4_readPart rfl rfl rfl hd_X4_readPart ⟨Nat.le_of_ble_eq_true rfl, Nat.le_of_ble_eq_true rfl⟩) hK hP hD hS hA (is := [0, 1]) rfl rfl 0 rfl rfl rfl rfl hl.1 rfl (Nat.le_of_ble_eq_true rfl) dX4_readParts_21 ⟨Nat.le_of_ble_eq_true rfl, Nat.le_of_ble_eq_true rfl⟩ rfl (fun H locs hP hD hS => ?_)
        refine lv_if_ne (tgt := 29) hx hb dX4_readParts_24 (by decide) (fun c4 => ?_) (fun c4 => ?_)
        · rw [if_neg c4] at hf
          obtain ⟨x5, ex5, hf⟩ := lt_some hf
          refine lv_iinc (v := x5) (lv' := [(2, .int x5), (0, .ref (a0 0)), (1, .ref (a1 0))]) hx hb dX4_readParts_29 hl (k := 2) rfl (by rw [ex5]; rfl) (by decide) rfl (fun ls hl => ?_)
          refine lv_goto (tgt := 2) hx hb dX4_readParts_32 (by decide) ?_
          exact ih _ e1 hE (lz_l hf hz) H locs ls hP hD hS (lv_sub hl [1, 2, 0] rfl) K
        · rw [if_pos c4] at hf
          refine lv_iconst (v := (0:Int32)) hx hb dX4_readParts_27 (by decide) ?_
          have he := lz_r hf hz
          have hq := hE _ he.symm
          subst hq
          exact g_zret hx hb hr gz0 hlocks hP hS dX4_readParts_28
set_option maxHeartbeats 4000000 in
set_option maxRecDepth 100000 in
theorem c_X4_readParts (l : Launch) (G : uG) (a0 : Nat → Nat) (a1 : Nat → Nat) (v0 : TxV) (v1 : StV) {q : Int32 × (TxV × StV)} (hf : f_X4_readParts v0 v1 = some q) : mQ l yX4_readParts wsX4_readParts ({ frames := 4, cells := 0, slots := 0, locals := 92 } : Room) G [.ref (a0 0), .ref (a1 0)] [txW G a0 v0, stW G a1 v1] [txW G a0 q.2.1, stW G a1 q.2.2] (qI G [txW G a0 q.2.1, stW G a1 q.2.2] q.1) := by
  unfold f_X4_readParts at hf
  refine m_of (cc := cX4_readParts) (maxL := 3) (ret := (some .boolean)) (by decide) rfl rfl (Nat.le_of_ble_eq_true rfl) ?_
  intro p e s m args below meth c A ls S hK hA hP hD hS hl
  obtain ⟨hx, hb, hml, hown, hts, hr, hlocks⟩ := id S
  have hl : lv_has ls 3 [(0, .ref (a0 0)), (1, .ref (a1 0))] := hl
  refine lv_iconst (v := (0:Int32)) hx hb dX4_readParts_0 (by decide) ?_
  refine lv_istore_n (lv' := [(2, .int (0:Int32)), (0, .ref (a0 0)), (1, .ref (a1 0))]) hx hb dX4_readParts_1 rfl hl (by decide) rfl (fun ls hl => ?_)
  obtain ⟨e6, he6, hf⟩ := bd_some hf
  refine w_X4_readParts_2 S hK hA G a0 a1 FU _ e6 (fun r hr9 => by subst hr9; exact (Option.some.inj hf)) he6 _ _ _ hP hD hS (lv_sub hl [1, 2, 0] rfl) (fun s7 hs9 H locs ls hP hD hS hl => ?_)
  subst hs9
  have hf := el_h hf
  refine lv_iconst (v := (1:Int32)) hx hb dX4_readParts_35 (by decide) ?_
  cases hf
  exact g_zret hx hb hr gz1 hlocks hP hS dX4_readParts_36
theorem kX4_readInto_0 : Cond.fieldLink RX4 19 "SavingsCircle$Text" "at" "I" ∈ wsX4_readInto := (List.mem_cons_of_mem _ (List.mem_append_left _ (List.mem_append_left _ (List.mem_append_left _ (List.mem_of_getElem? (i := 0) rfl)))))
theorem kX4_readInto_1 : Cond.constant RX4 29 (-99999) ∈ wsX4_readInto := (List.mem_cons_of_mem _ (List.mem_append_left _ (List.mem_append_left _ (List.mem_append_left _ (List.mem_of_getElem? (i := 1) rfl)))))
theorem iwX4_readInto_X4 : ∀ w ∈ wsX40, w ∈ wsX4_readInto := fun w h => (List.mem_cons_of_mem _ (List.mem_append_left _ (List.mem_append_right _ h)))
set_option maxHeartbeats 4000000 in
set_option maxRecDepth 100000 in
theorem c_X4_readInto (l : Launch) (G : uG) (a0 : Nat → Nat) (a1 : Nat → Nat) (v0 : TxV) (v1 : StV) {q : Int32 × (TxV × StV)} (hf : f_X4_readInto v0 v1 = some q) : mQ l yX4_readInto wsX4_readInto ({ frames := 5, cells := 0, slots := 0, locals := 114 } : Room) G [.ref (a0 0), .ref (a1 0)] [txW G a0 v0, stW G a1 v1] [txW G a0 q.2.1, stW G a1 q.2.2] (qI G [txW G a0 q.2.1, stW G a1 q.2.2] q.1) := by
  unfold f_X4_readInto at hf
  refine m_of (cc := cX4_readInto) (maxL := 2) (ret := (some .int)) (by decide) rfl rfl (Nat.le_of_ble_eq_true rfl) ?_
  intro p e s m args below meth c A ls S hK hA hP hD hS hl
  obtain ⟨hx, hb, hml, hown, hts, hr, hlocks⟩ := id S
  have hl : lv_has ls 2 [(0, .ref (a0 0)), (1, .ref (a1 0))] := hl
  refine lv_aload_n hx hb dX4_readInto_0 rfl (lv_at hl 0 rfl) ?_
  refine lv_iconst (v := (0:Int32)) hx hb dX4_readInto_1 (by decide) ?_
  obtain ⟨u1, eu1, hf⟩ := lt_some hf
  refine g_put (ty := .int) (C := RX4) (T := TX4) (N := 3) (gs' := [txW G a0 u1, stW G a1 v1]) hx hb hts iwX4_readInto_X4 tyX4 tyX4_ok nmX4 hown hK hP hD hS 0 0 rfl rfl rfl 2 (Nat.le_of_ble_eq_true rfl) (hts _ kX4_readInto_0) (fun _ h9 => h9) rfl (by decide +kernel) rfl rfl (Nat.le_of_ble_eq_true rfl) dX4_readInto_2 (by rw [eu1]; rfl) (fun H locs hP hD hS => ?_)
  refine lv_aload_n hx hb dX4_readInto_5 rfl (lv_at hl 0 rfl) ?_
  refine lv_aload_n hx hb dX4_readInto_6 rfl (lv_at hl 1 rfl) ?_
  obtain ⟨q2, hq2, hf⟩ := bd_some hf
  refine g_callVi S (As := [.ref (a1 0)]) (gs' := [txW G a0 q2.2.1, stW G a1 q2.2.2]) (c_X4_readContribution l G a0 a1 u1 v1 hq2) (cwV 1 hts gX4_readInto_X4_readContribution rfl rfl rfl hd_X4_readContribution ⟨Nat.le_of_ble_eq_true rfl, Nat.le_of_ble_eq_true rfl⟩) hK hP hD hS hA (is := [0, 1]) rfl rfl 0 rfl rfl rfl rfl hl.1 rfl (Nat.le_of_ble_eq_true rfl) dX4_readInto_7 ⟨Nat.le_of_ble_eq_true rfl, Nat.le_of_ble_eq_true rfl⟩ rfl (fun H locs hP hD hS => ?_)
  refine lv_if_eq (tgt := 26) hx hb dX4_readInto_10 (by decide) (fun c3 => ?_) (fun c3 => ?_)
  · rw [if_pos c3] at hf
    refine lv_aload_n hx hb dX4_readInto_26 rfl (lv_at hl 0 rfl) ?_
    refine g_get (C := RX4) (T := TX4) (N := 3) hx hb hts iwX4_readInto_X4 hown hK hP 0 0 rfl rfl rfl 2 (Nat.le_of_ble_eq_true rfl) (hts _ kX4_readInto_0) (fun _ h9 => h9) rfl dX4_readInto_27 ?_
    cases hf
    exact g_iret hx hb hr hlocks hP hS dX4_readInto_30
  · rw [if_neg c3] at hf
    refine lv_aload_n hx hb dX4_readInto_13 rfl (lv_at hl 0 rfl) ?_
    refine lv_aload_n hx hb dX4_readInto_14 rfl (lv_at hl 1 rfl) ?_
    obtain ⟨q4, hq4, hf⟩ := bd_some hf
    refine g_callVi S (As := [.ref (a1 0)]) (gs' := [txW G a0 q4.2.1, stW G a1 q4.2.2]) (c_X4_readParts l G a0 a1 q2.2.1 q2.2.2 hq4) (cwV 1 hts gX4_readInto_X4_readParts rfl rfl rfl hd_X4_readParts ⟨Nat.le_of_ble_eq_true rfl, Nat.le_of_ble_eq_true rfl⟩) hK hP hD hS hA (is := [0, 1]) rfl rfl 0 rfl rfl rfl rfl hl.1 rfl (Nat.le_of_ble_eq_true rfl) dX4_readInto_15 ⟨Nat.le_of_ble_eq_true rfl, Nat.le_of_ble_eq_true rfl⟩ rfl (fun H locs hP hD hS => ?_)
    refine lv_if_eq (tgt := 26) hx hb dX4_readInto_18 (by decide) (fun c5 => ?_) (fun c5 => ?_)
    · rw [if_pos c5] at hf
      refine lv_aload_n hx hb dX4_readInto_26 rfl (lv_at hl 0 rfl) ?_
      refine g_get (C := RX4) (T := TX4) (N := 3) hx hb hts iwX4_readInto_X4 hown hK hP 0 0 rfl rfl rfl 2 (Nat.le_of_ble_eq_true rfl) (hts _ kX4_readInto_0) (fun _ h9 => h9) rfl dX4_readInto_27 ?_
      cases hf
      exact g_iret hx hb hr hlocks hP hS dX4_readInto_30
    · rw [if_neg c5] at hf
      refine lv_ldc (v := (-99999:Int32)) hx hb hown (hts _ kX4_readInto_1) dX4_readInto_21 ?_
      refine lv_goto (tgt := 30) hx hb dX4_readInto_23 (by decide) ?_
      cases hf
      exact g_iret hx hb hr hlocks hP hS dX4_readInto_30
