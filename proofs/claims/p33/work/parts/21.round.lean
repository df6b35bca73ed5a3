theorem hd_X1_canTake : yX1_canTake.cls = RX1 ∧ yX1_canTake.cls ≠ "java/lang/invoke/MethodHandle" ∧ yX1_canTake.cls ≠ "java/lang/invoke/VarHandle" ∧ (parseMethodDescriptor yX1_canTake.desc).map (fun d => d.parameters.length) = some 2 := by decide +kernel
theorem hd_X1_countedBid : yX1_countedBid.cls = RX1 ∧ yX1_countedBid.cls ≠ "java/lang/invoke/MethodHandle" ∧ yX1_countedBid.cls ≠ "java/lang/invoke/VarHandle" ∧ (parseMethodDescriptor yX1_countedBid.desc).map (fun d => d.parameters.length) = some 2 := by decide +kernel
theorem hd_X1_payForOther : yX1_payForOther.cls = RX1 ∧ yX1_payForOther.cls ≠ "java/lang/invoke/MethodHandle" ∧ yX1_payForOther.cls ≠ "java/lang/invoke/VarHandle" ∧ (parseMethodDescriptor yX1_payForOther.desc).map (fun d => d.parameters.length) = some 2 := by decide +kernel
theorem hd_X1_payIn : yX1_payIn.cls = RX1 ∧ yX1_payIn.cls ≠ "java/lang/invoke/MethodHandle" ∧ yX1_payIn.cls ≠ "java/lang/invoke/VarHandle" ∧ (parseMethodDescriptor yX1_payIn.desc).map (fun d => d.parameters.length) = some 1 := by decide +kernel
theorem hd_X1_payOut : yX1_payOut.cls = RX1 ∧ yX1_payOut.cls ≠ "java/lang/invoke/MethodHandle" ∧ yX1_payOut.cls ≠ "java/lang/invoke/VarHandle" ∧ (parseMethodDescriptor yX1_payOut.desc).map (fun d => d.parameters.length) = some 2 := by decide +kernel
theorem hd_X1_share : yX1_share.cls = RX1 ∧ yX1_share.cls ≠ "java/lang/invoke/MethodHandle" ∧ yX1_share.cls ≠ "java/lang/invoke/VarHandle" ∧ (parseMethodDescriptor yX1_share.desc).map (fun d => d.parameters.length) = some 2 := by decide +kernel
theorem hd_X1_taker : yX1_taker.cls = RX1 ∧ yX1_taker.cls ≠ "java/lang/invoke/MethodHandle" ∧ yX1_taker.cls ≠ "java/lang/invoke/VarHandle" ∧ (parseMethodDescriptor yX1_taker.desc).map (fun d => d.parameters.length) = some 1 := by decide +kernel
theorem hd_X1_takesPart : yX1_takesPart.cls = RX1 ∧ yX1_takesPart.cls ≠ "java/lang/invoke/MethodHandle" ∧ yX1_takesPart.cls ≠ "java/lang/invoke/VarHandle" ∧ (parseMethodDescriptor yX1_takesPart.desc).map (fun d => d.parameters.length) = some 2 := by decide +kernel
theorem hd_X3_settle : yX3_settle.cls = RX3 ∧ yX3_settle.cls ≠ "java/lang/invoke/MethodHandle" ∧ yX3_settle.cls ≠ "java/lang/invoke/VarHandle" ∧ (parseMethodDescriptor yX3_settle.desc).map (fun d => d.parameters.length) = some 3 := by decide +kernel
theorem kX1_payForOther_0 : Cond.fieldLink RX1 71 "SavingsCircle$State" "guarantor" "[I" ∈ wsX1_payForOther := (List.mem_cons_of_mem _ (List.mem_append_left _ (List.mem_append_left _ (List.mem_of_getElem? (i := 0) rfl))))
theorem kX1_payForOther_1 : Cond.fieldLink RX1 15 "SavingsCircle$Round" "missing" "[Z" ∈ wsX1_payForOther := (List.mem_cons_of_mem _ (List.mem_append_left _ (List.mem_append_left _ (List.mem_of_getElem? (i := 7) rfl))))
theorem kX1_payForOther_2 : Cond.fieldLink RX1 88 "SavingsCircle$State" "misses" "[I" ∈ wsX1_payForOther := (List.mem_cons_of_mem _ (List.mem_append_left _ (List.mem_append_left _ (List.mem_of_getElem? (i := 8) rfl))))
theorem kX1_payForOther_3 : Cond.fieldLink RX1 9 "SavingsCircle$Round" "paid" "[Z" ∈ wsX1_payForOther := (List.mem_cons_of_mem _ (List.mem_append_left _ (List.mem_append_left _ (List.mem_of_getElem? (i := 1) rfl))))
theorem kX1_payForOther_4 : Cond.fieldLink RX1 59 "SavingsCircle$State" "purse" "[I" ∈ wsX1_payForOther := (List.mem_cons_of_mem _ (List.mem_append_left _ (List.mem_append_left _ (List.mem_of_getElem? (i := 2) rfl))))
theorem kX1_payForOther_5 : Cond.fieldLink RX1 62 "SavingsCircle$State" "contribution" "I" ∈ wsX1_payForOther := (List.mem_cons_of_mem _ (List.mem_append_left _ (List.mem_append_left _ (List.mem_of_getElem? (i := 3) rfl))))
theorem kX1_payForOther_6 : Cond.fieldLink RX1 78 "SavingsCircle$State" "paidForOthers" "[I" ∈ wsX1_payForOther := (List.mem_cons_of_mem _ (List.mem_append_left _ (List.mem_append_left _ (List.mem_of_getElem? (i := 4) rfl))))
theorem kX1_payForOther_7 : Cond.fieldLink RX1 81 "SavingsCircle$State" "debt" "[I" ∈ wsX1_payForOther := (List.mem_cons_of_mem _ (List.mem_append_left _ (List.mem_append_left _ (List.mem_of_getElem? (i := 5) rfl))))
theorem kX1_payForOther_8 : Cond.fieldLink RX1 33 "SavingsCircle$Round" "pence" "I" ∈ wsX1_payForOther := (List.mem_cons_of_mem _ (List.mem_append_left _ (List.mem_append_left _ (List.mem_of_getElem? (i := 6) rfl))))
theorem iwX1_payForOther_X3 : ∀ w ∈ wsX30, w ∈ wsX1_payForOther := fun w h => (List.mem_cons_of_mem _ (List.mem_append_left _ (List.mem_append_right _ h)))
theorem iwX1_payForOther_X1 : ∀ w ∈ wsX10, w ∈ wsX1_payForOther := fun w h => (List.mem_cons_of_mem _ (List.mem_append_right _ h))
set_option maxHeartbeats 4000000 in
set_option maxRecDepth 100000 in
theorem c_X1_payForOther (l : Launch) (G : uG) (a0 : Nat → Nat) (a1 : Nat → Nat) (v0 : RdV) (v1 : StV) (i2 : Int32) {q : Unit × (RdV × StV)} (hf : f_X1_payForOther v0 v1 i2 = some q) : mQ l yX1_payForOther wsX1_payForOther ({ frames := 1, cells := 0, slots := 0, locals := 21 } : Room) G [.ref (a0 0), .ref (a1 0), .int i2] [rdW G a0 v0, stW G a1 v1] [rdW G a0 q.2.1, stW G a1 q.2.2] (qV G [rdW G a0 q.2.1, stW G a1 q.2.2] q.1) := by
  unfold f_X1_payForOther at hf
  refine m_of (cc := cX1_payForOther) (maxL := 4) (ret := none) (by decide) rfl rfl (Nat.le_of_ble_eq_true rfl) ?_
  intro p e s m args below meth c A ls S hK hA hP hD hS hl
  obtain ⟨hx, hb, hml, hown, hts, hr, hlocks⟩ := id S
  have hl : lv_has ls 4 [(0, .ref (a0 0)), (1, .ref (a1 0)), (2, .int i2)] := hl
  refine lv_aload_n hx hb dX1_payForOther_0 rfl (lv_at hl 1 rfl) ?_
  refine g_get (C := RX3) (T := TX3) (N := 17) hx hb hts iwX1_payForOther_X3 hown hK hP 1 0 rfl rfl rfl 6 (Nat.le_of_ble_eq_true rfl) (hts _ kX1_payForOther_0) (fun _ h9 => h9) rfl dX1_payForOther_1 ?_
  refine lv_iload_n hx hb dX1_payForOther_4 rfl (lv_at hl 2 rfl) ?_
  obtain ⟨h1, hf⟩ := gi_some hf
  refine g_iald hx hb hK hP 1 2 0 rfl rfl rfl h1 dX1_payForOther_5 ?_
  obtain ⟨x2, ex2, hf⟩ := lt_some hf
  refine lv_nmi ex2 ?_
  refine lv_istore_n (lv' := [(3, .int x2), (0, .ref (a0 0)), (1, .ref (a1 0)), (2, .int i2)]) hx hb dX1_payForOther_6 rfl hl (by decide) rfl (fun ls hl => ?_)
  refine lv_aload_n hx hb dX1_payForOther_7 rfl (lv_at hl 2 rfl) ?_
  refine lv_iload_n hx hb dX1_payForOther_8 rfl (lv_at hl 0 rfl) ?_
  obtain ⟨q3, hq3, hf⟩ := bd_some hf
  refine g_callVi S (As := [.int x2]) (gs' := [rdW G a0 v0, stW G a1 v1]) (c_X3_exists l G a1 v1 x2 hq3) (cwV 1 hts gX1_payForOther_X3_exists rfl rfl rfl hd_X3_exists ⟨Nat.le_of_ble_eq_true rfl, Nat.le_of_ble_eq_true rfl⟩) hK hP hD hS hA (is := [1]) rfl rfl 1 rfl rfl rfl rfl hl.1 rfl (Nat.le_of_ble_eq_true rfl) dX1_payForOther_9 ⟨Nat.le_of_ble_eq_true rfl, Nat.le_of_ble_eq_true rfl⟩ rfl (fun H locs hP hD hS => ?_)
  refine lv_if_eq (tgt := 96) hx hb dX1_payForOther_12 (by decide) (fun c4 => ?_) (fun c4 => ?_)
  · rw [if_pos c4] at hf
    refine lv_aload_n hx hb dX1_payForOther_96 rfl (lv_at hl 1 rfl) ?_
    refine g_get (C := RX1) (T := TX1) (N := 3) hx hb hts iwX1_payForOther_X1 hown hK hP 0 0 rfl rfl rfl 1 (Nat.le_of_ble_eq_true rfl) (hts _ kX1_payForOther_1) (fun _ h9 => h9) rfl dX1_payForOther_97 ?_
    refine lv_iload_n hx hb dX1_payForOther_100 rfl (lv_at hl 3 rfl) ?_
    refine lv_iconst (v := (1:Int32)) hx hb dX1_payForOther_101 (by decide) ?_
    obtain ⟨h5, hf⟩ := gi_some hf
    obtain ⟨u6, eu6, hf⟩ := lt_some hf
    refine g_zast (gs' := [rdW G a0 u6, stW G a1 v1]) hx hb hK hP hD hS 0 2 1 rfl rfl rfl h5 dX1_payForOther_102 (by rw [eu6]; rfl) (fun H locs hP hD hS => ?_)
    refine lv_aload_n hx hb dX1_payForOther_103 rfl (lv_at hl 2 rfl) ?_
    refine g_get (C := RX3) (T := TX3) (N := 17) hx hb hts iwX1_payForOther_X3 hown hK hP 1 0 rfl rfl rfl 15 (Nat.le_of_ble_eq_true rfl) (hts _ kX1_payForOther_2) (fun _ h9 => h9) rfl dX1_payForOther_104 ?_
    refine lv_iload_n hx hb dX1_payForOther_107 rfl (lv_at hl 3 rfl) ?_
    refine lv_dup2_11 hx hb dX1_payForOther_108 rfl rfl ?_
    obtain ⟨h7, hf⟩ := gi_some hf
    refine g_iald hx hb hK hP 1 11 0 rfl rfl rfl h7 dX1_payForOther_109 ?_
    refine lv_iconst (v := (1:Int32)) hx hb dX1_payForOther_110 (by decide) ?_
    refine lv_iadd hx hb dX1_payForOther_111 ?_
    obtain ⟨h8, hf⟩ := gi_some hf
    obtain ⟨u9, eu9, hf⟩ := lt_some hf
    refine g_iast (gs' := [rdW G a0 u6, stW G a1 u9]) hx hb hK hP hD hS 1 11 0 rfl rfl rfl h8 dX1_payForOther_112 (by rw [eu9]; rfl) (fun H locs hP hD hS => ?_)
    cases hf
    exact g_vret hx hb hr hlocks hP hS dX1_payForOther_113
  · rw [if_neg c4] at hf
    refine lv_aload_n hx hb dX1_payForOther_15 rfl (lv_at hl 1 rfl) ?_
    refine g_get (C := RX1) (T := TX1) (N := 3) hx hb hts iwX1_payForOther_X1 hown hK hP 0 0 rfl rfl rfl 0 (Nat.le_of_ble_eq_true rfl) (hts _ kX1_payForOther_3) (fun _ h9 => h9) rfl dX1_payForOther_16 ?_
    refine lv_iload_n hx hb dX1_payForOther_19 rfl (lv_at hl 0 rfl) ?_
    obtain ⟨h10, hf⟩ := gi_some hf
    refine g_zald hx hb hK hP 0 1 1 rfl rfl rfl h10 dX1_payForOther_20 ?_
    refine lv_if_eq (tgt := 96) hx hb dX1_payForOther_21 (by decide) (fun c11 => ?_) (fun c11 => ?_)
    · rw [if_pos c11] at hf
      refine lv_aload_n hx hb dX1_payForOther_96 rfl (lv_at hl 1 rfl) ?_
      refine g_get (C := RX1) (T := TX1) (N := 3) hx hb hts iwX1_payForOther_X1 hown hK hP 0 0 rfl rfl rfl 1 (Nat.le_of_ble_eq_true rfl) (hts _ kX1_payForOther_1) (fun _ h9 => h9) rfl dX1_payForOther_97 ?_
      refine lv_iload_n hx hb dX1_payForOther_100 rfl (lv_at hl 3 rfl) ?_
      refine lv_iconst (v := (1:Int32)) hx hb dX1_payForOther_101 (by decide) ?_
      obtain ⟨h12, hf⟩ := gi_some hf
      obtain ⟨u13, eu13, hf⟩ := lt_some hf
      refine g_zast (gs' := [rdW G a0 u13, stW G a1 v1]) hx hb hK hP hD hS 0 2 1 rfl rfl rfl h12 dX1_payForOther_102 (by rw [eu13]; rfl) (fun H locs hP hD hS => ?_)
      refine lv_aload_n hx hb dX1_payForOther_103 rfl (lv_at hl 2 rfl) ?_
      refine g_get (C := RX3) (T := TX3) (N := 17) hx hb hts iwX1_payForOther_X3 hown hK hP 1 0 rfl rfl rfl 15 (Nat.le_of_ble_eq_true rfl) (hts _ kX1_payForOther_2) (fun _ h9 => h9) rfl dX1_payForOther_104 ?_
      refine lv_iload_n hx hb dX1_payForOther_107 rfl (lv_at hl 3 rfl) ?_
      refine lv_dup2_11 hx hb dX1_payForOther_108 rfl rfl ?_
      obtain ⟨h14, hf⟩ := gi_some hf
      refine g_iald hx hb hK hP 1 11 0 rfl rfl rfl h14 dX1_payForOther_109 ?_
      refine lv_iconst (v := (1:Int32)) hx hb dX1_payForOther_110 (by decide) ?_
      refine lv_iadd hx hb dX1_payForOther_111 ?_
      obtain ⟨h15, hf⟩ := gi_some hf
      obtain ⟨u16, eu16, hf⟩ := lt_some hf
      refine g_iast (gs' := [rdW G a0 u13, stW G a1 u16]) hx hb hK hP hD hS 1 11 0 rfl rfl rfl h15 dX1_payForOther_112 (by rw [eu16]; rfl) (fun H locs hP hD hS => ?_)
      cases hf
      exact g_vret hx hb hr hlocks hP hS dX1_payForOther_113
    · rw [if_neg c11] at hf
      refine lv_aload_n hx hb dX1_payForOther_24 rfl (lv_at hl 2 rfl) ?_
      refine g_get (C := RX3) (T := TX3) (N := 17) hx hb hts iwX1_payForOther_X3 hown hK hP 1 0 rfl rfl rfl 5 (Nat.le_of_ble_eq_true rfl) (hts _ kX1_payForOther_4) (fun _ h9 => h9) rfl dX1_payForOther_25 ?_
      refine lv_iload_n hx hb dX1_payForOther_28 rfl (lv_at hl 0 rfl) ?_
      obtain ⟨h17, hf⟩ := gi_some hf
      refine g_iald hx hb hK hP 1 1 0 rfl rfl rfl h17 dX1_payForOther_29 ?_
      refine lv_aload_n hx hb dX1_payForOther_30 rfl (lv_at hl 2 rfl) ?_
      refine g_get (C := RX3) (T := TX3) (N := 17) hx hb hts iwX1_payForOther_X3 hown hK hP 1 0 rfl rfl rfl 2 (Nat.le_of_ble_eq_true rfl) (hts _ kX1_payForOther_5) (fun _ h9 => h9) rfl dX1_payForOther_31 ?_
      refine lv_icmp_lt (tgt := 96) hx hb dX1_payForOther_34 (by decide) (fun c18 => ?_) (fun c18 => ?_)
      · rw [if_pos c18] at hf
        refine lv_aload_n hx hb dX1_payForOther_96 rfl (lv_at hl 1 rfl) ?_
        refine g_get (C := RX1) (T := TX1) (N := 3) hx hb hts iwX1_payForOther_X1 hown hK hP 0 0 rfl rfl rfl 1 (Nat.le_of_ble_eq_true rfl) (hts _ kX1_payForOther_1) (fun _ h9 => h9) rfl dX1_payForOther_97 ?_
        refine lv_iload_n hx hb dX1_payForOther_100 rfl (lv_at hl 3 rfl) ?_
        refine lv_iconst (v := (1:Int32)) hx hb dX1_payForOther_101 (by decide) ?_
        obtain ⟨h19, hf⟩ := gi_some hf
        obtain ⟨u20, eu20, hf⟩ := lt_some hf
        refine g_zast (gs' := [rdW G a0 u20, stW G a1 v1]) hx hb hK hP hD hS 0 2 1 rfl rfl rfl h19 dX1_payForOther_102 (by rw [eu20]; rfl) (fun H locs hP hD hS => ?_)
        refine lv_aload_n hx hb dX1_payForOther_103 rfl (lv_at hl 2 rfl) ?_
        refine g_get (C := RX3) (T := TX3) (N := 17) hx hb hts iwX1_payForOther_X3 hown hK hP 1 0 rfl rfl rfl 15 (Nat.le_of_ble_eq_true rfl) (hts _ kX1_payForOther_2) (fun _ h9 => h9) rfl dX1_payForOther_104 ?_
        refine lv_iload_n hx hb dX1_payForOther_107 rfl (lv_at hl 3 rfl) ?_
        refine lv_dup2_11 hx hb dX1_payForOther_108 rfl rfl ?_
        obtain ⟨h21, hf⟩ := gi_some hf
        refine g_iald hx hb hK hP 1 11 0 rfl rfl rfl h21 dX1_payForOther_109 ?_
        refine lv_iconst (v := (1:Int32)) hx hb dX1_payForOther_110 (by decide) ?_
        refine lv_iadd hx hb dX1_payForOther_111 ?_
        obtain ⟨h22, hf⟩ := gi_some hf
        obtain ⟨u23, eu23, hf⟩ := lt_some hf
        refine g_iast (gs' := [rdW G a0 u20, stW G a1 u23]) hx hb hK hP hD hS 1 11 0 rfl rfl rfl h22 dX1_payForOther_112 (by rw [eu23]; rfl) (fun H locs hP hD hS => ?_)
        cases hf
        exact g_vret hx hb hr hlocks hP hS dX1_payForOther_113
      · rw [if_neg c18] at hf
        refine lv_aload_n hx hb dX1_payForOther_37 rfl (lv_at hl 2 rfl) ?_
        refine g_get (C := RX3) (T := TX3) (N := 17) hx hb hts iwX1_payForOther_X3 hown hK hP 1 0 rfl rfl rfl 5 (Nat.le_of_ble_eq_true rfl) (hts _ kX1_payForOther_4) (fun _ h9 => h9) rfl dX1_payForOther_38 ?_
        refine lv_iload_n hx hb dX1_payForOther_41 rfl (lv_at hl 0 rfl) ?_
        refine lv_dup2_11 hx hb dX1_payForOther_42 rfl rfl ?_
        obtain ⟨h24, hf⟩ := gi_some hf
        refine g_iald hx hb hK hP 1 1 0 rfl rfl rfl h24 dX1_payForOther_43 ?_
        refine lv_aload_n hx hb dX1_payForOther_44 rfl (lv_at hl 2 rfl) ?_
        refine g_get (C := RX3) (T := TX3) (N := 17) hx hb hts iwX1_payForOther_X3 hown hK hP 1 0 rfl rfl rfl 2 (Nat.le_of_ble_eq_true rfl) (hts _ kX1_payForOther_5) (fun _ h9 => h9) rfl dX1_payForOther_45 ?_
        refine lv_isub hx hb dX1_payForOther_48 ?_
        obtain ⟨x25, ex25, hf⟩ := lt_some hf
        refine lv_nmi ex25 ?_
        obtain ⟨h26, hf⟩ := gi_some hf
        obtain ⟨u27, eu27, hf⟩ := lt_some hf
        refine g_iast (gs' := [rdW G a0 v0, stW G a1 u27]) hx hb hK hP hD hS 1 1 0 rfl rfl rfl h26 dX1_payForOther_49 (by rw [eu27]; rfl) (fun H locs hP hD hS => ?_)
        refine lv_aload_n hx hb dX1_payForOther_50 rfl (lv_at hl 2 rfl) ?_
        refine g_get (C := RX3) (T := TX3) (N := 17) hx hb hts iwX1_payForOther_X3 hown hK hP 1 0 rfl rfl rfl 12 (Nat.le_of_ble_eq_true rfl) (hts _ kX1_payForOther_6) (fun _ h9 => h9) rfl dX1_payForOther_51 ?_
        refine lv_iload_n hx hb dX1_payForOther_54 rfl (lv_at hl 0 rfl) ?_
        refine lv_dup2_11 hx hb dX1_payForOther_55 rfl rfl ?_
        obtain ⟨h28, hf⟩ := gi_some hf
        refine g_iald hx hb hK hP 1 8 0 rfl rfl rfl h28 dX1_payForOther_56 ?_
        refine lv_aload_n hx hb dX1_payForOther_57 rfl (lv_at hl 2 rfl) ?_
        refine g_get (C := RX3) (T := TX3) (N := 17) hx hb hts iwX1_payForOther_X3 hown hK hP 1 0 rfl rfl rfl 2 (Nat.le_of_ble_eq_true rfl) (hts _ kX1_payForOther_5) (fun _ h9 => h9) rfl dX1_payForOther_58 ?_
        refine lv_iadd hx hb dX1_payForOther_61 ?_
        obtain ⟨x29, ex29, hf⟩ := lt_some hf
        refine lv_nmi ex29 ?_
        obtain ⟨h30, hf⟩ := gi_some hf
        obtain ⟨u31, eu31, hf⟩ := lt_some hf
        refine g_iast (gs' := [rdW G a0 v0, stW G a1 u31]) hx hb hK hP hD hS 1 8 0 rfl rfl rfl h30 dX1_payForOther_62 (by rw [eu31]; rfl) (fun H locs hP hD hS => ?_)
        refine lv_aload_n hx hb dX1_payForOther_63 rfl (lv_at hl 2 rfl) ?_
        refine g_get (C := RX3) (T := TX3) (N := 17) hx hb hts iwX1_payForOther_X3 hown hK hP 1 0 rfl rfl rfl 16 (Nat.le_of_ble_eq_true rfl) (hts _ kX1_payForOther_7) (fun _ h9 => h9) rfl dX1_payForOther_64 ?_
        refine lv_iload_n hx hb dX1_payForOther_67 rfl (lv_at hl 3 rfl) ?_
        refine lv_iload_n hx hb dX1_payForOther_68 rfl (lv_at hl 0 rfl) ?_
        obtain ⟨q32, hq32, hf⟩ := bd_some hf
        refine g_callSi S (As := [.int i2, .int x2]) (gs' := [rdW G a0 v0, stW G a1 u31]) (c_X3_pair l G i2 x2 hq32) (va_cwS 2 hts gX1_payForOther_X3_pair rfl rfl rfl hd_X3_pair.2 ⟨Nat.le_of_ble_eq_true rfl, Nat.le_of_ble_eq_true rfl⟩) hK hP hD hS hA (is := []) rfl rfl rfl hl.1 rfl (Nat.le_of_ble_eq_true rfl) dX1_payForOther_69 ⟨Nat.le_of_ble_eq_true rfl, Nat.le_of_ble_eq_true rfl⟩ rfl (fun H locs hP hD hS => ?_)
        refine lv_dup2_11 hx hb dX1_payForOther_72 rfl rfl ?_
        obtain ⟨h33, hf⟩ := gi_some hf
        refine g_iald hx hb hK hP 1 12 0 rfl rfl rfl h33 dX1_payForOther_73 ?_
        refine lv_aload_n hx hb dX1_payForOther_74 rfl (lv_at hl 2 rfl) ?_
        refine g_get (C := RX3) (T := TX3) (N := 17) hx hb hts iwX1_payForOther_X3 hown hK hP 1 0 rfl rfl rfl 2 (Nat.le_of_ble_eq_true rfl) (hts _ kX1_payForOther_5) (fun _ h9 => h9) rfl dX1_payForOther_75 ?_
        refine lv_iadd hx hb dX1_payForOther_78 ?_
        obtain ⟨x34, ex34, hf⟩ := lt_some hf
        refine lv_nmi ex34 ?_
        obtain ⟨h35, hf⟩ := gi_some hf
        obtain ⟨u36, eu36, hf⟩ := lt_some hf
        refine g_iast (gs' := [rdW G a0 v0, stW G a1 u36]) hx hb hK hP hD hS 1 12 0 rfl rfl rfl h35 dX1_payForOther_79 (by rw [eu36]; rfl) (fun H locs hP hD hS => ?_)
        refine lv_aload_n hx hb dX1_payForOther_80 rfl (lv_at hl 1 rfl) ?_
        refine lv_dup hx hb dX1_payForOther_81 rfl ?_
        refine g_get (C := RX1) (T := TX1) (N := 3) hx hb hts iwX1_payForOther_X1 hown hK hP 0 0 rfl rfl rfl 2 (Nat.le_of_ble_eq_true rfl) (hts _ kX1_payForOther_8) (fun _ h9 => h9) rfl dX1_payForOther_82 ?_
        refine lv_aload_n hx hb dX1_payForOther_85 rfl (lv_at hl 2 rfl) ?_
        refine g_get (C := RX3) (T := TX3) (N := 17) hx hb hts iwX1_payForOther_X3 hown hK hP 1 0 rfl rfl rfl 2 (Nat.le_of_ble_eq_true rfl) (hts _ kX1_payForOther_5) (fun _ h9 => h9) rfl dX1_payForOther_86 ?_
        refine lv_iadd hx hb dX1_payForOther_89 ?_
        obtain ⟨u37, eu37, hf⟩ := lt_some hf
        refine g_put (ty := .int) (C := RX1) (T := TX1) (N := 3) (gs' := [rdW G a0 u37, stW G a1 u36]) hx hb hts iwX1_payForOther_X1 tyX1 tyX1_ok nmX1 hown hK hP hD hS 0 0 rfl rfl rfl 2 (Nat.le_of_ble_eq_true rfl) (hts _ kX1_payForOther_8) (fun _ h9 => h9) rfl (by decide +kernel) rfl rfl (Nat.le_of_ble_eq_true rfl) dX1_payForOther_90 (by rw [eu37]; rfl) (fun H locs hP hD hS => ?_)
        refine lv_goto (tgt := 113) hx hb dX1_payForOther_93 (by decide) ?_
        cases hf
        exact g_vret hx hb hr hlocks hP hS dX1_payForOther_113
theorem kX1_payIn_0 : Cond.fieldLink RX1 33 "SavingsCircle$Round" "pence" "I" ∈ wsX1_payIn := (List.mem_cons_of_mem _ (List.mem_append_left _ (List.mem_append_left _ (List.mem_append_left _ (List.mem_of_getElem? (i := 0) rfl)))))
theorem kX1_payIn_1 : Cond.fieldLink RX1 43 "SavingsCircle$State" "count" "I" ∈ wsX1_payIn := (List.mem_cons_of_mem _ (List.mem_append_left _ (List.mem_append_left _ (List.mem_append_left _ (List.mem_of_getElem? (i := 1) rfl)))))
theorem kX1_payIn_2 : Cond.fieldLink RX1 15 "SavingsCircle$Round" "missing" "[Z" ∈ wsX1_payIn := (List.mem_cons_of_mem _ (List.mem_append_left _ (List.mem_append_left _ (List.mem_append_left _ (List.mem_of_getElem? (i := 2) rfl)))))
theorem kX1_payIn_3 : Cond.fieldLink RX1 9 "SavingsCircle$Round" "paid" "[Z" ∈ wsX1_payIn := (List.mem_cons_of_mem _ (List.mem_append_left _ (List.mem_append_left _ (List.mem_append_left _ (List.mem_of_getElem? (i := 3) rfl)))))
theorem kX1_payIn_4 : Cond.fieldLink RX1 56 "SavingsCircle$State" "inside" "[Z" ∈ wsX1_payIn := (List.mem_cons_of_mem _ (List.mem_append_left _ (List.mem_append_left _ (List.mem_append_left _ (List.mem_of_getElem? (i := 4) rfl)))))
theorem kX1_payIn_5 : Cond.fieldLink RX1 59 "SavingsCircle$State" "purse" "[I" ∈ wsX1_payIn := (List.mem_cons_of_mem _ (List.mem_append_left _ (List.mem_append_left _ (List.mem_append_left _ (List.mem_of_getElem? (i := 6) rfl)))))
theorem kX1_payIn_6 : Cond.fieldLink RX1 62 "SavingsCircle$State" "contribution" "I" ∈ wsX1_payIn := (List.mem_cons_of_mem _ (List.mem_append_left _ (List.mem_append_left _ (List.mem_append_left _ (List.mem_of_getElem? (i := 7) rfl)))))
theorem kX1_payIn_7 : Cond.fieldLink RX1 65 "SavingsCircle$State" "paidForItself" "[I" ∈ wsX1_payIn := (List.mem_cons_of_mem _ (List.mem_append_left _ (List.mem_append_left _ (List.mem_append_left _ (List.mem_of_getElem? (i := 8) rfl)))))
theorem kX1_payIn_8 : Cond.fieldLink RX1 50 "SavingsCircle$State" "away" "[Z" ∈ wsX1_payIn := (List.mem_cons_of_mem _ (List.mem_append_left _ (List.mem_append_left _ (List.mem_append_left _ (List.mem_of_getElem? (i := 5) rfl)))))
theorem iwX1_payIn_X1 : ∀ w ∈ wsX10, w ∈ wsX1_payIn := fun w h => (List.mem_cons_of_mem _ (List.mem_append_left _ (List.mem_append_right _ h)))
theorem iwX1_payIn_X3 : ∀ w ∈ wsX30, w ∈ wsX1_payIn := fun w h => (List.mem_cons_of_mem _ (List.mem_append_right _ h))
set_option maxHeartbeats 4000000 in
set_option maxRecDepth 100000 in
theorem w_X1_payIn_7 {p : Program} {l : Launch} {e : Env} {s : State} {m : MethodId} {args : Array Value} {below : List Frame} {meth : Method} {c : Code} {A : Nat → Prop} {Q : State → Prop} (S : Ev p s m args meth c cX1_payIn 3 none yX1_payIn.cls wsX1_payIn) {G : uG} (hK : kK G s) (hA : ∀ q, s.heap.size ≤ q → A q) (_ : uG) (a0 : Nat → Nat) (a1 : Nat → Nat) : ∀ (n : Nat) (z : (Int32 × RdV × StV)) (e1 : (Int32 × RdV × StV)), lp (b_X1_payIn_7) n z = some e1 → ∀ (H : Heap) (locs : List Loc) (ls : Array Slot), gP G [rdW G a0 z.2.1, stW G a1 z.2.2] H → gD A [rdW G a0 z.2.1, stW G a1 z.2.2] → va_S A s.heap H locs → lv_has ls 3 [(0, .ref (a0 0)), (1, .ref (a1 0)), (2, .int z.1)] → (∀ (H : Heap) (locs : List Loc) (ls : Array Slot), gP G [rdW G a0 e1.2.1, stW G a1 e1.2.2] H → gD A [rdW G a0 e1.2.1, stW G a1 e1.2.2] → va_S A s.heap H locs → lv_has ls 3 [(0, .ref (a0 0)), (1, .ref (a1 0)), (2, .int e1.1)] → W p l e ({ frames := 2, cells := 0, slots := 0, locals := 44 } : Room) s m args below meth c H locs 0 0 Q (F0 m 118 ls [])) → W p l e ({ frames := 2, cells := 0, slots := 0, locals := 44 } : Room) s m args below meth c H locs 0 0 Q (F0 m 7 ls []) := by
  obtain ⟨hx, hb, hml, hown, hts, hr, hlocks⟩ := id S
  intro n
  induction n with
  | zero => intro z e1 h; cases h
  | succ n ih =>
    intro z e1 hlp H locs ls hP hD hS hl K
    obtain ⟨z9, hf, hz⟩ := lp_s hlp
    unfold b_X1_payIn_7 at hf
    refine lv_iload_n hx hb dX1_payIn_7 rfl (lv_at hl 2 rfl) ?_
    refine lv_aload_n hx hb dX1_payIn_8 rfl (lv_at hl 1 rfl) ?_
    refine g_get (C := RX3) (T := TX3) (N := 17) hx hb hts iwX1_payIn_X3 hown hK hP 1 0 rfl rfl rfl 0 (Nat.le_of_ble_eq_true rfl) (hts _ kX1_payIn_1) (fun _ h9 => h9) rfl dX1_payIn_9 ?_
    refine lv_icmp_ge (tgt := 118) hx hb dX1_payIn_12 (by decide) (fun c2 => ?_) (fun c2 => ?_)
    · rw [if_pos c2] at hf
      have he := lz_r hf hz
      subst he
      exact K H locs ls hP hD hS (lv_sub hl [0, 1, 2] rfl)
    · rw [if_neg c2] at hf
      refine lv_aload_n hx hb dX1_payIn_15 rfl (lv_at hl 0 rfl) ?_
      refine g_get (C := RX1) (T := TX1) (N := 3) hx hb hts iwX1_payIn_X1 hown hK hP 0 0 rfl rfl rfl 1 (Nat.le_of_ble_eq_true rfl) (hts _ kX1_payIn_2) (fun _ h9 => h9) rfl dX1_payIn_16 ?_
      refine lv_iload_n hx hb dX1_payIn_19 rfl (lv_at hl 2 rfl) ?_
      refine lv_iconst (v := (0:Int32)) hx hb dX1_payIn_20 (by decide) ?_
      obtain ⟨h3, hf⟩ := gi_some hf
      obtain ⟨u4, eu4, hf⟩ := lt_some hf
      refine g_zast (gs' := [rdW G a0 u4, stW G a1 z.2.2]) hx hb hK hP hD hS 0 2 1 rfl rfl rfl h3 dX1_payIn_21 (by rw [eu4]; rfl) (fun H locs hP hD hS => ?_)
      refine lv_aload_n hx hb dX1_payIn_22 rfl (lv_at hl 0 rfl) ?_
      refine g_get (C := RX1) (T := TX1) (N := 3) hx hb hts iwX1_payIn_X1 hown hK hP 0 0 rfl rfl rfl 0 (Nat.le_of_ble_eq_true rfl) (hts _ kX1_payIn_3) (fun _ h9 => h9) rfl dX1_payIn_23 ?_
      refine lv_iload_n hx hb dX1_payIn_26 rfl (lv_at hl 2 rfl) ?_
      refine lv_aload_n hx hb dX1_payIn_27 rfl (lv_at hl 1 rfl) ?_
      refine g_get (C := RX3) (T := TX3) (N := 17) hx hb hts iwX1_payIn_X3 hown hK hP 1 0 rfl rfl rfl 10 (Nat.le_of_ble_eq_true rfl) (hts _ kX1_payIn_4) (fun _ h9 => h9) rfl dX1_payIn_28 ?_
      refine lv_iload_n hx hb dX1_payIn_31 rfl (lv_at hl 2 rfl) ?_
      obtain ⟨h5, hf⟩ := gi_some hf
      refine g_zald hx hb hK hP 1 6 1 rfl rfl rfl h5 dX1_payIn_32 ?_
      refine lv_if_eq (tgt := 62) hx hb dX1_payIn_33 (by decide) (fun c6 => ?_) (fun c6 => ?_)
      · rw [if_pos c6] at hf
        refine lv_iconst (v := (0:Int32)) hx hb dX1_payIn_62 (by decide) ?_
        obtain ⟨h7, hf⟩ := gi_some hf
        obtain ⟨u8, eu8, hf⟩ := lt_some hf
        refine g_zast (gs' := [rdW G a0 u8, stW G a1 z.2.2]) hx hb hK hP hD hS 0 1 1 rfl rfl rfl h7 dX1_payIn_63 (by rw [eu8]; rfl) (fun H locs hP hD hS => ?_)
        refine lv_aload_n hx hb dX1_payIn_64 rfl (lv_at hl 0 rfl) ?_
        refine g_get (C := RX1) (T := TX1) (N := 3) hx hb hts iwX1_payIn_X1 hown hK hP 0 0 rfl rfl rfl 0 (Nat.le_of_ble_eq_true rfl) (hts _ kX1_payIn_3) (fun _ h9 => h9) rfl dX1_payIn_65 ?_
        refine lv_iload_n hx hb dX1_payIn_68 rfl (lv_at hl 2 rfl) ?_
        obtain ⟨h9, hf⟩ := gi_some hf
        refine g_zald hx hb hK hP 0 1 1 rfl rfl rfl h9 dX1_payIn_69 ?_
        refine lv_if_eq (tgt := 112) hx hb dX1_payIn_70 (by decide) (fun c10 => ?_) (fun c10 => ?_)
        · rw [if_pos c10] at hf
          obtain ⟨x11, ex11, hf⟩ := lt_some hf
          refine lv_iinc (v := x11) (lv' := [(2, .int x11), (0, .ref (a0 0)), (1, .ref (a1 0))]) hx hb dX1_payIn_112 hl (k := 2) rfl (by rw [ex11]; rfl) (by decide) rfl (fun ls hl => ?_)
          refine lv_goto (tgt := 7) hx hb dX1_payIn_115 (by decide) ?_
          exact ih _ e1 (lz_l hf hz) H locs ls hP hD hS (lv_sub hl [1, 2, 0] rfl) K
        · rw [if_neg c10] at hf
          refine lv_aload_n hx hb dX1_payIn_73 rfl (lv_at hl 1 rfl) ?_
          refine g_get (C := RX3) (T := TX3) (N := 17) hx hb hts iwX1_payIn_X3 hown hK hP 1 0 rfl rfl rfl 5 (Nat.le_of_ble_eq_true rfl) (hts _ kX1_payIn_5) (fun _ h9 => h9) rfl dX1_payIn_74 ?_
          refine lv_iload_n hx hb dX1_payIn_77 rfl (lv_at hl 2 rfl) ?_
          refine lv_dup2_11 hx hb dX1_payIn_78 rfl rfl ?_
          obtain ⟨h12, hf⟩ := gi_some hf
          refine g_iald hx hb hK hP 1 1 0 rfl rfl rfl h12 dX1_payIn_79 ?_
          refine lv_aload_n hx hb dX1_payIn_80 rfl (lv_at hl 1 rfl) ?_
          refine g_get (C := RX3) (T := TX3) (N := 17) hx hb hts iwX1_payIn_X3 hown hK hP 1 0 rfl rfl rfl 2 (Nat.le_of_ble_eq_true rfl) (hts _ kX1_payIn_6) (fun _ h9 => h9) rfl dX1_payIn_81 ?_
          refine lv_isub hx hb dX1_payIn_84 ?_
          obtain ⟨x13, ex13, hf⟩ := lt_some hf
          refine lv_nmi ex13 ?_
          obtain ⟨h14, hf⟩ := gi_some hf
          obtain ⟨u15, eu15, hf⟩ := lt_some hf
          refine g_iast (gs' := [rdW G a0 u8, stW G a1 u15]) hx hb hK hP hD hS 1 1 0 rfl rfl rfl h14 dX1_payIn_85 (by rw [eu15]; rfl) (fun H locs hP hD hS => ?_)
          refine lv_aload_n hx hb dX1_payIn_86 rfl (lv_at hl 1 rfl) ?_
          refine g_get (C := RX3) (T := TX3) (N := 17) hx hb hts iwX1_payIn_X3 hown hK hP 1 0 rfl rfl rfl 11 (Nat.le_of_ble_eq_true rfl) (hts _ kX1_payIn_7) (fun _ h9 => h9) rfl dX1_payIn_87 ?_
          refine lv_iload_n hx hb dX1_payIn_90 rfl (lv_at hl 2 rfl) ?_
          refine lv_dup2_11 hx hb dX1_payIn_91 rfl rfl ?_
          obtain ⟨h16, hf⟩ := gi_some hf
          refine g_iald hx hb hK hP 1 7 0 rfl rfl rfl h16 dX1_payIn_92 ?_
          refine lv_aload_n hx hb dX1_payIn_93 rfl (lv_at hl 1 rfl) ?_
          refine g_get (C := RX3) (T := TX3) (N := 17) hx hb hts iwX1_payIn_X3 hown hK hP 1 0 rfl rfl rfl 2 (Nat.le_of_ble_eq_true rfl) (hts _ kX1_payIn_6) (fun _ h9 => h9) rfl dX1_payIn_94 ?_
          refine lv_iadd hx hb dX1_payIn_97 ?_
          obtain ⟨x17, ex17, hf⟩ := lt_some hf
          refine lv_nmi ex17 ?_
          obtain ⟨h18, hf⟩ := gi_some hf
          obtain ⟨u19, eu19, hf⟩ := lt_some hf
          refine g_iast (gs' := [rdW G a0 u8, stW G a1 u19]) hx hb hK hP hD hS 1 7 0 rfl rfl rfl h18 dX1_payIn_98 (by rw [eu19]; rfl) (fun H locs hP hD hS => ?_)
          refine lv_aload_n hx hb dX1_payIn_99 rfl (lv_at hl 0 rfl) ?_
          refine lv_dup hx hb dX1_payIn_100 rfl ?_
          refine g_get (C := RX1) (T := TX1) (N := 3) hx hb hts iwX1_payIn_X1 hown hK hP 0 0 rfl rfl rfl 2 (Nat.le_of_ble_eq_true rfl) (hts _ kX1_payIn_0) (fun _ h9 => h9) rfl dX1_payIn_101 ?_
          refine lv_aload_n hx hb dX1_payIn_104 rfl (lv_at hl 1 rfl) ?_
          refine g_get (C := RX3) (T := TX3) (N := 17) hx hb hts iwX1_payIn_X3 hown hK hP 1 0 rfl rfl rfl 2 (Nat.le_of_ble_eq_true rfl) (hts _ kX1_payIn_6) (fun _ h9 => h9) rfl dX1_payIn_105 ?_
          refine lv_iadd hx hb dX1_payIn_108 ?_
          obtain ⟨u20, eu20, hf⟩ := lt_some hf
          refine g_put (ty := .int) (C := RX1) (T := TX1) (N := 3) (gs' := [rdW G a0 u20, stW G a1 u19]) hx hb hts iwX1_payIn_X1 tyX1 tyX1_ok nmX1 hown hK hP hD hS 0 0 rfl rfl rfl 2 (Nat.le_of_ble_eq_true rfl) (hts _ kX1_payIn_0) (fun _ h9 => h9) rfl (by decide +kernel) rfl rfl (Nat.le_of_ble_eq_true rfl) dX1_payIn_109 (by rw [eu20]; rfl) (fun H locs hP hD hS => ?_)
          obtain ⟨x21, ex21, hf⟩ := lt_some hf
          refine lv_iinc (v := x21) (lv' := [(2, .int x21), (0, .ref (a0 0)), (1, .ref (a1 0))]) hx hb dX1_payIn_112 hl (k := 2) rfl (by rw [ex21]; rfl) (by decide) rfl (fun ls hl => ?_)
          refine lv_goto (tgt := 7) hx hb dX1_payIn_115 (by decide) ?_
          exact ih _ e1 (lz_l hf hz) H locs ls hP hD hS (lv_sub hl [1, 2, 0] rfl) K
      · rw [if_neg c6] at hf
        refine lv_aload_n hx hb dX1_payIn_36 rfl (lv_at hl 1 rfl) ?_
        refine g_get (C := RX3) (T := TX3) (N := 17) hx hb hts iwX1_payIn_X3 hown hK hP 1 0 rfl rfl rfl 8 (Nat.le_of_ble_eq_true rfl) (hts _ kX1_payIn_8) (fun _ h9 => h9) rfl dX1_payIn_37 ?_
        refine lv_iload_n hx hb dX1_payIn_40 rfl (lv_at hl 2 rfl) ?_
        obtain ⟨h22, hf⟩ := gi_some hf
        refine g_zald hx hb hK hP 1 4 1 rfl rfl rfl h22 dX1_payIn_41 ?_
        refine lv_if_ne (tgt := 62) hx hb dX1_payIn_42 (by decide) (fun c23 => ?_) (fun c23 => ?_)
        · rw [if_neg c23] at hf
          refine lv_iconst (v := (0:Int32)) hx hb dX1_payIn_62 (by decide) ?_
          obtain ⟨h24, hf⟩ := gi_some hf
          obtain ⟨u25, eu25, hf⟩ := lt_some hf
          refine g_zast (gs' := [rdW G a0 u25, stW G a1 z.2.2]) hx hb hK hP hD hS 0 1 1 rfl rfl rfl h24 dX1_payIn_63 (by rw [eu25]; rfl) (fun H locs hP hD hS => ?_)
          refine lv_aload_n hx hb dX1_payIn_64 rfl (lv_at hl 0 rfl) ?_
          refine g_get (C := RX1) (T := TX1) (N := 3) hx hb hts iwX1_payIn_X1 hown hK hP 0 0 rfl rfl rfl 0 (Nat.le_of_ble_eq_true rfl) (hts _ kX1_payIn_3) (fun _ h9 => h9) rfl dX1_payIn_65 ?_
          refine lv_iload_n hx hb dX1_payIn_68 rfl (lv_at hl 2 rfl) ?_
          obtain ⟨h26, hf⟩ := gi_some hf
          refine g_zald hx hb hK hP 0 1 1 rfl rfl rfl h26 dX1_payIn_69 ?_
          refine lv_if_eq (tgt := 112) hx hb dX1_payIn_70 (by decide) (fun c27 => ?_) (fun c27 => ?_)
          · rw [if_pos c27] at hf
            obtain ⟨x28, ex28, hf⟩ := lt_some hf
            refine lv_iinc (v := x28) (lv' := [(2, .int x28), (0, .ref (a0 0)), (1, .ref (a1 0))]) hx hb dX1_payIn_112 hl (k := 2) rfl (by rw [ex28]; rfl) (by decide) rfl (fun ls hl => ?_)
            refine lv_goto (tgt := 7) hx hb dX1_payIn_115 (by decide) ?_
            exact ih _ e1 (lz_l hf hz) H locs ls hP hD hS (lv_sub hl [1, 2, 0] rfl) K
          · rw [if_neg c27] at hf
            refine lv_aload_n hx hb dX1_payIn_73 rfl (lv_at hl 1 rfl) ?_
            refine g_get (C := RX3) (T := TX3) (N := 17) hx hb hts iwX1_payIn_X3 hown hK hP 1 0 rfl rfl rfl 5 (Nat.le_of_ble_eq_true rfl) (hts _ kX1_payIn_5) (fun _ h9 => h9) rfl dX1_payIn_74 ?_
            refine lv_iload_n hx hb dX1_payIn_77 rfl (lv_at hl 2 rfl) ?_
            refine lv_dup2_11 hx hb dX1_payIn_78 rfl rfl ?_
            obtain ⟨h29, hf⟩ := gi_some hf
            refine g_iald hx hb hK hP 1 1 0 rfl rfl rfl h29 dX1_payIn_79 ?_
            refine lv_aload_n hx hb dX1_payIn_80 rfl (lv_at hl 1 rfl) ?_
            refine g_get (C := RX3) (T := TX3) (N := 17) hx hb hts iwX1_payIn_X3 hown hK hP 1 0 rfl rfl rfl 2 (Nat.le_of_ble_eq_true rfl) (hts _ kX1_payIn_6) (fun _ h9 => h9) rfl dX1_payIn_81 ?_
            refine lv_isub hx hb dX1_payIn_84 ?_
            obtain ⟨x30, ex30, hf⟩ := lt_some hf
            refine lv_nmi ex30 ?_
            obtain ⟨h31, hf⟩ := gi_some hf
            obtain ⟨u32, eu32, hf⟩ := lt_some hf
            refine g_iast (gs' := [rdW G a0 u25, stW G a1 u32]) hx hb hK hP hD hS 1 1 0 rfl rfl rfl h31 dX1_payIn_85 (by rw [eu32]; rfl) (fun H locs hP hD hS => ?_)
            refine lv_aload_n hx hb dX1_payIn_86 rfl (lv_at hl 1 rfl) ?_
            refine g_get (C := RX3) (T := TX3) (N := 17) hx hb hts iwX1_payIn_X3 hown hK hP 1 0 rfl rfl rfl 11 (Nat.le_of_ble_eq_true rfl) (hts _ kX1_payIn_7) (fun _ h9 => h9) rfl dX1_payIn_87 ?_
            refine lv_iload_n hx hb dX1_payIn_90 rfl (lv_at hl 2 rfl) ?_
            refine lv_dup2_11 hx hb dX1_payIn_91 rfl rfl ?_
            obtain ⟨h33, hf⟩ := gi_some hf
            refine g_iald hx hb hK hP 1 7 0 rfl rfl rfl h33 dX1_payIn_92 ?_
            refine lv_aload_n hx hb dX1_payIn_93 rfl (lv_at hl 1 rfl) ?_
            refine g_get (C := RX3) (T := TX3) (N := 17) hx hb hts iwX1_payIn_X3 hown hK hP 1 0 rfl rfl rfl 2 (Nat.le_of_ble_eq_true rfl) (hts _ kX1_payIn_6) (fun _ h9 => h9) rfl dX1_payIn_94 ?_
            refine lv_iadd hx hb dX1_payIn_97 ?_
            obtain ⟨x34, ex34, hf⟩ := lt_some hf
            refine lv_nmi ex34 ?_
            obtain ⟨h35, hf⟩ := gi_some hf
            obtain ⟨u36, eu36, hf⟩ := lt_some hf
            refine g_iast (gs' := [rdW G a0 u25, stW G a1 u36]) hx hb hK hP hD hS 1 7 0 rfl rfl rfl h35 dX1_payIn_98 (by rw [eu36]; rfl) (fun H locs hP hD hS => ?_)
            refine lv_aload_n hx hb dX1_payIn_99 rfl (lv_at hl 0 rfl) ?_
            refine lv_dup hx hb dX1_payIn_100 rfl ?_
            refine g_get (C := RX1) (T := TX1) (N := 3) hx hb hts iwX1_payIn_X1 hown hK hP 0 0 rfl rfl rfl 2 (Nat.le_of_ble_eq_true rfl) (hts _ kX1_payIn_0) (fun _ h9 => h9) rfl dX1_payIn_101 ?_
            refine lv_aload_n hx hb dX1_payIn_104 rfl (lv_at hl 1 rfl) ?_
            refine g_get (C := RX3) (T := TX3) (N := 17) hx hb hts iwX1_payIn_X3 hown hK hP 1 0 rfl rfl rfl 2 (Nat.le_of_ble_eq_true rfl) (hts _ kX1_payIn_6) (fun _ h9 => h9) rfl dX1_payIn_105 ?_
            refine lv_iadd hx hb dX1_payIn_108 ?_
            obtain ⟨u37, eu37, hf⟩ := lt_some hf
            refine g_put (ty := .int) (C := RX1) (T := TX1) (N := 3) (gs' := [rdW G a0 u37, stW G a1 u36]) hx hb hts iwX1_payIn_X1 tyX1 tyX1_ok nmX1 hown hK hP hD hS 0 0 rfl rfl rfl 2 (Nat.le_of_ble_eq_true rfl) (hts _ kX1_payIn_0) (fun _ h9 => h9) rfl (by decide +kernel) rfl rfl (Nat.le_of_ble_eq_true rfl) dX1_payIn_109 (by rw [eu37]; rfl) (fun H locs hP hD hS => ?_)
            obtain ⟨x38, ex38, hf⟩ := lt_some hf
            refine lv_iinc (v := x38) (lv' := [(2, .int x38), (0, .ref (a0 0)), (1, .ref (a1 0))]) hx hb dX1_payIn_112 hl (k := 2) rfl (by rw [ex38]; rfl) (by decide) rfl (fun ls hl => ?_)
            refine lv_goto (tgt := 7) hx hb dX1_payIn_115 (by decide) ?_
            exact ih _ e1 (lz_l hf hz) H locs ls hP hD hS (lv_sub hl [1, 2, 0] rfl) K
        · rw [if_pos c23] at hf
          refine lv_aload_n hx hb dX1_payIn_45 rfl (lv_at hl 1 rfl) ?_
          refine g_get (C := RX3) (T := TX3) (N := 17) hx hb hts iwX1_payIn_X3 hown hK hP 1 0 rfl rfl rfl 5 (Nat.le_of_ble_eq_true rfl) (hts _ kX1_payIn_5) (fun _ h9 => h9) rfl dX1_payIn_46 ?_
          refine lv_iload_n hx hb dX1_payIn_49 rfl (lv_at hl 2 rfl) ?_
          obtain ⟨h39, hf⟩ := gi_some hf
          refine g_iald hx hb hK hP 1 1 0 rfl rfl rfl h39 dX1_payIn_50 ?_
          refine lv_aload_n hx hb dX1_payIn_51 rfl (lv_at hl 1 rfl) ?_
          refine g_get (C := RX3) (T := TX3) (N := 17) hx hb hts iwX1_payIn_X3 hown hK hP 1 0 rfl rfl rfl 2 (Nat.le_of_ble_eq_true rfl) (hts _ kX1_payIn_6) (fun _ h9 => h9) rfl dX1_payIn_52 ?_
          refine lv_icmp_lt (tgt := 62) hx hb dX1_payIn_55 (by decide) (fun c40 => ?_) (fun c40 => ?_)
          · rw [if_pos c40] at hf
            refine lv_iconst (v := (0:Int32)) hx hb dX1_payIn_62 (by decide) ?_
            obtain ⟨h41, hf⟩ := gi_some hf
            obtain ⟨u42, eu42, hf⟩ := lt_some hf
            refine g_zast (gs' := [rdW G a0 u42, stW G a1 z.2.2]) hx hb hK hP hD hS 0 1 1 rfl rfl rfl h41 dX1_payIn_63 (by rw [eu42]; rfl) (fun H locs hP hD hS => ?_)
            refine lv_aload_n hx hb dX1_payIn_64 rfl (lv_at hl 0 rfl) ?_
            refine g_get (C := RX1) (T := TX1) (N := 3) hx hb hts iwX1_payIn_X1 hown hK hP 0 0 rfl rfl rfl 0 (Nat.le_of_ble_eq_true rfl) (hts _ kX1_payIn_3) (fun _ h9 => h9) rfl dX1_payIn_65 ?_
            refine lv_iload_n hx hb dX1_payIn_68 rfl (lv_at hl 2 rfl) ?_
            obtain ⟨h43, hf⟩ := gi_some hf
            refine g_zald hx hb hK hP 0 1 1 rfl rfl rfl h43 dX1_payIn_69 ?_
            refine lv_if_eq (tgt := 112) hx hb dX1_payIn_70 (by decide) (fun c44 => ?_) (fun c44 => ?_)
            · rw [if_pos c44] at hf
              obtain ⟨x45, ex45, hf⟩ := lt_some hf
              refine lv_iinc (v := x45) (lv' := [(2, .int x45), (0, .ref (a0 0)), (1, .ref (a1 0))]) hx hb dX1_payIn_112 hl (k := 2) rfl (by rw [ex45]; rfl) (by decide) rfl (fun ls hl => ?_)
              refine lv_goto (tgt := 7) hx hb dX1_payIn_115 (by decide) ?_
              exact ih _ e1 (lz_l hf hz) H locs ls hP hD hS (lv_sub hl [1, 2, 0] rfl) K
            · rw [if_neg c44] at hf
              refine lv_aload_n hx hb dX1_payIn_73 rfl (lv_at hl 1 rfl) ?_
              refine g_get (C := RX3) (T := TX3) (N := 17) hx hb hts iwX1_payIn_X3 hown hK hP 1 0 rfl rfl rfl 5 (Nat.le_of_ble_eq_true rfl) (hts _ kX1_payIn_5) (fun _ h9 => h9) rfl dX1_payIn_74 ?_
              refine lv_iload_n hx hb dX1_payIn_77 rfl (lv_at hl 2 rfl) ?_
              refine lv_dup2_11 hx hb dX1_payIn_78 rfl rfl ?_
              obtain ⟨h46, hf⟩ := gi_some hf
              refine g_iald hx hb hK hP 1 1 0 rfl rfl rfl h46 dX1_payIn_79 ?_
              refine lv_aload_n hx hb dX1_payIn_80 rfl (lv_at hl 1 rfl) ?_
              refine g_get (C := RX3) (T := TX3) (N := 17) hx hb hts iwX1_payIn_X3 hown hK hP 1 0 rfl rfl rfl 2 (Nat.le_of_ble_eq_true rfl) (hts _ kX1_payIn_6) (fun _ h9 => h9) rfl dX1_payIn_81 ?_
              refine lv_isub hx hb dX1_payIn_84 ?_
              obtain ⟨x47, ex47, hf⟩ := lt_some hf
              refine lv_nmi ex47 ?_
              obtain ⟨h48, hf⟩ := gi_some hf
              obtain ⟨u49, eu49, hf⟩ := lt_some hf
              refine g_iast (gs' := [rdW G a0 u42, stW G a1 u49]) hx hb hK hP hD hS 1 1 0 rfl rfl rfl h48 dX1_payIn_85 (by rw [eu49]; rfl) (fun H locs hP hD hS => ?_)
              refine lv_aload_n hx hb dX1_payIn_86 rfl (lv_at hl 1 rfl) ?_
              refine g_get (C := RX3) (T := TX3) (N := 17) hx hb hts iwX1_payIn_X3 hown hK hP 1 0 rfl rfl rfl 11 (Nat.le_of_ble_eq_true rfl) (hts _ kX1_payIn_7) (fun _ h9 => h9) rfl dX1_payIn_87 ?_
              refine lv_iload_n hx hb dX1_payIn_90 rfl (lv_at hl 2 rfl) ?_
              refine lv_dup2_11 hx hb dX1_payIn_91 rfl rfl ?_
              obtain ⟨h50, hf⟩ := gi_some hf
              refine g_iald hx hb hK hP 1 7 0 rfl rfl rfl h50 dX1_payIn_92 ?_
              refine lv_aload_n hx hb dX1_payIn_93 rfl (lv_at hl 1 rfl) ?_
              refine g_get (C := RX3) (T := TX3) (N := 17) hx hb hts iwX1_payIn_X3 hown hK hP 1 0 rfl rfl rfl 2 (Nat.le_of_ble_eq_true rfl) (hts _ kX1_payIn_6) (fun _ h9 => h9) rfl dX1_payIn_94 ?_
              refine lv_iadd hx hb dX1_payIn_97 ?_
              obtain ⟨x51, ex51, hf⟩ := lt_some hf
              refine lv_nmi ex51 ?_
              obtain ⟨h52, hf⟩ := gi_some hf
              obtain ⟨u53, eu53, hf⟩ := lt_some hf
              refine g_iast (gs' := [rdW G a0 u42, stW G a1 u53]) hx hb hK hP hD hS 1 7 0 rfl rfl rfl h52 dX1_payIn_98 (by rw [eu53]; rfl) (fun H locs hP hD hS => ?_)
              refine lv_aload_n hx hb dX1_payIn_99 rfl (lv_at hl 0 rfl) ?_
              refine lv_dup hx hb dX1_payIn_100 rfl ?_
              refine g_get (C := RX1) (T := TX1) (N := 3) hx hb hts iwX1_payIn_X1 hown hK hP 0 0 rfl rfl rfl 2 (Nat.le_of_ble_eq_true rfl) (hts _ kX1_payIn_0) (fun _ h9 => h9) rfl dX1_payIn_101 ?_
              refine lv_aload_n hx hb dX1_payIn_104 rfl (lv_at hl 1 rfl) ?_
              refine g_get (C := RX3) (T := TX3) (N := 17) hx hb hts iwX1_payIn_X3 hown hK hP 1 0 rfl rfl rfl 2 (Nat.le_of_ble_eq_true rfl) (hts _ kX1_payIn_6) (fun _ h9 => h9) rfl dX1_payIn_105 ?_
              refine lv_iadd hx hb dX1_payIn_108 ?_
              obtain ⟨u54, eu54, hf⟩ := lt_some hf
              refine g_put (ty := .int) (C := RX1) (T := TX1) (N := 3) (gs' := [rdW G a0 u54, stW G a1 u53]) hx hb hts iwX1_payIn_X1 tyX1 tyX1_ok nmX1 hown hK hP hD hS 0 0 rfl rfl rfl 2 (Nat.le_of_ble_eq_true rfl) (hts _ kX1_payIn_0) (fun _ h9 => h9) rfl (by decide +kernel) rfl rfl (Nat.le_of_ble_eq_true rfl) dX1_payIn_109 (by rw [eu54]; rfl) (fun H locs hP hD hS => ?_)
              obtain ⟨x55, ex55, hf⟩ := lt_some hf
              refine lv_iinc (v := x55) (lv' := [(2, .int x55), (0, .ref (a0 0)), (1, .ref (a1 0))]) hx hb dX1_payIn_112 hl (k := 2) rfl (by rw [ex55]; rfl) (by decide) rfl (fun ls hl => ?_)
              refine lv_goto (tgt := 7) hx hb dX1_payIn_115 (by decide) ?_
              exact ih _ e1 (lz_l hf hz) H locs ls hP hD hS (lv_sub hl [1, 2, 0] rfl) K
          · rw [if_neg c40] at hf
            refine lv_iconst (v := (1:Int32)) hx hb dX1_payIn_58 (by decide) ?_
            refine lv_goto (tgt := 63) hx hb dX1_payIn_59 (by decide) ?_
            obtain ⟨h56, hf⟩ := gi_some hf
            obtain ⟨u57, eu57, hf⟩ := lt_some hf
            refine g_zast (gs' := [rdW G a0 u57, stW G a1 z.2.2]) hx hb hK hP hD hS 0 1 1 rfl rfl rfl h56 dX1_payIn_63 (by rw [eu57]; rfl) (fun H locs hP hD hS => ?_)
            refine lv_aload_n hx hb dX1_payIn_64 rfl (lv_at hl 0 rfl) ?_
            refine g_get (C := RX1) (T := TX1) (N := 3) hx hb hts iwX1_payIn_X1 hown hK hP 0 0 rfl rfl rfl 0 (Nat.le_of_ble_eq_true rfl) (hts _ kX1_payIn_3) (fun _ h9 => h9) rfl dX1_payIn_65 ?_
            refine lv_iload_n hx hb dX1_payIn_68 rfl (lv_at hl 2 rfl) ?_
            obtain ⟨h58, hf⟩ := gi_some hf
            refine g_zald hx hb hK hP 0 1 1 rfl rfl rfl h58 dX1_payIn_69 ?_
            refine lv_if_eq (tgt := 112) hx hb dX1_payIn_70 (by decide) (fun c59 => ?_) (fun c59 => ?_)
            · rw [if_pos c59] at hf
              obtain ⟨x60, ex60, hf⟩ := lt_some hf
              refine lv_iinc (v := x60) (lv' := [(2, .int x60), (0, .ref (a0 0)), (1, .ref (a1 0))]) hx hb dX1_payIn_112 hl (k := 2) rfl (by rw [ex60]; rfl) (by decide) rfl (fun ls hl => ?_)
              refine lv_goto (tgt := 7) hx hb dX1_payIn_115 (by decide) ?_
              exact ih _ e1 (lz_l hf hz) H locs ls hP hD hS (lv_sub hl [1, 2, 0] rfl) K
            · rw [if_neg c59] at hf
              refine lv_aload_n hx hb dX1_payIn_73 rfl (lv_at hl 1 rfl) ?_
              refine g_get (C := RX3) (T := TX3) (N := 17) hx hb hts iwX1_payIn_X3 hown hK hP 1 0 rfl rfl rfl 5 (Nat.le_of_ble_eq_true rfl) (hts _ kX1_payIn_5) (fun _ h9 => h9) rfl dX1_payIn_74 ?_
              refine lv_iload_n hx hb dX1_payIn_77 rfl (lv_at hl 2 rfl) ?_
              refine lv_dup2_11 hx hb dX1_payIn_78 rfl rfl ?_
              obtain ⟨h61, hf⟩ := gi_some hf
              refine g_iald hx hb hK hP 1 1 0 rfl rfl rfl h61 dX1_payIn_79 ?_
              refine lv_aload_n hx hb dX1_payIn_80 rfl (lv_at hl 1 rfl) ?_
              refine g_get (C := RX3) (T := TX3) (N := 17) hx hb hts iwX1_payIn_X3 hown hK hP 1 0 rfl rfl rfl 2 (Nat.le_of_ble_eq_true rfl) (hts _ kX1_payIn_6) (fun _ h9 => h9) rfl dX1_payIn_81 ?_
              refine lv_isub hx hb dX1_payIn_84 ?_
              obtain ⟨x62, ex62, hf⟩ := lt_some hf
              refine lv_nmi ex62 ?_
              obtain ⟨h63, hf⟩ := gi_some hf
              obtain ⟨u64, eu64, hf⟩ := lt_some hf
              refine g_iast (gs' := [rdW G a0 u57, stW G a1 u64]) hx hb hK hP hD hS 1 1 0 rfl rfl rfl h63 dX1_payIn_85 (by rw [eu64]; rfl) (fun H locs hP hD hS => ?_)
              refine lv_aload_n hx hb dX1_payIn_86 rfl (lv_at hl 1 rfl) ?_
              refine g_get (C := RX3) (T := TX3) (N := 17) hx hb hts iwX1_payIn_X3 hown hK hP 1 0 rfl rfl rfl 11 (Nat.le_of_ble_eq_true rfl) (hts _ kX1_payIn_7) (fun _ h9 => h9) rfl dX1_payIn_87 ?_
              refine lv_iload_n hx hb dX1_payIn_90 rfl (lv_at hl 2 rfl) ?_
              refine lv_dup2_11 hx hb dX1_payIn_91 rfl rfl ?_
              obtain ⟨h65, hf⟩ := gi_some hf
              refine g_iald hx hb hK hP 1 7 0 rfl rfl rfl h65 dX1_payIn_92 ?_
              refine lv_aload_n hx hb dX1_payIn_93 rfl (lv_at hl 1 rfl) ?_
              refine g_get (C := RX3) (T := TX3) (N := 17) hx hb hts iwX1_payIn_X3 hown hK hP 1 0 rfl rfl rfl 2 (Nat.le_of_ble_eq_true rfl) (hts _ kX1_payIn_6) (fun _ h9 => h9) rfl dX1_payIn_94 ?_
              refine lv_iadd hx hb dX1_payIn_97 ?_
              obtain ⟨x66, ex66, hf⟩ := lt_some hf
              refine lv_nmi ex66 ?_
              obtain ⟨h67, hf⟩ := gi_some hf
              obtain ⟨u68, eu68, hf⟩ := lt_some hf
              refine g_iast (gs' := [rdW G a0 u57, stW G a1 u68]) hx hb hK hP hD hS 1 7 0 rfl rfl rfl h67 dX1_payIn_98 (by rw [eu68]; rfl) (fun H locs hP hD hS => ?_)
              refine lv_aload_n hx hb dX1_payIn_99 rfl (lv_at hl 0 rfl) ?_
              refine lv_dup hx hb dX1_payIn_100 rfl ?_
              refine g_get (C := RX1) (T := TX1) (N := 3) hx hb hts iwX1_payIn_X1 hown hK hP 0 0 rfl rfl rfl 2 (Nat.le_of_ble_eq_true rfl) (hts _ kX1_payIn_0) (fun _ h9 => h9) rfl dX1_payIn_101 ?_
              refine lv_aload_n hx hb dX1_payIn_104 rfl (lv_at hl 1 rfl) ?_
              refine g_get (C := RX3) (T := TX3) (N := 17) hx hb hts iwX1_payIn_X3 hown hK hP 1 0 rfl rfl rfl 2 (Nat.le_of_ble_eq_true rfl) (hts _ kX1_payIn_6) (fun _ h9 => h9) rfl dX1_payIn_105 ?_
              refine lv_iadd hx hb dX1_payIn_108 ?_
              obtain ⟨u69, eu69, hf⟩ := lt_some hf
              refine g_put (ty := .int) (C := RX1) (T := TX1) (N := 3) (gs' := [rdW G a0 u69, stW G a1 u68]) hx hb hts iwX1_payIn_X1 tyX1 tyX1_ok nmX1 hown hK hP hD hS 0 0 rfl rfl rfl 2 (Nat.le_of_ble_eq_true rfl) (hts _ kX1_payIn_0) (fun _ h9 => h9) rfl (by decide +kernel) rfl rfl (Nat.le_of_ble_eq_true rfl) dX1_payIn_109 (by rw [eu69]; rfl) (fun H locs hP hD hS => ?_)
              obtain ⟨x70, ex70, hf⟩ := lt_some hf
              refine lv_iinc (v := x70) (lv' := [(2, .int x70), (0, .ref (a0 0)), (1, .ref (a1 0))]) hx hb dX1_payIn_112 hl (k := 2) rfl (by rw [ex70]; rfl) (by decide) rfl (fun ls hl => ?_)
              refine lv_goto (tgt := 7) hx hb dX1_payIn_115 (by decide) ?_
              exact ih _ e1 (lz_l hf hz) H locs ls hP hD hS (lv_sub hl [1, 2, 0] rfl) K
set_option maxHeartbeats 4000000 in
set_option maxRecDepth 100000 in
theorem w_X1_payIn_120 {p : Program} {l : Launch} {e : Env} {s : State} {m : MethodId} {args : Array Value} {below : List Frame} {meth : Method} {c : Code} {A : Nat → Prop} {Q : State → Prop} (S : Ev p s m args meth c cX1_payIn 3 none yX1_payIn.cls wsX1_payIn) {G : uG} (hK : kK G s) (hA : ∀ q, s.heap.size ≤ q → A q) (_ : uG) (a0 : Nat → Nat) (a1 : Nat → Nat) : ∀ (n : Nat) (z : (Int32 × RdV × StV)) (e1 : (Int32 × RdV × StV)), lp (b_X1_payIn_120) n z = some e1 → ∀ (H : Heap) (locs : List Loc) (ls : Array Slot), gP G [rdW G a0 z.2.1, stW G a1 z.2.2] H → gD A [rdW G a0 z.2.1, stW G a1 z.2.2] → va_S A s.heap H locs → lv_has ls 3 [(0, .ref (a0 0)), (1, .ref (a1 0)), (2, .int z.1)] → (∀ (H : Heap) (locs : List Loc) (ls : Array Slot), gP G [rdW G a0 e1.2.1, stW G a1 e1.2.2] H → gD A [rdW G a0 e1.2.1, stW G a1 e1.2.2] → va_S A s.heap H locs → lv_has ls 3 [(0, .ref (a0 0)), (1, .ref (a1 0)), (2, .int e1.1)] → W p l e ({ frames := 2, cells := 0, slots := 0, locals := 44 } : Room) s m args below meth c H locs 0 0 Q (F0 m 158 ls [])) → W p l e ({ frames := 2, cells := 0, slots := 0, locals := 44 } : Room) s m args below meth c H locs 0 0 Q (F0 m 120 ls []) := by
  obtain ⟨hx, hb, hml, hown, hts, hr, hlocks⟩ := id S
  intro n
  induction n with
  | zero => intro z e1 h; cases h
  | succ n ih =>
    intro z e1 hlp H locs ls hP hD hS hl K
    obtain ⟨z9, hf, hz⟩ := lp_s hlp
    unfold b_X1_payIn_120 at hf
    refine lv_iload_n hx hb dX1_payIn_120 rfl (lv_at hl 2 rfl) ?_
    refine lv_aload_n hx hb dX1_payIn_121 rfl (lv_at hl 1 rfl) ?_
    refine g_get (C := RX3) (T := TX3) (N := 17) hx hb hts iwX1_payIn_X3 hown hK hP 1 0 rfl rfl rfl 0 (Nat.le_of_ble_eq_true rfl) (hts _ kX1_payIn_1) (fun _ h9 => h9) rfl dX1_payIn_122 ?_
    refine lv_icmp_ge (tgt := 158) hx hb dX1_payIn_125 (by decide) (fun c72 => ?_) (fun c72 => ?_)
    · rw [if_pos c72] at hf
      have he := lz_r hf hz
      subst he
      exact K H locs ls hP hD hS (lv_sub hl [0, 1, 2] rfl)
    · rw [if_neg c72] at hf
      refine lv_aload_n hx hb dX1_payIn_128 rfl (lv_at hl 1 rfl) ?_
      refine g_get (C := RX3) (T := TX3) (N := 17) hx hb hts iwX1_payIn_X3 hown hK hP 1 0 rfl rfl rfl 10 (Nat.le_of_ble_eq_true rfl) (hts _ kX1_payIn_4) (fun _ h9 => h9) rfl dX1_payIn_129 ?_
      refine lv_iload_n hx hb dX1_payIn_132 rfl (lv_at hl 2 rfl) ?_
      obtain ⟨h73, hf⟩ := gi_some hf
      refine g_zald hx hb hK hP 1 6 1 rfl rfl rfl h73 dX1_payIn_133 ?_
      refine lv_if_eq (tgt := 152) hx hb dX1_payIn_134 (by decide) (fun c74 => ?_) (fun c74 => ?_)
      · rw [if_pos c74] at hf
        obtain ⟨x75, ex75, hf⟩ := lt_some hf
        refine lv_iinc (v := x75) (lv' := [(2, .int x75), (0, .ref (a0 0)), (1, .ref (a1 0))]) hx hb dX1_payIn_152 hl (k := 2) rfl (by rw [ex75]; rfl) (by decide) rfl (fun ls hl => ?_)
        refine lv_goto (tgt := 120) hx hb dX1_payIn_155 (by decide) ?_
        exact ih _ e1 (lz_l hf hz) H locs ls hP hD hS (lv_sub hl [1, 2, 0] rfl) K
      · rw [if_neg c74] at hf
        refine lv_aload_n hx hb dX1_payIn_137 rfl (lv_at hl 0 rfl) ?_
        refine g_get (C := RX1) (T := TX1) (N := 3) hx hb hts iwX1_payIn_X1 hown hK hP 0 0 rfl rfl rfl 0 (Nat.le_of_ble_eq_true rfl) (hts _ kX1_payIn_3) (fun _ h9 => h9) rfl dX1_payIn_138 ?_
        refine lv_iload_n hx hb dX1_payIn_141 rfl (lv_at hl 2 rfl) ?_
        obtain ⟨h76, hf⟩ := gi_some hf
        refine g_zald hx hb hK hP 0 1 1 rfl rfl rfl h76 dX1_payIn_142 ?_
        refine lv_if_ne (tgt := 152) hx hb dX1_payIn_143 (by decide) (fun c77 => ?_) (fun c77 => ?_)
        · rw [if_neg c77] at hf
          obtain ⟨x78, ex78, hf⟩ := lt_some hf
          refine lv_iinc (v := x78) (lv' := [(2, .int x78), (0, .ref (a0 0)), (1, .ref (a1 0))]) hx hb dX1_payIn_152 hl (k := 2) rfl (by rw [ex78]; rfl) (by decide) rfl (fun ls hl => ?_)
          refine lv_goto (tgt := 120) hx hb dX1_payIn_155 (by decide) ?_
          exact ih _ e1 (lz_l hf hz) H locs ls hP hD hS (lv_sub hl [1, 2, 0] rfl) K
        · rw [if_pos c77] at hf
          refine lv_aload_n hx hb dX1_payIn_146 rfl (lv_at hl 0 rfl) ?_
          refine lv_aload_n hx hb dX1_payIn_147 rfl (lv_at hl 1 rfl) ?_
          refine lv_iload_n hx hb dX1_payIn_148 rfl (lv_at hl 2 rfl) ?_
          obtain ⟨q79, hq79, hf⟩ := bd_some hf
          refine g_callVv S (As := [.ref (a1 0), .int z.1]) (gs' := [rdW G a0 q79.2.1, stW G a1 q79.2.2]) (c_X1_payForOther l G a0 a1 z.2.1 z.2.2 z.1 hq79) (cwV 2 hts gX1_payIn_X1_payForOther rfl rfl rfl hd_X1_payForOther ⟨Nat.le_of_ble_eq_true rfl, Nat.le_of_ble_eq_true rfl⟩) hK hP hD hS hA (is := [0, 1]) rfl rfl 0 rfl rfl rfl rfl hl.1 rfl (Nat.le_of_ble_eq_true rfl) dX1_payIn_149 ⟨Nat.le_of_ble_eq_true rfl, Nat.le_of_ble_eq_true rfl⟩ rfl (fun H locs hP hD hS => ?_)
          obtain ⟨x80, ex80, hf⟩ := lt_some hf
          refine lv_iinc (v := x80) (lv' := [(2, .int x80), (0, .ref (a0 0)), (1, .ref (a1 0))]) hx hb dX1_payIn_152 hl (k := 2) rfl (by rw [ex80]; rfl) (by decide) rfl (fun ls hl => ?_)
          refine lv_goto (tgt := 120) hx hb dX1_payIn_155 (by decide) ?_
          exact ih _ e1 (lz_l hf hz) H locs ls hP hD hS (lv_sub hl [1, 2, 0] rfl) K
set_option maxHeartbeats 4000000 in
set_option maxRecDepth 100000 in
theorem c_X1_payIn (l : Launch) (G : uG) (a0 : Nat → Nat) (a1 : Nat → Nat) (v0 : RdV) (v1 : StV) {q : Unit × (RdV × StV)} (hf : f_X1_payIn v0 v1 = some q) : mQ l yX1_payIn wsX1_payIn ({ frames := 2, cells := 0, slots := 0, locals := 44 } : Room) G [.ref (a0 0), .ref (a1 0)] [rdW G a0 v0, stW G a1 v1] [rdW G a0 q.2.1, stW G a1 q.2.2] (qV G [rdW G a0 q.2.1, stW G a1 q.2.2] q.1) := by
  unfold f_X1_payIn at hf
  refine m_of (cc := cX1_payIn) (maxL := 3) (ret := none) (by decide) rfl rfl (Nat.le_of_ble_eq_true rfl) ?_
  intro p e s m args below meth c A ls S hK hA hP hD hS hl
  obtain ⟨hx, hb, hml, hown, hts, hr, hlocks⟩ := id S
  have hl : lv_has ls 3 [(0, .ref (a0 0)), (1, .ref (a1 0))] := hl
  refine lv_aload_n hx hb dX1_payIn_0 rfl (lv_at hl 0 rfl) ?_
  refine lv_iconst (v := (0:Int32)) hx hb dX1_payIn_1 (by decide) ?_
  obtain ⟨u1, eu1, hf⟩ := lt_some hf
  refine g_put (ty := .int) (C := RX1) (T := TX1) (N := 3) (gs' := [rdW G a0 u1, stW G a1 v1]) hx hb hts iwX1_payIn_X1 tyX1 tyX1_ok nmX1 hown hK hP hD hS 0 0 rfl rfl rfl 2 (Nat.le_of_ble_eq_true rfl) (hts _ kX1_payIn_0) (fun _ h9 => h9) rfl (by decide +kernel) rfl rfl (Nat.le_of_ble_eq_true rfl) dX1_payIn_2 (by rw [eu1]; rfl) (fun H locs hP hD hS => ?_)
  refine lv_iconst (v := (0:Int32)) hx hb dX1_payIn_5 (by decide) ?_
  refine lv_istore_n (lv' := [(2, .int (0:Int32)), (0, .ref (a0 0)), (1, .ref (a1 0))]) hx hb dX1_payIn_6 rfl hl (by decide) rfl (fun ls hl => ?_)
  obtain ⟨e71, he71, hf⟩ := bd_some hf
  refine w_X1_payIn_7 (Q := _) S hK hA G a0 a1 FU _ e71 he71 _ _ _ hP hD hS (lv_sub hl [1, 2, 0] rfl) (fun H locs ls hP hD hS hl => ?_)
  refine lv_iconst (v := (0:Int32)) hx hb dX1_payIn_118 (by decide) ?_
  refine lv_istore_n (lv' := [(2, .int (0:Int32)), (0, .ref (a0 0)), (1, .ref (a1 0))]) hx hb dX1_payIn_119 rfl hl (by decide) rfl (fun ls hl => ?_)
  obtain ⟨e81, he81, hf⟩ := bd_some hf
  refine w_X1_payIn_120 (Q := _) S hK hA G a0 a1 FU _ e81 he81 _ _ _ hP hD hS (lv_sub hl [1, 2, 0] rfl) (fun H locs ls hP hD hS hl => ?_)
  cases hf
  exact g_vret hx hb hr hlocks hP hS dX1_payIn_158
theorem kX1_takesPart_0 : Cond.fieldLink RX1 56 "SavingsCircle$State" "inside" "[Z" ∈ wsX1_takesPart := (List.mem_cons_of_mem _ (List.mem_append_left _ (List.mem_append_left _ (List.mem_of_getElem? (i := 0) rfl))))
theorem kX1_takesPart_1 : Cond.fieldLink RX1 15 "SavingsCircle$Round" "missing" "[Z" ∈ wsX1_takesPart := (List.mem_cons_of_mem _ (List.mem_append_left _ (List.mem_append_left _ (List.mem_of_getElem? (i := 1) rfl))))
theorem iwX1_takesPart_X3 : ∀ w ∈ wsX30, w ∈ wsX1_takesPart := fun w h => (List.mem_cons_of_mem _ (List.mem_append_left _ (List.mem_append_right _ h)))
theorem iwX1_takesPart_X1 : ∀ w ∈ wsX10, w ∈ wsX1_takesPart := fun w h => (List.mem_cons_of_mem _ (List.mem_append_right _ h))
set_option maxHeartbeats 4000000 in
set_option maxRecDepth 100000 in
theorem c_X1_takesPart (l : Launch) (G : uG) (a0 : Nat → Nat) (a1 : Nat → Nat) (v0 : RdV) (v1 : StV) (i2 : Int32) {q : Int32 × (Unit)} (hf : f_X1_takesPart v0 v1 i2 = some q) : mQ l yX1_takesPart wsX1_takesPart ({ frames := 0, cells := 0, slots := 0, locals := 0 } : Room) G [.ref (a0 0), .ref (a1 0), .int i2] [rdW G a0 v0, stW G a1 v1] [rdW G a0 v0, stW G a1 v1] (qI G [rdW G a0 v0, stW G a1 v1] q.1) := by
  unfold f_X1_takesPart at hf
  refine m_of (cc := cX1_takesPart) (maxL := 3) (ret := (some .boolean)) (by decide) rfl rfl (Nat.le_of_ble_eq_true rfl) ?_
  intro p e s m args below meth c A ls S hK hA hP hD hS hl
  obtain ⟨hx, hb, hml, hown, hts, hr, hlocks⟩ := id S
  have hl : lv_has ls 3 [(0, .ref (a0 0)), (1, .ref (a1 0)), (2, .int i2)] := hl
  refine lv_aload_n hx hb dX1_takesPart_0 rfl (lv_at hl 1 rfl) ?_
  refine g_get (C := RX3) (T := TX3) (N := 17) hx hb hts iwX1_takesPart_X3 hown hK hP 1 0 rfl rfl rfl 10 (Nat.le_of_ble_eq_true rfl) (hts _ kX1_takesPart_0) (fun _ h9 => h9) rfl dX1_takesPart_1 ?_
  refine lv_iload_n hx hb dX1_takesPart_4 rfl (lv_at hl 2 rfl) ?_
  obtain ⟨h1, hf⟩ := gi_some hf
  refine g_zald hx hb hK hP 1 6 1 rfl rfl rfl h1 dX1_takesPart_5 ?_
  refine lv_if_eq (tgt := 22) hx hb dX1_takesPart_6 (by decide) (fun c2 => ?_) (fun c2 => ?_)
  · rw [if_pos c2] at hf
    refine lv_iconst (v := (0:Int32)) hx hb dX1_takesPart_22 (by decide) ?_
    cases hf
    exact g_zret hx hb hr gz0 hlocks hP hS dX1_takesPart_23
  · rw [if_neg c2] at hf
    refine lv_aload_n hx hb dX1_takesPart_9 rfl (lv_at hl 0 rfl) ?_
    refine g_get (C := RX1) (T := TX1) (N := 3) hx hb hts iwX1_takesPart_X1 hown hK hP 0 0 rfl rfl rfl 1 (Nat.le_of_ble_eq_true rfl) (hts _ kX1_takesPart_1) (fun _ h9 => h9) rfl dX1_takesPart_10 ?_
    refine lv_iload_n hx hb dX1_takesPart_13 rfl (lv_at hl 2 rfl) ?_
    obtain ⟨h3, hf⟩ := gi_some hf
    refine g_zald hx hb hK hP 0 2 1 rfl rfl rfl h3 dX1_takesPart_14 ?_
    refine lv_if_ne (tgt := 22) hx hb dX1_takesPart_15 (by decide) (fun c4 => ?_) (fun c4 => ?_)
    · rw [if_neg c4] at hf
      refine lv_iconst (v := (0:Int32)) hx hb dX1_takesPart_22 (by decide) ?_
      cases hf
      exact g_zret hx hb hr gz0 hlocks hP hS dX1_takesPart_23
    · rw [if_pos c4] at hf
      refine lv_iconst (v := (1:Int32)) hx hb dX1_takesPart_18 (by decide) ?_
      refine lv_goto (tgt := 23) hx hb dX1_takesPart_19 (by decide) ?_
      cases hf
      exact g_zret hx hb hr gz1 hlocks hP hS dX1_takesPart_23
theorem kX1_canTake_0 : Cond.fieldLink RX1 95 "SavingsCircle$State" "taken" "[Z" ∈ wsX1_canTake := (List.mem_cons_of_mem _ (List.mem_append_left _ (List.mem_append_left _ (List.mem_of_getElem? (i := 0) rfl))))
theorem iwX1_canTake_X3 : ∀ w ∈ wsX30, w ∈ wsX1_canTake := fun w h => (List.mem_cons_of_mem _ (List.mem_append_left _ (List.mem_append_right _ h)))
set_option maxHeartbeats 4000000 in
set_option maxRecDepth 100000 in
theorem c_X1_canTake (l : Launch) (G : uG) (a0 : Nat → Nat) (a1 : Nat → Nat) (v0 : RdV) (v1 : StV) (i2 : Int32) {q : Int32 × (Unit)} (hf : f_X1_canTake v0 v1 i2 = some q) : mQ l yX1_canTake wsX1_canTake ({ frames := 1, cells := 0, slots := 0, locals := 22 } : Room) G [.ref (a0 0), .ref (a1 0), .int i2] [rdW G a0 v0, stW G a1 v1] [rdW G a0 v0, stW G a1 v1] (qI G [rdW G a0 v0, stW G a1 v1] q.1) := by
  unfold f_X1_canTake at hf
  refine m_of (cc := cX1_canTake) (maxL := 3) (ret := (some .boolean)) (by decide) rfl rfl (Nat.le_of_ble_eq_true rfl) ?_
  intro p e s m args below meth c A ls S hK hA hP hD hS hl
  obtain ⟨hx, hb, hml, hown, hts, hr, hlocks⟩ := id S
  have hl : lv_has ls 3 [(0, .ref (a0 0)), (1, .ref (a1 0)), (2, .int i2)] := hl
  refine lv_aload_n hx hb dX1_canTake_0 rfl (lv_at hl 0 rfl) ?_
  refine lv_aload_n hx hb dX1_canTake_1 rfl (lv_at hl 1 rfl) ?_
  refine lv_iload_n hx hb dX1_canTake_2 rfl (lv_at hl 2 rfl) ?_
  obtain ⟨q1, hq1, hf⟩ := bd_some hf
  refine g_callVi S (As := [.ref (a1 0), .int i2]) (gs' := [rdW G a0 v0, stW G a1 v1]) (c_X1_takesPart l G a0 a1 v0 v1 i2 hq1) (cwV 2 hts gX1_canTake_X1_takesPart rfl rfl rfl hd_X1_takesPart ⟨Nat.le_of_ble_eq_true rfl, Nat.le_of_ble_eq_true rfl⟩) hK hP hD hS hA (is := [0, 1]) rfl rfl 0 rfl rfl rfl rfl hl.1 rfl (Nat.le_of_ble_eq_true rfl) dX1_canTake_3 ⟨Nat.le_of_ble_eq_true rfl, Nat.le_of_ble_eq_true rfl⟩ rfl (fun H locs hP hD hS => ?_)
  refine lv_if_eq (tgt := 22) hx hb dX1_canTake_6 (by decide) (fun c2 => ?_) (fun c2 => ?_)
  · rw [if_pos c2] at hf
    refine lv_iconst (v := (0:Int32)) hx hb dX1_canTake_22 (by decide) ?_
    cases hf
    exact g_zret hx hb hr gz0 hlocks hP hS dX1_canTake_23
  · rw [if_neg c2] at hf
    refine lv_aload_n hx hb dX1_canTake_9 rfl (lv_at hl 1 rfl) ?_
    refine g_get (C := RX3) (T := TX3) (N := 17) hx hb hts iwX1_canTake_X3 hown hK hP 1 0 rfl rfl rfl 9 (Nat.le_of_ble_eq_true rfl) (hts _ kX1_canTake_0) (fun _ h9 => h9) rfl dX1_canTake_10 ?_
    refine lv_iload_n hx hb dX1_canTake_13 rfl (lv_at hl 2 rfl) ?_
    obtain ⟨h3, hf⟩ := gi_some hf
    refine g_zald hx hb hK hP 1 5 1 rfl rfl rfl h3 dX1_canTake_14 ?_
    refine lv_if_ne (tgt := 22) hx hb dX1_canTake_15 (by decide) (fun c4 => ?_) (fun c4 => ?_)
    · rw [if_neg c4] at hf
      refine lv_iconst (v := (0:Int32)) hx hb dX1_canTake_22 (by decide) ?_
      cases hf
      exact g_zret hx hb hr gz0 hlocks hP hS dX1_canTake_23
    · rw [if_pos c4] at hf
      refine lv_iconst (v := (1:Int32)) hx hb dX1_canTake_18 (by decide) ?_
      refine lv_goto (tgt := 23) hx hb dX1_canTake_19 (by decide) ?_
      cases hf
      exact g_zret hx hb hr gz1 hlocks hP hS dX1_canTake_23
theorem kX1_countedBid_0 : Cond.fieldLink RX1 46 "SavingsCircle$State" "bid" "[I" ∈ wsX1_countedBid := (List.mem_cons_of_mem _ (List.mem_append_left _ (List.mem_append_left _ (List.mem_of_getElem? (i := 0) rfl))))
theorem kX1_countedBid_1 : Cond.fieldLink RX1 33 "SavingsCircle$Round" "pence" "I" ∈ wsX1_countedBid := (List.mem_cons_of_mem _ (List.mem_append_left _ (List.mem_append_left _ (List.mem_of_getElem? (i := 1) rfl))))
theorem kX1_countedBid_2 : Cond.methodLink RX1 98 Lib.Math.min.name ∈ wsX1_countedBid := (List.mem_cons_of_mem _ (List.mem_append_left _ (List.mem_append_left _ (List.mem_of_getElem? (i := 2) rfl))))
theorem kX1_countedBid_3 : Cond.static Lib.Math.min.name ∈ wsX1_countedBid := (List.mem_cons_of_mem _ (List.mem_append_left _ (List.mem_append_left _ (List.mem_of_getElem? (i := 3) rfl))))
theorem kX1_countedBid_4 : Cond.initialized "java/lang/Math" ∈ wsX1_countedBid := (List.mem_cons_of_mem _ (List.mem_append_left _ (List.mem_append_left _ (List.mem_of_getElem? (i := 4) rfl))))
theorem kX1_countedBid_5 : Cond.code Lib.Math.min.name Lib.Math.min.code 2 (some .int) ∈ wsX1_countedBid := (List.mem_cons_of_mem _ (List.mem_append_left _ (List.mem_append_left _ (List.mem_of_getElem? (i := 5) rfl))))
theorem iwX1_countedBid_X3 : ∀ w ∈ wsX30, w ∈ wsX1_countedBid := fun w h => (List.mem_cons_of_mem _ (List.mem_append_left _ (List.mem_append_right _ h)))
theorem iwX1_countedBid_X1 : ∀ w ∈ wsX10, w ∈ wsX1_countedBid := fun w h => (List.mem_cons_of_mem _ (List.mem_append_right _ h))
set_option maxHeartbeats 4000000 in
set_option maxRecDepth 100000 in
theorem c_X1_countedBid (l : Launch) (G : uG) (a0 : Nat → Nat) (a1 : Nat → Nat) (v0 : RdV) (v1 : StV) (i2 : Int32) {q : Int32 × (Unit)} (hf : f_X1_countedBid v0 v1 i2 = some q) : mQ l yX1_countedBid wsX1_countedBid ({ frames := 1, cells := 0, slots := 0, locals := 21 } : Room) G [.ref (a0 0), .ref (a1 0), .int i2] [rdW G a0 v0, stW G a1 v1] [rdW G a0 v0, stW G a1 v1] (qI G [rdW G a0 v0, stW G a1 v1] q.1) := by
  unfold f_X1_countedBid at hf
  refine m_of (cc := cX1_countedBid) (maxL := 3) (ret := (some .int)) (by decide) rfl rfl (Nat.le_of_ble_eq_true rfl) ?_
  intro p e s m args below meth c A ls S hK hA hP hD hS hl
  obtain ⟨hx, hb, hml, hown, hts, hr, hlocks⟩ := id S
  have hl : lv_has ls 3 [(0, .ref (a0 0)), (1, .ref (a1 0)), (2, .int i2)] := hl
  refine lv_aload_n hx hb dX1_countedBid_0 rfl (lv_at hl 1 rfl) ?_
  refine g_get (C := RX3) (T := TX3) (N := 17) hx hb hts iwX1_countedBid_X3 hown hK hP 1 0 rfl rfl rfl 7 (Nat.le_of_ble_eq_true rfl) (hts _ kX1_countedBid_0) (fun _ h9 => h9) rfl dX1_countedBid_1 ?_
  refine lv_iload_n hx hb dX1_countedBid_4 rfl (lv_at hl 2 rfl) ?_
  obtain ⟨h1, hf⟩ := gi_some hf
  refine g_iald hx hb hK hP 1 3 0 rfl rfl rfl h1 dX1_countedBid_5 ?_
  refine lv_aload_n hx hb dX1_countedBid_6 rfl (lv_at hl 0 rfl) ?_
  refine g_get (C := RX1) (T := TX1) (N := 3) hx hb hts iwX1_countedBid_X1 hown hK hP 0 0 rfl rfl rfl 2 (Nat.le_of_ble_eq_true rfl) (hts _ kX1_countedBid_1) (fun _ h9 => h9) rfl dX1_countedBid_7 ?_
  refine lv_iconst (v := (2:Int32)) hx hb dX1_countedBid_10 (by decide) ?_
  obtain ⟨h2, hf⟩ := gz_some hf
  refine lv_idiv hx hb dX1_countedBid_11 h2 ?_
  refine va_mmin hx hb (hml.trans hl.1.symm) hown (hts _ kX1_countedBid_2) (hts _ kX1_countedBid_3) (hts _ kX1_countedBid_4) (hts _ kX1_countedBid_5) (Nat.le_of_ble_eq_true rfl) (Nat.le_of_ble_eq_true rfl) (Nat.le_of_ble_eq_true rfl) (Nat.le_of_ble_eq_true rfl) dX1_countedBid_12 ?_
  obtain ⟨x3, ex3, hf⟩ := lt_some hf
  refine lv_nmi ex3 ?_
  cases hf
  exact g_iret hx hb hr hlocks hP hS dX1_countedBid_15
theorem kX1_taker_0 : Cond.constant RX1 26 (-99999) ∈ wsX1_taker := (List.mem_cons_of_mem _ (List.mem_append_left _ (List.mem_append_left _ (List.mem_append_left _ (List.mem_of_getElem? (i := 0) rfl)))))
theorem kX1_taker_1 : Cond.fieldLink RX1 43 "SavingsCircle$State" "count" "I" ∈ wsX1_taker := (List.mem_cons_of_mem _ (List.mem_append_left _ (List.mem_append_left _ (List.mem_append_left _ (List.mem_of_getElem? (i := 1) rfl)))))
theorem kX1_taker_2 : Cond.fieldLink RX1 53 "SavingsCircle$State" "month" "I" ∈ wsX1_taker := (List.mem_cons_of_mem _ (List.mem_append_left _ (List.mem_append_left _ (List.mem_append_left _ (List.mem_of_getElem? (i := 2) rfl)))))
theorem iwX1_taker_X3 : ∀ w ∈ wsX30, w ∈ wsX1_taker := fun w h => (List.mem_cons_of_mem _ (List.mem_append_left _ (List.mem_append_right _ h)))
set_option maxHeartbeats 4000000 in
set_option maxRecDepth 100000 in
theorem w_X1_taker_27 {p : Program} {l : Launch} {e : Env} {s : State} {m : MethodId} {args : Array Value} {below : List Frame} {meth : Method} {c : Code} {A : Nat → Prop} {Q : State → Prop} (S : Ev p s m args meth c cX1_taker 6 (some .int) yX1_taker.cls wsX1_taker) {G : uG} (hK : kK G s) (hA : ∀ q, s.heap.size ≤ q → A q) (_ : uG) (a0 : Nat → Nat) (a1 : Nat → Nat) (v0 : RdV) (v1 : StV) (p3 : Int32) : ∀ (n : Nat) (z : (Int32 × Int32)) (e1 : (Int32 × Int32)), lp (b_X1_taker_27 v0 v1 p3) n z = some e1 → ∀ (H : Heap) (locs : List Loc) (ls : Array Slot), gP G [rdW G a0 v0, stW G a1 v1] H → gD A [rdW G a0 v0, stW G a1 v1] → va_S A s.heap H locs → lv_has ls 6 [(0, .ref (a0 0)), (1, .ref (a1 0)), (2, .int z.1), (3, .int p3), (4, .int z.2)] → (∀ (H : Heap) (locs : List Loc) (ls : Array Slot), gP G [rdW G a0 v0, stW G a1 v1] H → gD A [rdW G a0 v0, stW G a1 v1] → va_S A s.heap H locs → lv_has ls 6 [(0, .ref (a0 0)), (1, .ref (a1 0)), (2, .int e1.1), (3, .int p3), (4, .int e1.2)] → W p l e ({ frames := 2, cells := 0, slots := 0, locals := 44 } : Room) s m args below meth c H locs 0 0 Q (F0 m 106 ls [])) → W p l e ({ frames := 2, cells := 0, slots := 0, locals := 44 } : Room) s m args below meth c H locs 0 0 Q (F0 m 27 ls []) := by
  obtain ⟨hx, hb, hml, hown, hts, hr, hlocks⟩ := id S
  intro n
  induction n with
  | zero => intro z e1 h; cases h
  | succ n ih =>
    intro z e1 hlp H locs ls hP hD hS hl K
    obtain ⟨z9, hf, hz⟩ := lp_s hlp
    unfold b_X1_taker_27 at hf
    refine lv_iload hx hb dX1_taker_27 (lv_at hl 4 rfl) ?_
    refine lv_aload_n hx hb dX1_taker_29 rfl (lv_at hl 1 rfl) ?_
    refine g_get (C := RX3) (T := TX3) (N := 17) hx hb hts iwX1_taker_X3 hown hK hP 1 0 rfl rfl rfl 0 (Nat.le_of_ble_eq_true rfl) (hts _ kX1_taker_1) (fun _ h9 => h9) rfl dX1_taker_30 ?_
    refine lv_icmp_ge (tgt := 106) hx hb dX1_taker_33 (by decide) (fun c2 => ?_) (fun c2 => ?_)
    · rw [if_pos c2] at hf
      have he := lz_r hf hz
      subst he
      exact K H locs ls hP hD hS (lv_sub hl [0, 1, 2, 3, 4] rfl)
    · rw [if_neg c2] at hf
      refine lv_iload_n hx hb dX1_taker_36 rfl (lv_at hl 3 rfl) ?_
      refine lv_iload hx hb dX1_taker_37 (lv_at hl 4 rfl) ?_
      refine lv_iadd hx hb dX1_taker_39 ?_
      refine lv_aload_n hx hb dX1_taker_40 rfl (lv_at hl 1 rfl) ?_
      refine g_get (C := RX3) (T := TX3) (N := 17) hx hb hts iwX1_taker_X3 hown hK hP 1 0 rfl rfl rfl 0 (Nat.le_of_ble_eq_true rfl) (hts _ kX1_taker_1) (fun _ h9 => h9) rfl dX1_taker_41 ?_
      refine lv_icmp_ge (tgt := 54) hx hb dX1_taker_44 (by decide) (fun c3 => ?_) (fun c3 => ?_)
      · rw [if_pos c3] at hf
        refine lv_iload_n hx hb dX1_taker_54 rfl (lv_at hl 3 rfl) ?_
        refine lv_iload hx hb dX1_taker_55 (lv_at hl 4 rfl) ?_
        refine lv_iadd hx hb dX1_taker_57 ?_
        refine lv_aload_n hx hb dX1_taker_58 rfl (lv_at hl 1 rfl) ?_
        refine g_get (C := RX3) (T := TX3) (N := 17) hx hb hts iwX1_taker_X3 hown hK hP 1 0 rfl rfl rfl 0 (Nat.le_of_ble_eq_true rfl) (hts _ kX1_taker_1) (fun _ h9 => h9) rfl dX1_taker_59 ?_
        refine lv_isub hx hb dX1_taker_62 ?_
        obtain ⟨x4, ex4, hf⟩ := lt_some hf
        refine lv_nmi ex4 ?_
        refine lv_istore (lv' := [(5, .int x4), (0, .ref (a0 0)), (1, .ref (a1 0)), (2, .int z.1), (3, .int p3), (4, .int z.2)]) hx hb dX1_taker_63 hl (by decide) rfl (fun ls hl => ?_)
        refine lv_aload_n hx hb dX1_taker_65 rfl (lv_at hl 1 rfl) ?_
        refine lv_aload_n hx hb dX1_taker_66 rfl (lv_at hl 2 rfl) ?_
        refine lv_iload hx hb dX1_taker_67 (lv_at hl 0 rfl) ?_
        obtain ⟨q5, hq5, hf⟩ := bd_some hf
        refine g_callVi S (As := [.ref (a1 0), .int x4]) (gs' := [rdW G a0 v0, stW G a1 v1]) (c_X1_canTake l G a0 a1 v0 v1 x4 hq5) (cwV 2 hts gX1_taker_X1_canTake rfl rfl rfl hd_X1_canTake ⟨Nat.le_of_ble_eq_true rfl, Nat.le_of_ble_eq_true rfl⟩) hK hP hD hS hA (is := [0, 1]) rfl rfl 0 rfl rfl rfl rfl hl.1 rfl (Nat.le_of_ble_eq_true rfl) dX1_taker_69 ⟨Nat.le_of_ble_eq_true rfl, Nat.le_of_ble_eq_true rfl⟩ rfl (fun H locs hP hD hS => ?_)
        refine lv_if_eq (tgt := 100) hx hb dX1_taker_72 (by decide) (fun c6 => ?_) (fun c6 => ?_)
        · rw [if_pos c6] at hf
          obtain ⟨x7, ex7, hf⟩ := lt_some hf
          refine lv_iinc (v := x7) (lv' := [(4, .int x7), (5, .int x4), (0, .ref (a0 0)), (1, .ref (a1 0)), (2, .int z.1), (3, .int p3)]) hx hb dX1_taker_100 hl (k := 5) rfl (by rw [ex7]; rfl) (by decide) rfl (fun ls hl => ?_)
          refine lv_goto (tgt := 27) hx hb dX1_taker_103 (by decide) ?_
          exact ih _ e1 (lz_l hf hz) H locs ls hP hD hS (lv_sub hl [2, 3, 4, 5, 0] rfl) K
        · rw [if_neg c6] at hf
          refine lv_iload_n hx hb dX1_taker_75 rfl (lv_at hl 3 rfl) ?_
          refine lv_ldc (v := (-99999:Int32)) hx hb hown (hts _ kX1_taker_0) dX1_taker_76 ?_
          refine lv_icmp_eq (tgt := 97) hx hb dX1_taker_78 (by decide) (fun c8 => ?_) (fun c8 => ?_)
          · rw [if_pos c8] at hf
            refine lv_iload hx hb dX1_taker_97 (lv_at hl 0 rfl) ?_
            refine lv_istore_n (lv' := [(2, .int x4), (5, .int x4), (0, .ref (a0 0)), (1, .ref (a1 0)), (3, .int p3), (4, .int z.2)]) hx hb dX1_taker_99 rfl hl (by decide) rfl (fun ls hl => ?_)
            obtain ⟨x9, ex9, hf⟩ := lt_some hf
            refine lv_iinc (v := x9) (lv' := [(4, .int x9), (2, .int x4), (5, .int x4), (0, .ref (a0 0)), (1, .ref (a1 0)), (3, .int p3)]) hx hb dX1_taker_100 hl (k := 5) rfl (by rw [ex9]; rfl) (by decide) rfl (fun ls hl => ?_)
            refine lv_goto (tgt := 27) hx hb dX1_taker_103 (by decide) ?_
            exact ih _ e1 (lz_l hf hz) H locs ls hP hD hS (lv_sub hl [3, 4, 1, 5, 0] rfl) K
          · rw [if_neg c8] at hf
            refine lv_aload_n hx hb dX1_taker_81 rfl (lv_at hl 1 rfl) ?_
            refine lv_aload_n hx hb dX1_taker_82 rfl (lv_at hl 2 rfl) ?_
            refine lv_iload hx hb dX1_taker_83 (lv_at hl 0 rfl) ?_
            obtain ⟨q10, hq10, hf⟩ := bd_some hf
            refine g_callVi S (As := [.ref (a1 0), .int x4]) (gs' := [rdW G a0 v0, stW G a1 v1]) (c_X1_countedBid l G a0 a1 v0 v1 x4 hq10) (cwV 2 hts gX1_taker_X1_countedBid rfl rfl rfl hd_X1_countedBid ⟨Nat.le_of_ble_eq_true rfl, Nat.le_of_ble_eq_true rfl⟩) hK hP hD hS hA (is := [0, 1]) rfl rfl 0 rfl rfl rfl rfl hl.1 rfl (Nat.le_of_ble_eq_true rfl) dX1_taker_85 ⟨Nat.le_of_ble_eq_true rfl, Nat.le_of_ble_eq_true rfl⟩ rfl (fun H locs hP hD hS => ?_)
            refine lv_aload_n hx hb dX1_taker_88 rfl (lv_at hl 1 rfl) ?_
            refine lv_aload_n hx hb dX1_taker_89 rfl (lv_at hl 2 rfl) ?_
            refine lv_iload_n hx hb dX1_taker_90 rfl (lv_at hl 3 rfl) ?_
            obtain ⟨q11, hq11, hf⟩ := bd_some hf
            refine g_callVi S (As := [.ref (a1 0), .int z.1]) (gs' := [rdW G a0 v0, stW G a1 v1]) (c_X1_countedBid l G a0 a1 v0 v1 z.1 hq11) (cwV 2 hts gX1_taker_X1_countedBid rfl rfl rfl hd_X1_countedBid ⟨Nat.le_of_ble_eq_true rfl, Nat.le_of_ble_eq_true rfl⟩) hK hP hD hS hA (is := [0, 1]) rfl rfl 0 rfl rfl rfl rfl hl.1 rfl (Nat.le_of_ble_eq_true rfl) dX1_taker_91 ⟨Nat.le_of_ble_eq_true rfl, Nat.le_of_ble_eq_true rfl⟩ rfl (fun H locs hP hD hS => ?_)
            refine lv_icmp_le (tgt := 100) hx hb dX1_taker_94 (by decide) (fun c12 => ?_) (fun c12 => ?_)
            · rw [if_pos c12] at hf
              obtain ⟨x13, ex13, hf⟩ := lt_some hf
              refine lv_iinc (v := x13) (lv' := [(4, .int x13), (5, .int x4), (0, .ref (a0 0)), (1, .ref (a1 0)), (2, .int z.1), (3, .int p3)]) hx hb dX1_taker_100 hl (k := 5) rfl (by rw [ex13]; rfl) (by decide) rfl (fun ls hl => ?_)
              refine lv_goto (tgt := 27) hx hb dX1_taker_103 (by decide) ?_
              exact ih _ e1 (lz_l hf hz) H locs ls hP hD hS (lv_sub hl [2, 3, 4, 5, 0] rfl) K
            · rw [if_neg c12] at hf
              refine lv_iload hx hb dX1_taker_97 (lv_at hl 0 rfl) ?_
              refine lv_istore_n (lv' := [(2, .int x4), (5, .int x4), (0, .ref (a0 0)), (1, .ref (a1 0)), (3, .int p3), (4, .int z.2)]) hx hb dX1_taker_99 rfl hl (by decide) rfl (fun ls hl => ?_)
              obtain ⟨x14, ex14, hf⟩ := lt_some hf
              refine lv_iinc (v := x14) (lv' := [(4, .int x14), (2, .int x4), (5, .int x4), (0, .ref (a0 0)), (1, .ref (a1 0)), (3, .int p3)]) hx hb dX1_taker_100 hl (k := 5) rfl (by rw [ex14]; rfl) (by decide) rfl (fun ls hl => ?_)
              refine lv_goto (tgt := 27) hx hb dX1_taker_103 (by decide) ?_
              exact ih _ e1 (lz_l hf hz) H locs ls hP hD hS (lv_sub hl [3, 4, 1, 5, 0] rfl) K
      · rw [if_neg c3] at hf
        refine lv_iload_n hx hb dX1_taker_47 rfl (lv_at hl 3 rfl) ?_
        refine lv_iload hx hb dX1_taker_48 (lv_at hl 4 rfl) ?_
        refine lv_iadd hx hb dX1_taker_50 ?_
        refine lv_goto (tgt := 63) hx hb dX1_taker_51 (by decide) ?_
        obtain ⟨x15, ex15, hf⟩ := lt_some hf
        refine lv_nmi ex15 ?_
        refine lv_istore (lv' := [(5, .int x15), (0, .ref (a0 0)), (1, .ref (a1 0)), (2, .int z.1), (3, .int p3), (4, .int z.2)]) hx hb dX1_taker_63 hl (by decide) rfl (fun ls hl => ?_)
        refine lv_aload_n hx hb dX1_taker_65 rfl (lv_at hl 1 rfl) ?_
        refine lv_aload_n hx hb dX1_taker_66 rfl (lv_at hl 2 rfl) ?_
        refine lv_iload hx hb dX1_taker_67 (lv_at hl 0 rfl) ?_
        obtain ⟨q16, hq16, hf⟩ := bd_some hf
        refine g_callVi S (As := [.ref (a1 0), .int x15]) (gs' := [rdW G a0 v0, stW G a1 v1]) (c_X1_canTake l G a0 a1 v0 v1 x15 hq16) (cwV 2 hts gX1_taker_X1_canTake rfl rfl rfl hd_X1_canTake ⟨Nat.le_of_ble_eq_true rfl, Nat.le_of_ble_eq_true rfl⟩) hK hP hD hS hA (is := [0, 1]) rfl rfl 0 rfl rfl rfl rfl hl.1 rfl (Nat.le_of_ble_eq_true rfl) dX1_taker_69 ⟨Nat.le_of_ble_eq_true rfl, Nat.le_of_ble_eq_true rfl⟩ rfl (fun H locs hP hD hS => ?_)
        refine lv_if_eq (tgt := 100) hx hb dX1_taker_72 (by decide) (fun c17 => ?_) (fun c17 => ?_)
        · rw [if_pos c17] at hf
          obtain ⟨x18, ex18, hf⟩ := lt_some hf
          refine lv_iinc (v := x18) (lv' := [(4, .int x18), (5, .int x15), (0, .ref (a0 0)), (1, .ref (a1 0)), (2, .int z.1), (3, .int p3)]) hx hb dX1_taker_100 hl (k := 5) rfl (by rw [ex18]; rfl) (by decide) rfl (fun ls hl => ?_)
          refine lv_goto (tgt := 27) hx hb dX1_taker_103 (by decide) ?_
          exact ih _ e1 (lz_l hf hz) H locs ls hP hD hS (lv_sub hl [2, 3, 4, 5, 0] rfl) K
        · rw [if_neg c17] at hf
          refine lv_iload_n hx hb dX1_taker_75 rfl (lv_at hl 3 rfl) ?_
          refine lv_ldc (v := (-99999:Int32)) hx hb hown (hts _ kX1_taker_0) dX1_taker_76 ?_
          refine lv_icmp_eq (tgt := 97) hx hb dX1_taker_78 (by decide) (fun c19 => ?_) (fun c19 => ?_)
          · rw [if_pos c19] at hf
            refine lv_iload hx hb dX1_taker_97 (lv_at hl 0 rfl) ?_
            refine lv_istore_n (lv' := [(2, .int x15), (5, .int x15), (0, .ref (a0 0)), (1, .ref (a1 0)), (3, .int p3), (4, .int z.2)]) hx hb dX1_taker_99 rfl hl (by decide) rfl (fun ls hl => ?_)
            obtain ⟨x20, ex20, hf⟩ := lt_some hf
            refine lv_iinc (v := x20) (lv' := [(4, .int x20), (2, .int x15), (5, .int x15), (0, .ref (a0 0)), (1, .ref (a1 0)), (3, .int p3)]) hx hb dX1_taker_100 hl (k := 5) rfl (by rw [ex20]; rfl) (by decide) rfl (fun ls hl => ?_)
            refine lv_goto (tgt := 27) hx hb dX1_taker_103 (by decide) ?_
            exact ih _ e1 (lz_l hf hz) H locs ls hP hD hS (lv_sub hl [3, 4, 1, 5, 0] rfl) K
          · rw [if_neg c19] at hf
            refine lv_aload_n hx hb dX1_taker_81 rfl (lv_at hl 1 rfl) ?_
            refine lv_aload_n hx hb dX1_taker_82 rfl (lv_at hl 2 rfl) ?_
            refine lv_iload hx hb dX1_taker_83 (lv_at hl 0 rfl) ?_
            obtain ⟨q21, hq21, hf⟩ := bd_some hf
            refine g_callVi S (As := [.ref (a1 0), .int x15]) (gs' := [rdW G a0 v0, stW G a1 v1]) (c_X1_countedBid l G a0 a1 v0 v1 x15 hq21) (cwV 2 hts gX1_taker_X1_countedBid rfl rfl rfl hd_X1_countedBid ⟨Nat.le_of_ble_eq_true rfl, Nat.le_of_ble_eq_true rfl⟩) hK hP hD hS hA (is := [0, 1]) rfl rfl 0 rfl rfl rfl rfl hl.1 rfl (Nat.le_of_ble_eq_true rfl) dX1_taker_85 ⟨Nat.le_of_ble_eq_true rfl, Nat.le_of_ble_eq_true rfl⟩ rfl (fun H locs hP hD hS => ?_)
            refine lv_aload_n hx hb dX1_taker_88 rfl (lv_at hl 1 rfl) ?_
            refine lv_aload_n hx hb dX1_taker_89 rfl (lv_at hl 2 rfl) ?_
            refine lv_iload_n hx hb dX1_taker_90 rfl (lv_at hl 3 rfl) ?_
            obtain ⟨q22, hq22, hf⟩ := bd_some hf
            refine g_callVi S (As := [.ref (a1 0), .int z.1]) (gs' := [rdW G a0 v0, stW G a1 v1]) (c_X1_countedBid l G a0 a1 v0 v1 z.1 hq22) (cwV 2 hts gX1_taker_X1_countedBid rfl rfl rfl hd_X1_countedBid ⟨Nat.le_of_ble_eq_true rfl, Nat.le_of_ble_eq_true rfl⟩) hK hP hD hS hA (is := [0, 1]) rfl rfl 0 rfl rfl rfl rfl hl.1 rfl (Nat.le_of_ble_eq_true rfl) dX1_taker_91 ⟨Nat.le_of_ble_eq_true rfl, Nat.le_of_ble_eq_true rfl⟩ rfl (fun H locs hP hD hS => ?_)
            refine lv_icmp_le (tgt := 100) hx hb dX1_taker_94 (by decide) (fun c23 => ?_) (fun c23 => ?_)
            · rw [if_pos c23] at hf
              obtain ⟨x24, ex24, hf⟩ := lt_some hf
              refine lv_iinc (v := x24) (lv' := [(4, .int x24), (5, .int x15), (0, .ref (a0 0)), (1, .ref (a1 0)), (2, .int z.1), (3, .int p3)]) hx hb dX1_taker_100 hl (k := 5) rfl (by rw [ex24]; rfl) (by decide) rfl (fun ls hl => ?_)
              refine lv_goto (tgt := 27) hx hb dX1_taker_103 (by decide) ?_
              exact ih _ e1 (lz_l hf hz) H locs ls hP hD hS (lv_sub hl [2, 3, 4, 5, 0] rfl) K
            · rw [if_neg c23] at hf
              refine lv_iload hx hb dX1_taker_97 (lv_at hl 0 rfl) ?_
              refine lv_istore_n (lv' := [(2, .int x15), (5, .int x15), (0, .ref (a0 0)), (1, .ref (a1 0)), (3, .int p3), (4, .int z.2)]) hx hb dX1_taker_99 rfl hl (by decide) rfl (fun ls hl => ?_)
              obtain ⟨x25, ex25, hf⟩ := lt_some hf
              refine lv_iinc (v := x25) (lv' := [(4, .int x25), (2, .int x15), (5, .int x15), (0, .ref (a0 0)), (1, .ref (a1 0)), (3, .int p3)]) hx hb dX1_taker_100 hl (k := 5) rfl (by rw [ex25]; rfl) (by decide) rfl (fun ls hl => ?_)
              refine lv_goto (tgt := 27) hx hb dX1_taker_103 (by decide) ?_
              exact ih _ e1 (lz_l hf hz) H locs ls hP hD hS (lv_sub hl [3, 4, 1, 5, 0] rfl) K
set_option maxHeartbeats 4000000 in
set_option maxRecDepth 100000 in
theorem c_X1_taker (l : Launch) (G : uG) (a0 : Nat → Nat) (a1 : Nat → Nat) (v0 : RdV) (v1 : StV) {q : Int32 × (Unit)} (hf : f_X1_taker v0 v1 = some q) : mQ l yX1_taker wsX1_taker ({ frames := 2, cells := 0, slots := 0, locals := 44 } : Room) G [.ref (a0 0), .ref (a1 0)] [rdW G a0 v0, stW G a1 v1] [rdW G a0 v0, stW G a1 v1] (qI G [rdW G a0 v0, stW G a1 v1] q.1) := by
  unfold f_X1_taker at hf
  refine m_of (cc := cX1_taker) (maxL := 6) (ret := (some .int)) (by decide) rfl rfl (Nat.le_of_ble_eq_true rfl) ?_
  intro p e s m args below meth c A ls S hK hA hP hD hS hl
  obtain ⟨hx, hb, hml, hown, hts, hr, hlocks⟩ := id S
  have hl : lv_has ls 6 [(0, .ref (a0 0)), (1, .ref (a1 0))] := hl
  refine lv_ldc (v := (-99999:Int32)) hx hb hown (hts _ kX1_taker_0) dX1_taker_0 ?_
  refine lv_istore_n (lv' := [(2, .int (-99999:Int32)), (0, .ref (a0 0)), (1, .ref (a1 0))]) hx hb dX1_taker_2 rfl hl (by decide) rfl (fun ls hl => ?_)
  refine lv_aload_n hx hb dX1_taker_3 rfl (lv_at hl 2 rfl) ?_
  refine g_get (C := RX3) (T := TX3) (N := 17) hx hb hts iwX1_taker_X3 hown hK hP 1 0 rfl rfl rfl 0 (Nat.le_of_ble_eq_true rfl) (hts _ kX1_taker_1) (fun _ h9 => h9) rfl dX1_taker_4 ?_
  refine lv_if_le (tgt := 22) hx hb dX1_taker_7 (by decide) (fun c1 => ?_) (fun c1 => ?_)
  · rw [if_pos c1] at hf
    refine lv_iconst (v := (0:Int32)) hx hb dX1_taker_22 (by decide) ?_
    refine lv_istore_n (lv' := [(3, .int (0:Int32)), (2, .int (-99999:Int32)), (0, .ref (a0 0)), (1, .ref (a1 0))]) hx hb dX1_taker_23 rfl hl (by decide) rfl (fun ls hl => ?_)
    refine lv_iconst (v := (0:Int32)) hx hb dX1_taker_24 (by decide) ?_
    refine lv_istore (lv' := [(4, .int (0:Int32)), (3, .int (0:Int32)), (2, .int (-99999:Int32)), (0, .ref (a0 0)), (1, .ref (a1 0))]) hx hb dX1_taker_25 hl (by decide) rfl (fun ls hl => ?_)
    obtain ⟨e26, he26, hf⟩ := bd_some hf
    refine w_X1_taker_27 (Q := _) S hK hA G a0 a1 v0 v1 (0:Int32) FU _ e26 he26 _ _ _ hP hD hS (lv_sub hl [3, 4, 2, 1, 0] rfl) (fun H locs ls hP hD hS hl => ?_)
    refine lv_iload_n hx hb dX1_taker_106 rfl (lv_at hl 2 rfl) ?_
    cases hf
    exact g_iret hx hb hr hlocks hP hS dX1_taker_107
  · rw [if_neg c1] at hf
    refine lv_aload_n hx hb dX1_taker_10 rfl (lv_at hl 2 rfl) ?_
    refine g_get (C := RX3) (T := TX3) (N := 17) hx hb hts iwX1_taker_X3 hown hK hP 1 0 rfl rfl rfl 1 (Nat.le_of_ble_eq_true rfl) (hts _ kX1_taker_2) (fun _ h9 => h9) rfl dX1_taker_11 ?_
    refine lv_aload_n hx hb dX1_taker_14 rfl (lv_at hl 2 rfl) ?_
    refine g_get (C := RX3) (T := TX3) (N := 17) hx hb hts iwX1_taker_X3 hown hK hP 1 0 rfl rfl rfl 0 (Nat.le_of_ble_eq_true rfl) (hts _ kX1_taker_1) (fun _ h9 => h9) rfl dX1_taker_15 ?_
    obtain ⟨h27, hf⟩ := gz_some hf
    refine lv_irem hx hb dX1_taker_18 h27 ?_
    obtain ⟨x28, ex28, hf⟩ := lt_some hf
    refine lv_nmi ex28 ?_
    refine lv_goto (tgt := 23) hx hb dX1_taker_19 (by decide) ?_
    refine lv_istore_n (lv' := [(3, .int x28), (2, .int (-99999:Int32)), (0, .ref (a0 0)), (1, .ref (a1 0))]) hx hb dX1_taker_23 rfl hl (by decide) rfl (fun ls hl => ?_)
    refine lv_iconst (v := (0:Int32)) hx hb dX1_taker_24 (by decide) ?_
    refine lv_istore (lv' := [(4, .int (0:Int32)), (3, .int x28), (2, .int (-99999:Int32)), (0, .ref (a0 0)), (1, .ref (a1 0))]) hx hb dX1_taker_25 hl (by decide) rfl (fun ls hl => ?_)
    obtain ⟨e29, he29, hf⟩ := bd_some hf
    refine w_X1_taker_27 (Q := _) S hK hA G a0 a1 v0 v1 x28 FU _ e29 he29 _ _ _ hP hD hS (lv_sub hl [3, 4, 2, 1, 0] rfl) (fun H locs ls hP hD hS hl => ?_)
    refine lv_iload_n hx hb dX1_taker_106 rfl (lv_at hl 2 rfl) ?_
    cases hf
    exact g_iret hx hb hr hlocks hP hS dX1_taker_107
theorem kX1_share_0 : Cond.fieldLink RX1 43 "SavingsCircle$State" "count" "I" ∈ wsX1_share := (List.mem_cons_of_mem _ (List.mem_append_left _ (List.mem_append_left _ (List.mem_of_getElem? (i := 0) rfl))))
theorem kX1_share_1 : Cond.fieldLink RX1 59 "SavingsCircle$State" "purse" "[I" ∈ wsX1_share := (List.mem_cons_of_mem _ (List.mem_append_left _ (List.mem_append_left _ (List.mem_of_getElem? (i := 1) rfl))))
theorem kX1_share_2 : Cond.fieldLink RX1 113 "SavingsCircle$State" "shares" "[I" ∈ wsX1_share := (List.mem_cons_of_mem _ (List.mem_append_left _ (List.mem_append_left _ (List.mem_of_getElem? (i := 2) rfl))))
theorem kX1_share_3 : Cond.fieldLink RX1 27 "SavingsCircle$State" "box" "I" ∈ wsX1_share := (List.mem_cons_of_mem _ (List.mem_append_left _ (List.mem_append_left _ (List.mem_of_getElem? (i := 3) rfl))))
theorem iwX1_share_X3 : ∀ w ∈ wsX30, w ∈ wsX1_share := fun w h => (List.mem_cons_of_mem _ (List.mem_append_left _ (List.mem_append_right _ h)))
set_option maxHeartbeats 4000000 in
set_option maxRecDepth 100000 in
theorem w_X1_share_5 {p : Program} {l : Launch} {e : Env} {s : State} {m : MethodId} {args : Array Value} {below : List Frame} {meth : Method} {c : Code} {A : Nat → Prop} {Q : State → Prop} (S : Ev p s m args meth c cX1_share 7 none yX1_share.cls wsX1_share) {G : uG} (hK : kK G s) (hA : ∀ q, s.heap.size ≤ q → A q) (_ : uG) (a0 : Nat → Nat) (a1 : Nat → Nat) (v0 : RdV) (v1 : StV) (p2 : Int32) : ∀ (n : Nat) (z : (Int32 × Int32)) (e1 : (Int32 × Int32)), lp (b_X1_share_5 v0 v1 p2) n z = some e1 → ∀ (H : Heap) (locs : List Loc) (ls : Array Slot), gP G [rdW G a0 v0, stW G a1 v1] H → gD A [rdW G a0 v0, stW G a1 v1] → va_S A s.heap H locs → lv_has ls 7 [(0, .ref (a0 0)), (1, .ref (a1 0)), (2, .int p2), (3, .int z.1), (4, .int z.2)] → (∀ (H : Heap) (locs : List Loc) (ls : Array Slot), gP G [rdW G a0 v0, stW G a1 v1] H → gD A [rdW G a0 v0, stW G a1 v1] → va_S A s.heap H locs → lv_has ls 7 [(0, .ref (a0 0)), (1, .ref (a1 0)), (2, .int p2), (3, .int e1.1), (4, .int e1.2)] → W p l e ({ frames := 2, cells := 0, slots := 0, locals := 43 } : Room) s m args below meth c H locs 0 0 Q (F0 m 39 ls [])) → W p l e ({ frames := 2, cells := 0, slots := 0, locals := 43 } : Room) s m args below meth c H locs 0 0 Q (F0 m 5 ls []) := by
  obtain ⟨hx, hb, hml, hown, hts, hr, hlocks⟩ := id S
  intro n
  induction n with
  | zero => intro z e1 h; cases h
  | succ n ih =>
    intro z e1 hlp H locs ls hP hD hS hl K
    obtain ⟨z9, hf, hz⟩ := lp_s hlp
    unfold b_X1_share_5 at hf
    refine lv_iload hx hb dX1_share_5 (lv_at hl 4 rfl) ?_
    refine lv_aload_n hx hb dX1_share_7 rfl (lv_at hl 1 rfl) ?_
    refine g_get (C := RX3) (T := TX3) (N := 17) hx hb hts iwX1_share_X3 hown hK hP 1 0 rfl rfl rfl 0 (Nat.le_of_ble_eq_true rfl) (hts _ kX1_share_0) (fun _ h9 => h9) rfl dX1_share_8 ?_
    refine lv_icmp_ge (tgt := 39) hx hb dX1_share_11 (by decide) (fun c1 => ?_) (fun c1 => ?_)
    · rw [if_pos c1] at hf
      have he := lz_r hf hz
      subst he
      exact K H locs ls hP hD hS (lv_sub hl [0, 1, 2, 3, 4] rfl)
    · rw [if_neg c1] at hf
      refine lv_iload hx hb dX1_share_14 (lv_at hl 4 rfl) ?_
      refine lv_iload_n hx hb dX1_share_16 rfl (lv_at hl 2 rfl) ?_
      refine lv_icmp_eq (tgt := 33) hx hb dX1_share_17 (by decide) (fun c2 => ?_) (fun c2 => ?_)
      · rw [if_pos c2] at hf
        obtain ⟨x3, ex3, hf⟩ := lt_some hf
        refine lv_iinc (v := x3) (lv' := [(4, .int x3), (0, .ref (a0 0)), (1, .ref (a1 0)), (2, .int p2), (3, .int z.1)]) hx hb dX1_share_33 hl (k := 4) rfl (by rw [ex3]; rfl) (by decide) rfl (fun ls hl => ?_)
        refine lv_goto (tgt := 5) hx hb dX1_share_36 (by decide) ?_
        exact ih _ e1 (lz_l hf hz) H locs ls hP hD hS (lv_sub hl [1, 2, 3, 4, 0] rfl) K
      · rw [if_neg c2] at hf
        refine lv_aload_n hx hb dX1_share_20 rfl (lv_at hl 0 rfl) ?_
        refine lv_aload_n hx hb dX1_share_21 rfl (lv_at hl 1 rfl) ?_
        refine lv_iload hx hb dX1_share_22 (lv_at hl 4 rfl) ?_
        obtain ⟨q4, hq4, hf⟩ := bd_some hf
        refine g_callVi S (As := [.ref (a1 0), .int z.2]) (gs' := [rdW G a0 v0, stW G a1 v1]) (c_X1_takesPart l G a0 a1 v0 v1 z.2 hq4) (cwV 2 hts gX1_share_X1_takesPart rfl rfl rfl hd_X1_takesPart ⟨Nat.le_of_ble_eq_true rfl, Nat.le_of_ble_eq_true rfl⟩) hK hP hD hS hA (is := [0, 1]) rfl rfl 0 rfl rfl rfl rfl hl.1 rfl (Nat.le_of_ble_eq_true rfl) dX1_share_24 ⟨Nat.le_of_ble_eq_true rfl, Nat.le_of_ble_eq_true rfl⟩ rfl (fun H locs hP hD hS => ?_)
        refine lv_if_eq (tgt := 33) hx hb dX1_share_27 (by decide) (fun c5 => ?_) (fun c5 => ?_)
        · rw [if_pos c5] at hf
          obtain ⟨x6, ex6, hf⟩ := lt_some hf
          refine lv_iinc (v := x6) (lv' := [(4, .int x6), (0, .ref (a0 0)), (1, .ref (a1 0)), (2, .int p2), (3, .int z.1)]) hx hb dX1_share_33 hl (k := 4) rfl (by rw [ex6]; rfl) (by decide) rfl (fun ls hl => ?_)
          refine lv_goto (tgt := 5) hx hb dX1_share_36 (by decide) ?_
          exact ih _ e1 (lz_l hf hz) H locs ls hP hD hS (lv_sub hl [1, 2, 3, 4, 0] rfl) K
        · rw [if_neg c5] at hf
          obtain ⟨x7, ex7, hf⟩ := lt_some hf
          refine lv_iinc (v := x7) (lv' := [(3, .int x7), (0, .ref (a0 0)), (1, .ref (a1 0)), (2, .int p2), (4, .int z.2)]) hx hb dX1_share_30 hl (k := 3) rfl (by rw [ex7]; rfl) (by decide) rfl (fun ls hl => ?_)
          obtain ⟨x8, ex8, hf⟩ := lt_some hf
          refine lv_iinc (v := x8) (lv' := [(4, .int x8), (3, .int x7), (0, .ref (a0 0)), (1, .ref (a1 0)), (2, .int p2)]) hx hb dX1_share_33 hl (k := 4) rfl (by rw [ex8]; rfl) (by decide) rfl (fun ls hl => ?_)
          refine lv_goto (tgt := 5) hx hb dX1_share_36 (by decide) ?_
          exact ih _ e1 (lz_l hf hz) H locs ls hP hD hS (lv_sub hl [2, 3, 4, 1, 0] rfl) K
set_option maxHeartbeats 4000000 in
set_option maxRecDepth 100000 in
theorem w_X1_share_64 {p : Program} {l : Launch} {e : Env} {s : State} {m : MethodId} {args : Array Value} {below : List Frame} {meth : Method} {c : Code} {A : Nat → Prop} {Q : State → Prop} (S : Ev p s m args meth c cX1_share 7 none yX1_share.cls wsX1_share) {G : uG} (hK : kK G s) (hA : ∀ q, s.heap.size ≤ q → A q) (_ : uG) (a0 : Nat → Nat) (a1 : Nat → Nat) (v0 : RdV) (p2 : Int32) (p3 : Int32) (p4 : Int32) (p5 : Int32) : ∀ (n : Nat) (z : (Int32 × StV)) (e1 : (Int32 × StV)), lp (b_X1_share_64 v0 p2 p3 p4 p5) n z = some e1 → ∀ (H : Heap) (locs : List Loc) (ls : Array Slot), gP G [rdW G a0 v0, stW G a1 z.2] H → gD A [rdW G a0 v0, stW G a1 z.2] → va_S A s.heap H locs → lv_has ls 7 [(0, .ref (a0 0)), (1, .ref (a1 0)), (2, .int p2), (3, .int p3), (4, .int p4), (5, .int p5), (6, .int z.1)] → (∀ (H : Heap) (locs : List Loc) (ls : Array Slot), gP G [rdW G a0 v0, stW G a1 e1.2] H → gD A [rdW G a0 v0, stW G a1 e1.2] → va_S A s.heap H locs → lv_has ls 7 [(0, .ref (a0 0)), (1, .ref (a1 0)), (2, .int p2), (3, .int p3), (4, .int p4), (5, .int p5), (6, .int e1.1)] → W p l e ({ frames := 2, cells := 0, slots := 0, locals := 43 } : Room) s m args below meth c H locs 0 0 Q (F0 m 119 ls [])) → W p l e ({ frames := 2, cells := 0, slots := 0, locals := 43 } : Room) s m args below meth c H locs 0 0 Q (F0 m 64 ls []) := by
  obtain ⟨hx, hb, hml, hown, hts, hr, hlocks⟩ := id S
  intro n
  induction n with
  | zero => intro z e1 h; cases h
  | succ n ih =>
    intro z e1 hlp H locs ls hP hD hS hl K
    obtain ⟨z9, hf, hz⟩ := lp_s hlp
    unfold b_X1_share_64 at hf
    refine lv_iload hx hb dX1_share_64 (lv_at hl 6 rfl) ?_
    refine lv_aload_n hx hb dX1_share_66 rfl (lv_at hl 1 rfl) ?_
    refine g_get (C := RX3) (T := TX3) (N := 17) hx hb hts iwX1_share_X3 hown hK hP 1 0 rfl rfl rfl 0 (Nat.le_of_ble_eq_true rfl) (hts _ kX1_share_0) (fun _ h9 => h9) rfl dX1_share_67 ?_
    refine lv_icmp_ge (tgt := 119) hx hb dX1_share_70 (by decide) (fun c12 => ?_) (fun c12 => ?_)
    · rw [if_pos c12] at hf
      have he := lz_r hf hz
      subst he
      exact K H locs ls hP hD hS (lv_sub hl [0, 1, 2, 3, 4, 5, 6] rfl)
    · rw [if_neg c12] at hf
      refine lv_iload hx hb dX1_share_73 (lv_at hl 6 rfl) ?_
      refine lv_iload_n hx hb dX1_share_75 rfl (lv_at hl 2 rfl) ?_
      refine lv_icmp_eq (tgt := 113) hx hb dX1_share_76 (by decide) (fun c13 => ?_) (fun c13 => ?_)
      · rw [if_pos c13] at hf
        obtain ⟨x14, ex14, hf⟩ := lt_some hf
        refine lv_iinc (v := x14) (lv' := [(6, .int x14), (0, .ref (a0 0)), (1, .ref (a1 0)), (2, .int p2), (3, .int p3), (4, .int p4), (5, .int p5)]) hx hb dX1_share_113 hl (k := 6) rfl (by rw [ex14]; rfl) (by decide) rfl (fun ls hl => ?_)
        refine lv_goto (tgt := 64) hx hb dX1_share_116 (by decide) ?_
        exact ih _ e1 (lz_l hf hz) H locs ls hP hD hS (lv_sub hl [1, 2, 3, 4, 5, 6, 0] rfl) K
      · rw [if_neg c13] at hf
        refine lv_aload_n hx hb dX1_share_79 rfl (lv_at hl 0 rfl) ?_
        refine lv_aload_n hx hb dX1_share_80 rfl (lv_at hl 1 rfl) ?_
        refine lv_iload hx hb dX1_share_81 (lv_at hl 6 rfl) ?_
        obtain ⟨q15, hq15, hf⟩ := bd_some hf
        refine g_callVi S (As := [.ref (a1 0), .int z.1]) (gs' := [rdW G a0 v0, stW G a1 z.2]) (c_X1_takesPart l G a0 a1 v0 z.2 z.1 hq15) (cwV 2 hts gX1_share_X1_takesPart rfl rfl rfl hd_X1_takesPart ⟨Nat.le_of_ble_eq_true rfl, Nat.le_of_ble_eq_true rfl⟩) hK hP hD hS hA (is := [0, 1]) rfl rfl 0 rfl rfl rfl rfl hl.1 rfl (Nat.le_of_ble_eq_true rfl) dX1_share_83 ⟨Nat.le_of_ble_eq_true rfl, Nat.le_of_ble_eq_true rfl⟩ rfl (fun H locs hP hD hS => ?_)
        refine lv_if_eq (tgt := 113) hx hb dX1_share_86 (by decide) (fun c16 => ?_) (fun c16 => ?_)
        · rw [if_pos c16] at hf
          obtain ⟨x17, ex17, hf⟩ := lt_some hf
          refine lv_iinc (v := x17) (lv' := [(6, .int x17), (0, .ref (a0 0)), (1, .ref (a1 0)), (2, .int p2), (3, .int p3), (4, .int p4), (5, .int p5)]) hx hb dX1_share_113 hl (k := 6) rfl (by rw [ex17]; rfl) (by decide) rfl (fun ls hl => ?_)
          refine lv_goto (tgt := 64) hx hb dX1_share_116 (by decide) ?_
          exact ih _ e1 (lz_l hf hz) H locs ls hP hD hS (lv_sub hl [1, 2, 3, 4, 5, 6, 0] rfl) K
        · rw [if_neg c16] at hf
          refine lv_aload_n hx hb dX1_share_89 rfl (lv_at hl 1 rfl) ?_
          refine g_get (C := RX3) (T := TX3) (N := 17) hx hb hts iwX1_share_X3 hown hK hP 1 0 rfl rfl rfl 5 (Nat.le_of_ble_eq_true rfl) (hts _ kX1_share_1) (fun _ h9 => h9) rfl dX1_share_90 ?_
          refine lv_iload hx hb dX1_share_93 (lv_at hl 6 rfl) ?_
          refine lv_dup2_11 hx hb dX1_share_95 rfl rfl ?_
          obtain ⟨h18, hf⟩ := gi_some hf
          refine g_iald hx hb hK hP 1 1 0 rfl rfl rfl h18 dX1_share_96 ?_
          refine lv_iload hx hb dX1_share_97 (lv_at hl 5 rfl) ?_
          refine lv_iadd hx hb dX1_share_99 ?_
          obtain ⟨h19, hf⟩ := gi_some hf
          obtain ⟨u20, eu20, hf⟩ := lt_some hf
          refine g_iast (gs' := [rdW G a0 v0, stW G a1 u20]) hx hb hK hP hD hS 1 1 0 rfl rfl rfl h19 dX1_share_100 (by rw [eu20]; rfl) (fun H locs hP hD hS => ?_)
          refine lv_aload_n hx hb dX1_share_101 rfl (lv_at hl 1 rfl) ?_
          refine g_get (C := RX3) (T := TX3) (N := 17) hx hb hts iwX1_share_X3 hown hK hP 1 0 rfl rfl rfl 14 (Nat.le_of_ble_eq_true rfl) (hts _ kX1_share_2) (fun _ h9 => h9) rfl dX1_share_102 ?_
          refine lv_iload hx hb dX1_share_105 (lv_at hl 6 rfl) ?_
          refine lv_dup2_11 hx hb dX1_share_107 rfl rfl ?_
          obtain ⟨h21, hf⟩ := gi_some hf
          refine g_iald hx hb hK hP 1 10 0 rfl rfl rfl h21 dX1_share_108 ?_
          refine lv_iload hx hb dX1_share_109 (lv_at hl 5 rfl) ?_
          refine lv_iadd hx hb dX1_share_111 ?_
          obtain ⟨h22, hf⟩ := gi_some hf
          obtain ⟨u23, eu23, hf⟩ := lt_some hf
          refine g_iast (gs' := [rdW G a0 v0, stW G a1 u23]) hx hb hK hP hD hS 1 10 0 rfl rfl rfl h22 dX1_share_112 (by rw [eu23]; rfl) (fun H locs hP hD hS => ?_)
          obtain ⟨x24, ex24, hf⟩ := lt_some hf
          refine lv_iinc (v := x24) (lv' := [(6, .int x24), (0, .ref (a0 0)), (1, .ref (a1 0)), (2, .int p2), (3, .int p3), (4, .int p4), (5, .int p5)]) hx hb dX1_share_113 hl (k := 6) rfl (by rw [ex24]; rfl) (by decide) rfl (fun ls hl => ?_)
          refine lv_goto (tgt := 64) hx hb dX1_share_116 (by decide) ?_
          exact ih _ e1 (lz_l hf hz) H locs ls hP hD hS (lv_sub hl [1, 2, 3, 4, 5, 6, 0] rfl) K
set_option maxHeartbeats 4000000 in
set_option maxRecDepth 100000 in
theorem c_X1_share (l : Launch) (G : uG) (a0 : Nat → Nat) (a1 : Nat → Nat) (v0 : RdV) (v1 : StV) (i2 : Int32) {q : Unit × (StV)} (hf : f_X1_share v0 v1 i2 = some q) : mQ l yX1_share wsX1_share ({ frames := 2, cells := 0, slots := 0, locals := 43 } : Room) G [.ref (a0 0), .ref (a1 0), .int i2] [rdW G a0 v0, stW G a1 v1] [rdW G a0 v0, stW G a1 q.2] (qV G [rdW G a0 v0, stW G a1 q.2] q.1) := by
  unfold f_X1_share at hf
  refine m_of (cc := cX1_share) (maxL := 7) (ret := none) (by decide) rfl rfl (Nat.le_of_ble_eq_true rfl) ?_
  intro p e s m args below meth c A ls S hK hA hP hD hS hl
  obtain ⟨hx, hb, hml, hown, hts, hr, hlocks⟩ := id S
  have hl : lv_has ls 7 [(0, .ref (a0 0)), (1, .ref (a1 0)), (2, .int i2)] := hl
  refine lv_iconst (v := (0:Int32)) hx hb dX1_share_0 (by decide) ?_
  refine lv_istore_n (lv' := [(3, .int (0:Int32)), (0, .ref (a0 0)), (1, .ref (a1 0)), (2, .int i2)]) hx hb dX1_share_1 rfl hl (by decide) rfl (fun ls hl => ?_)
  refine lv_iconst (v := (0:Int32)) hx hb dX1_share_2 (by decide) ?_
  refine lv_istore (lv' := [(4, .int (0:Int32)), (3, .int (0:Int32)), (0, .ref (a0 0)), (1, .ref (a1 0)), (2, .int i2)]) hx hb dX1_share_3 hl (by decide) rfl (fun ls hl => ?_)
  obtain ⟨e9, he9, hf⟩ := bd_some hf
  refine w_X1_share_5 (Q := _) S hK hA G a0 a1 v0 v1 i2 FU _ e9 he9 _ _ _ hP hD hS (lv_sub hl [2, 3, 4, 1, 0] rfl) (fun H locs ls hP hD hS hl => ?_)
  refine lv_aload_n hx hb dX1_share_39 rfl (lv_at hl 0 rfl) ?_
  refine lv_aload_n hx hb dX1_share_40 rfl (lv_at hl 1 rfl) ?_
  refine lv_iload_n hx hb dX1_share_41 rfl (lv_at hl 2 rfl) ?_
  obtain ⟨q10, hq10, hf⟩ := bd_some hf
  refine g_callVi S (As := [.ref (a1 0), .int i2]) (gs' := [rdW G a0 v0, stW G a1 v1]) (c_X1_countedBid l G a0 a1 v0 v1 i2 hq10) (cwV 2 hts gX1_share_X1_countedBid rfl rfl rfl hd_X1_countedBid ⟨Nat.le_of_ble_eq_true rfl, Nat.le_of_ble_eq_true rfl⟩) hK hP hD hS hA (is := [0, 1]) rfl rfl 0 rfl rfl rfl rfl hl.1 rfl (Nat.le_of_ble_eq_true rfl) dX1_share_42 ⟨Nat.le_of_ble_eq_true rfl, Nat.le_of_ble_eq_true rfl⟩ rfl (fun H locs hP hD hS => ?_)
  refine lv_istore (lv' := [(4, .int q10.1), (0, .ref (a0 0)), (1, .ref (a1 0)), (2, .int i2), (3, .int e9.1)]) hx hb dX1_share_45 hl (by decide) rfl (fun ls hl => ?_)
  refine lv_iload_n hx hb dX1_share_47 rfl (lv_at hl 4 rfl) ?_
  refine lv_if_le (tgt := 58) hx hb dX1_share_48 (by decide) (fun c11 => ?_) (fun c11 => ?_)
  · rw [if_pos c11] at hf
    refine lv_iconst (v := (0:Int32)) hx hb dX1_share_58 (by decide) ?_
    refine lv_istore (lv' := [(5, .int (0:Int32)), (4, .int q10.1), (0, .ref (a0 0)), (1, .ref (a1 0)), (2, .int i2), (3, .int e9.1)]) hx hb dX1_share_59 hl (by decide) rfl (fun ls hl => ?_)
    refine lv_iconst (v := (0:Int32)) hx hb dX1_share_61 (by decide) ?_
    refine lv_istore (lv' := [(6, .int (0:Int32)), (5, .int (0:Int32)), (4, .int q10.1), (0, .ref (a0 0)), (1, .ref (a1 0)), (2, .int i2), (3, .int e9.1)]) hx hb dX1_share_62 hl (by decide) rfl (fun ls hl => ?_)
    obtain ⟨e25, he25, hf⟩ := bd_some hf
    refine w_X1_share_64 (Q := _) S hK hA G a0 a1 v0 i2 e9.1 q10.1 (0:Int32) FU _ e25 he25 _ _ _ hP hD hS (lv_sub hl [3, 4, 5, 6, 2, 1, 0] rfl) (fun H locs ls hP hD hS hl => ?_)
    refine lv_aload_n hx hb dX1_share_119 rfl (lv_at hl 1 rfl) ?_
    refine lv_dup hx hb dX1_share_120 rfl ?_
    refine g_get (C := RX3) (T := TX3) (N := 17) hx hb hts iwX1_share_X3 hown hK hP 1 0 rfl rfl rfl 3 (Nat.le_of_ble_eq_true rfl) (hts _ kX1_share_3) (fun _ h9 => h9) rfl dX1_share_121 ?_
    refine lv_iload hx hb dX1_share_124 (lv_at hl 4 rfl) ?_
    refine lv_iload hx hb dX1_share_126 (lv_at hl 5 rfl) ?_
    refine lv_iload_n hx hb dX1_share_128 rfl (lv_at hl 3 rfl) ?_
    refine lv_imul hx hb dX1_share_129 ?_
    refine lv_isub hx hb dX1_share_130 ?_
    refine lv_iadd hx hb dX1_share_131 ?_
    obtain ⟨x26, ex26, hf⟩ := lt_some hf
    refine lv_nmi ex26 ?_
    obtain ⟨u27, eu27, hf⟩ := lt_some hf
    refine g_put (ty := .int) (C := RX3) (T := TX3) (N := 17) (gs' := [rdW G a0 v0, stW G a1 u27]) hx hb hts iwX1_share_X3 tyX3 tyX3_ok nmX3 hown hK hP hD hS 1 0 rfl rfl rfl 3 (Nat.le_of_ble_eq_true rfl) (hts _ kX1_share_3) (fun _ h9 => h9) rfl (by decide +kernel) rfl rfl (Nat.le_of_ble_eq_true rfl) dX1_share_132 (by rw [eu27]; rfl) (fun H locs hP hD hS => ?_)
    cases hf
    exact g_vret hx hb hr hlocks hP hS dX1_share_135
  · rw [if_neg c11] at hf
    refine lv_iload hx hb dX1_share_51 (lv_at hl 0 rfl) ?_
    refine lv_iload_n hx hb dX1_share_53 rfl (lv_at hl 4 rfl) ?_
    obtain ⟨h28, hf⟩ := gz_some hf
    refine lv_idiv hx hb dX1_share_54 h28 ?_
    refine lv_goto (tgt := 59) hx hb dX1_share_55 (by decide) ?_
    obtain ⟨x29, ex29, hf⟩ := lt_some hf
    refine lv_nmi ex29 ?_
    refine lv_istore (lv' := [(5, .int x29), (4, .int q10.1), (0, .ref (a0 0)), (1, .ref (a1 0)), (2, .int i2), (3, .int e9.1)]) hx hb dX1_share_59 hl (by decide) rfl (fun ls hl => ?_)
    refine lv_iconst (v := (0:Int32)) hx hb dX1_share_61 (by decide) ?_
    refine lv_istore (lv' := [(6, .int (0:Int32)), (5, .int x29), (4, .int q10.1), (0, .ref (a0 0)), (1, .ref (a1 0)), (2, .int i2), (3, .int e9.1)]) hx hb dX1_share_62 hl (by decide) rfl (fun ls hl => ?_)
    obtain ⟨e30, he30, hf⟩ := bd_some hf
    refine w_X1_share_64 (Q := _) S hK hA G a0 a1 v0 i2 e9.1 q10.1 x29 FU _ e30 he30 _ _ _ hP hD hS (lv_sub hl [3, 4, 5, 6, 2, 1, 0] rfl) (fun H locs ls hP hD hS hl => ?_)
    refine lv_aload_n hx hb dX1_share_119 rfl (lv_at hl 1 rfl) ?_
    refine lv_dup hx hb dX1_share_120 rfl ?_
    refine g_get (C := RX3) (T := TX3) (N := 17) hx hb hts iwX1_share_X3 hown hK hP 1 0 rfl rfl rfl 3 (Nat.le_of_ble_eq_true rfl) (hts _ kX1_share_3) (fun _ h9 => h9) rfl dX1_share_121 ?_
    refine lv_iload hx hb dX1_share_124 (lv_at hl 4 rfl) ?_
    refine lv_iload hx hb dX1_share_126 (lv_at hl 5 rfl) ?_
    refine lv_iload_n hx hb dX1_share_128 rfl (lv_at hl 3 rfl) ?_
    refine lv_imul hx hb dX1_share_129 ?_
    refine lv_isub hx hb dX1_share_130 ?_
    refine lv_iadd hx hb dX1_share_131 ?_
    obtain ⟨u31, eu31, hf⟩ := lt_some hf
    refine g_put (ty := .int) (C := RX3) (T := TX3) (N := 17) (gs' := [rdW G a0 v0, stW G a1 u31]) hx hb hts iwX1_share_X3 tyX3 tyX3_ok nmX3 hown hK hP hD hS 1 0 rfl rfl rfl 3 (Nat.le_of_ble_eq_true rfl) (hts _ kX1_share_3) (fun _ h9 => h9) rfl (by decide +kernel) rfl rfl (Nat.le_of_ble_eq_true rfl) dX1_share_132 (by rw [eu31]; rfl) (fun H locs hP hD hS => ?_)
    cases hf
    exact g_vret hx hb hr hlocks hP hS dX1_share_135
theorem kX1_payOut_0 : Cond.fieldLink RX1 33 "SavingsCircle$Round" "pence" "I" ∈ wsX1_payOut := (List.mem_cons_of_mem _ (List.mem_append_left _ (List.mem_append_left _ (List.mem_append_left _ (List.mem_of_getElem? (i := 0) rfl)))))
theorem kX1_payOut_1 : Cond.fieldLink RX1 116 "SavingsCircle$State" "gotOfPot" "[I" ∈ wsX1_payOut := (List.mem_cons_of_mem _ (List.mem_append_left _ (List.mem_append_left _ (List.mem_append_left _ (List.mem_of_getElem? (i := 1) rfl)))))
theorem kX1_payOut_2 : Cond.fieldLink RX1 95 "SavingsCircle$State" "taken" "[Z" ∈ wsX1_payOut := (List.mem_cons_of_mem _ (List.mem_append_left _ (List.mem_append_left _ (List.mem_append_left _ (List.mem_of_getElem? (i := 2) rfl)))))
theorem kX1_payOut_3 : Cond.fieldLink RX1 43 "SavingsCircle$State" "count" "I" ∈ wsX1_payOut := (List.mem_cons_of_mem _ (List.mem_append_left _ (List.mem_append_left _ (List.mem_append_left _ (List.mem_of_getElem? (i := 3) rfl)))))
theorem kX1_payOut_4 : Cond.fieldLink RX1 59 "SavingsCircle$State" "purse" "[I" ∈ wsX1_payOut := (List.mem_cons_of_mem _ (List.mem_append_left _ (List.mem_append_left _ (List.mem_append_left _ (List.mem_of_getElem? (i := 4) rfl)))))
theorem iwX1_payOut_X1 : ∀ w ∈ wsX10, w ∈ wsX1_payOut := fun w h => (List.mem_cons_of_mem _ (List.mem_append_left _ (List.mem_append_right _ h)))
theorem iwX1_payOut_X3 : ∀ w ∈ wsX30, w ∈ wsX1_payOut := fun w h => (List.mem_cons_of_mem _ (List.mem_append_right _ h))
set_option maxHeartbeats 4000000 in
set_option maxRecDepth 100000 in
theorem w_X1_payOut_29 {p : Program} {l : Launch} {e : Env} {s : State} {m : MethodId} {args : Array Value} {below : List Frame} {meth : Method} {c : Code} {A : Nat → Prop} {Q : State → Prop} (S : Ev p s m args meth c cX1_payOut 5 none yX1_payOut.cls wsX1_payOut) {G : uG} (hK : kK G s) (hA : ∀ q, s.heap.size ≤ q → A q) (_ : uG) (a0 : Nat → Nat) (a1 : Nat → Nat) (v0 : RdV) (p2 : Int32) : ∀ (n : Nat) (z : (Int32 × Int32 × StV)) (e1 : (Int32 × Int32 × StV)), lp (b_X1_payOut_29 v0 p2) n z = some e1 → ∀ (H : Heap) (locs : List Loc) (ls : Array Slot), gP G [rdW G a0 v0, stW G a1 z.2.2] H → gD A [rdW G a0 v0, stW G a1 z.2.2] → va_S A s.heap H locs → lv_has ls 5 [(1, .ref (a1 0)), (2, .int p2), (3, .int z.1), (4, .int z.2.1)] → (∀ (H : Heap) (locs : List Loc) (ls : Array Slot), gP G [rdW G a0 v0, stW G a1 e1.2.2] H → gD A [rdW G a0 v0, stW G a1 e1.2.2] → va_S A s.heap H locs → lv_has ls 5 [(1, .ref (a1 0)), (2, .int p2), (3, .int e1.1), (4, .int e1.2.1)] → W p l e ({ frames := 2, cells := 0, slots := 0, locals := 46 } : Room) s m args below meth c H locs 0 0 Q (F0 m 55 ls [])) → W p l e ({ frames := 2, cells := 0, slots := 0, locals := 46 } : Room) s m args below meth c H locs 0 0 Q (F0 m 29 ls []) := by
  obtain ⟨hx, hb, hml, hown, hts, hr, hlocks⟩ := id S
  intro n
  induction n with
  | zero => intro z e1 h; cases h
  | succ n ih =>
    intro z e1 hlp H locs ls hP hD hS hl K
    obtain ⟨z9, hf, hz⟩ := lp_s hlp
    unfold b_X1_payOut_29 at hf
    refine lv_iload hx hb dX1_payOut_29 (lv_at hl 3 rfl) ?_
    refine lv_aload_n hx hb dX1_payOut_31 rfl (lv_at hl 0 rfl) ?_
    refine g_get (C := RX3) (T := TX3) (N := 17) hx hb hts iwX1_payOut_X3 hown hK hP 1 0 rfl rfl rfl 0 (Nat.le_of_ble_eq_true rfl) (hts _ kX1_payOut_3) (fun _ h9 => h9) rfl dX1_payOut_32 ?_
    refine lv_icmp_ge (tgt := 55) hx hb dX1_payOut_35 (by decide) (fun c7 => ?_) (fun c7 => ?_)
    · rw [if_pos c7] at hf
      have he := lz_r hf hz
      subst he
      exact K H locs ls hP hD hS (lv_sub hl [0, 1, 2, 3] rfl)
    · rw [if_neg c7] at hf
      refine lv_iload_n hx hb dX1_payOut_38 rfl (lv_at hl 2 rfl) ?_
      refine lv_aload_n hx hb dX1_payOut_39 rfl (lv_at hl 0 rfl) ?_
      refine lv_iload_n hx hb dX1_payOut_40 rfl (lv_at hl 1 rfl) ?_
      refine lv_iload hx hb dX1_payOut_41 (lv_at hl 3 rfl) ?_
      refine lv_iload_n hx hb dX1_payOut_43 rfl (lv_at hl 2 rfl) ?_
      obtain ⟨q8, hq8, hf⟩ := bd_some hf
      refine g_callVi S (As := [.int p2, .int z.2.1, .int z.1]) (gs' := [rdW G a0 v0, stW G a1 q8.2]) (c_X3_settle l G a1 z.2.2 p2 z.2.1 z.1 hq8) (cwV 3 hts gX1_payOut_X3_settle rfl rfl rfl hd_X3_settle ⟨Nat.le_of_ble_eq_true rfl, Nat.le_of_ble_eq_true rfl⟩) hK hP hD hS hA (is := [1]) rfl rfl 1 rfl rfl rfl rfl hl.1 rfl (Nat.le_of_ble_eq_true rfl) dX1_payOut_44 ⟨Nat.le_of_ble_eq_true rfl, Nat.le_of_ble_eq_true rfl⟩ rfl (fun H locs hP hD hS => ?_)
      refine lv_isub hx hb dX1_payOut_47 ?_
      obtain ⟨x9, ex9, hf⟩ := lt_some hf
      refine lv_nmi ex9 ?_
      refine lv_istore_n (lv' := [(3, .int x9), (1, .ref (a1 0)), (2, .int p2), (4, .int z.2.1)]) hx hb dX1_payOut_48 rfl hl (by decide) rfl (fun ls hl => ?_)
      obtain ⟨x10, ex10, hf⟩ := lt_some hf
      refine lv_iinc (v := x10) (lv' := [(4, .int x10), (3, .int x9), (1, .ref (a1 0)), (2, .int p2)]) hx hb dX1_payOut_49 hl (k := 3) rfl (by rw [ex10]; rfl) (by decide) rfl (fun ls hl => ?_)
      refine lv_goto (tgt := 29) hx hb dX1_payOut_52 (by decide) ?_
      exact ih _ e1 (lz_l hf hz) H locs ls hP hD hS (lv_sub hl [2, 3, 1, 0] rfl) K
set_option maxHeartbeats 4000000 in
set_option maxRecDepth 100000 in
theorem c_X1_payOut (l : Launch) (G : uG) (a0 : Nat → Nat) (a1 : Nat → Nat) (v0 : RdV) (v1 : StV) (i2 : Int32) {q : Unit × (StV)} (hf : f_X1_payOut v0 v1 i2 = some q) : mQ l yX1_payOut wsX1_payOut ({ frames := 2, cells := 0, slots := 0, locals := 46 } : Room) G [.ref (a0 0), .ref (a1 0), .int i2] [rdW G a0 v0, stW G a1 v1] [rdW G a0 v0, stW G a1 q.2] (qV G [rdW G a0 v0, stW G a1 q.2] q.1) := by
  unfold f_X1_payOut at hf
  refine m_of (cc := cX1_payOut) (maxL := 5) (ret := none) (by decide) rfl rfl (Nat.le_of_ble_eq_true rfl) ?_
  intro p e s m args below meth c A ls S hK hA hP hD hS hl
  obtain ⟨hx, hb, hml, hown, hts, hr, hlocks⟩ := id S
  have hl : lv_has ls 5 [(0, .ref (a0 0)), (1, .ref (a1 0)), (2, .int i2)] := hl
  refine lv_aload_n hx hb dX1_payOut_0 rfl (lv_at hl 0 rfl) ?_
  refine g_get (C := RX1) (T := TX1) (N := 3) hx hb hts iwX1_payOut_X1 hown hK hP 0 0 rfl rfl rfl 2 (Nat.le_of_ble_eq_true rfl) (hts _ kX1_payOut_0) (fun _ h9 => h9) rfl dX1_payOut_1 ?_
  refine lv_aload_n hx hb dX1_payOut_4 rfl (lv_at hl 0 rfl) ?_
  refine lv_aload_n hx hb dX1_payOut_5 rfl (lv_at hl 1 rfl) ?_
  refine lv_iload_n hx hb dX1_payOut_6 rfl (lv_at hl 2 rfl) ?_
  obtain ⟨q1, hq1, hf⟩ := bd_some hf
  refine g_callVi S (As := [.ref (a1 0), .int i2]) (gs' := [rdW G a0 v0, stW G a1 v1]) (c_X1_countedBid l G a0 a1 v0 v1 i2 hq1) (cwV 2 hts gX1_payOut_X1_countedBid rfl rfl rfl hd_X1_countedBid ⟨Nat.le_of_ble_eq_true rfl, Nat.le_of_ble_eq_true rfl⟩) hK hP hD hS hA (is := [0, 1]) rfl rfl 0 rfl rfl rfl rfl hl.1 rfl (Nat.le_of_ble_eq_true rfl) dX1_payOut_7 ⟨Nat.le_of_ble_eq_true rfl, Nat.le_of_ble_eq_true rfl⟩ rfl (fun H locs hP hD hS => ?_)
  refine lv_isub hx hb dX1_payOut_10 ?_
  obtain ⟨x2, ex2, hf⟩ := lt_some hf
  refine lv_nmi ex2 ?_
  refine lv_istore_n (lv' := [(3, .int x2), (0, .ref (a0 0)), (1, .ref (a1 0)), (2, .int i2)]) hx hb dX1_payOut_11 rfl hl (by decide) rfl (fun ls hl => ?_)
  refine lv_aload_n hx hb dX1_payOut_12 rfl (lv_at hl 2 rfl) ?_
  refine g_get (C := RX3) (T := TX3) (N := 17) hx hb hts iwX1_payOut_X3 hown hK hP 1 0 rfl rfl rfl 13 (Nat.le_of_ble_eq_true rfl) (hts _ kX1_payOut_1) (fun _ h9 => h9) rfl dX1_payOut_13 ?_
  refine lv_iload_n hx hb dX1_payOut_16 rfl (lv_at hl 3 rfl) ?_
  refine lv_iload_n hx hb dX1_payOut_17 rfl (lv_at hl 0 rfl) ?_
  obtain ⟨h3, hf⟩ := gi_some hf
  obtain ⟨u4, eu4, hf⟩ := lt_some hf
  refine g_iast (gs' := [rdW G a0 v0, stW G a1 u4]) hx hb hK hP hD hS 1 9 0 rfl rfl rfl h3 dX1_payOut_18 (by rw [eu4]; rfl) (fun H locs hP hD hS => ?_)
  refine lv_aload_n hx hb dX1_payOut_19 rfl (lv_at hl 2 rfl) ?_
  refine g_get (C := RX3) (T := TX3) (N := 17) hx hb hts iwX1_payOut_X3 hown hK hP 1 0 rfl rfl rfl 9 (Nat.le_of_ble_eq_true rfl) (hts _ kX1_payOut_2) (fun _ h9 => h9) rfl dX1_payOut_20 ?_
  refine lv_iload_n hx hb dX1_payOut_23 rfl (lv_at hl 3 rfl) ?_
  refine lv_iconst (v := (1:Int32)) hx hb dX1_payOut_24 (by decide) ?_
  obtain ⟨h5, hf⟩ := gi_some hf
  obtain ⟨u6, eu6, hf⟩ := lt_some hf
  refine g_zast (gs' := [rdW G a0 v0, stW G a1 u6]) hx hb hK hP hD hS 1 5 1 rfl rfl rfl h5 dX1_payOut_25 (by rw [eu6]; rfl) (fun H locs hP hD hS => ?_)
  refine lv_iconst (v := (0:Int32)) hx hb dX1_payOut_26 (by decide) ?_
  refine lv_istore (lv' := [(4, .int (0:Int32)), (3, .int x2), (0, .ref (a0 0)), (1, .ref (a1 0)), (2, .int i2)]) hx hb dX1_payOut_27 hl (by decide) rfl (fun ls hl => ?_)
  obtain ⟨e11, he11, hf⟩ := bd_some hf
  refine w_X1_payOut_29 (Q := _) S hK hA G a0 a1 v0 i2 FU _ e11 he11 _ _ _ hP hD hS (lv_sub hl [3, 4, 1, 0] rfl) (fun H locs ls hP hD hS hl => ?_)
  refine lv_aload_n hx hb dX1_payOut_55 rfl (lv_at hl 0 rfl) ?_
  refine g_get (C := RX3) (T := TX3) (N := 17) hx hb hts iwX1_payOut_X3 hown hK hP 1 0 rfl rfl rfl 5 (Nat.le_of_ble_eq_true rfl) (hts _ kX1_payOut_4) (fun _ h9 => h9) rfl dX1_payOut_56 ?_
  refine lv_iload_n hx hb dX1_payOut_59 rfl (lv_at hl 1 rfl) ?_
  refine lv_dup2_11 hx hb dX1_payOut_60 rfl rfl ?_
  obtain ⟨h12, hf⟩ := gi_some hf
  refine g_iald hx hb hK hP 1 1 0 rfl rfl rfl h12 dX1_payOut_61 ?_
  refine lv_iload_n hx hb dX1_payOut_62 rfl (lv_at hl 2 rfl) ?_
  refine lv_iadd hx hb dX1_payOut_63 ?_
  obtain ⟨h13, hf⟩ := gi_some hf
  obtain ⟨u14, eu14, hf⟩ := lt_some hf
  refine g_iast (gs' := [rdW G a0 v0, stW G a1 u14]) hx hb hK hP hD hS 1 1 0 rfl rfl rfl h13 dX1_payOut_64 (by rw [eu14]; rfl) (fun H locs hP hD hS => ?_)
  cases hf
  exact g_vret hx hb hr hlocks hP hS dX1_payOut_65
theorem kX1_pass_0 : Cond.constant RX1 26 (-99999) ∈ wsX1_pass := (List.mem_cons_of_mem _ (List.mem_append_left _ (List.mem_append_left _ (List.mem_append_left _ (List.mem_of_getElem? (i := 0) rfl)))))
theorem kX1_pass_1 : Cond.fieldLink RX1 43 "SavingsCircle$State" "count" "I" ∈ wsX1_pass := (List.mem_cons_of_mem _ (List.mem_append_left _ (List.mem_append_left _ (List.mem_append_left _ (List.mem_of_getElem? (i := 3) rfl)))))
theorem kX1_pass_2 : Cond.fieldLink RX1 46 "SavingsCircle$State" "bid" "[I" ∈ wsX1_pass := (List.mem_cons_of_mem _ (List.mem_append_left _ (List.mem_append_left _ (List.mem_append_left _ (List.mem_of_getElem? (i := 4) rfl)))))
theorem kX1_pass_3 : Cond.fieldLink RX1 50 "SavingsCircle$State" "away" "[Z" ∈ wsX1_pass := (List.mem_cons_of_mem _ (List.mem_append_left _ (List.mem_append_left _ (List.mem_append_left _ (List.mem_of_getElem? (i := 5) rfl)))))
theorem kX1_pass_4 : Cond.fieldLink RX1 53 "SavingsCircle$State" "month" "I" ∈ wsX1_pass := (List.mem_cons_of_mem _ (List.mem_append_left _ (List.mem_append_left _ (List.mem_append_left _ (List.mem_of_getElem? (i := 6) rfl)))))
theorem kX1_pass_5 : Cond.fieldLink RX1 27 "SavingsCircle$State" "box" "I" ∈ wsX1_pass := (List.mem_cons_of_mem _ (List.mem_append_left _ (List.mem_append_left _ (List.mem_append_left _ (List.mem_of_getElem? (i := 1) rfl)))))
theorem kX1_pass_6 : Cond.fieldLink RX1 33 "SavingsCircle$Round" "pence" "I" ∈ wsX1_pass := (List.mem_cons_of_mem _ (List.mem_append_left _ (List.mem_append_left _ (List.mem_append_left _ (List.mem_of_getElem? (i := 2) rfl)))))
theorem iwX1_pass_X3 : ∀ w ∈ wsX30, w ∈ wsX1_pass := fun w h => (List.mem_cons_of_mem _ (List.mem_append_left _ (List.mem_append_right _ h)))
theorem iwX1_pass_X1 : ∀ w ∈ wsX10, w ∈ wsX1_pass := fun w h => (List.mem_cons_of_mem _ (List.mem_append_right _ h))
set_option maxHeartbeats 4000000 in
set_option maxRecDepth 100000 in
theorem w_X1_pass_47 {p : Program} {l : Launch} {e : Env} {s : State} {m : MethodId} {args : Array Value} {below : List Frame} {meth : Method} {c : Code} {A : Nat → Prop} {Q : State → Prop} (S : Ev p s m args meth c cX1_pass 4 (some .int) yX1_pass.cls wsX1_pass) {G : uG} (hK : kK G s) (hA : ∀ q, s.heap.size ≤ q → A q) (_ : uG) (a0 : Nat → Nat) (a1 : Nat → Nat) (v0 : RdV) (p2 : Int32) : ∀ (n : Nat) (z : (Int32 × StV)) (e1 : (Int32 × StV)), lp (b_X1_pass_47 v0 p2) n z = some e1 → ∀ (H : Heap) (locs : List Loc) (ls : Array Slot), gP G [rdW G a0 v0, stW G a1 z.2] H → gD A [rdW G a0 v0, stW G a1 z.2] → va_S A s.heap H locs → lv_has ls 4 [(1, .ref (a1 0)), (2, .int p2), (3, .int z.1)] → (∀ (H : Heap) (locs : List Loc) (ls : Array Slot), gP G [rdW G a0 v0, stW G a1 e1.2] H → gD A [rdW G a0 v0, stW G a1 e1.2] → va_S A s.heap H locs → lv_has ls 4 [(1, .ref (a1 0)), (2, .int p2), (3, .int e1.1)] → W p l e ({ frames := 3, cells := 0, slots := 0, locals := 70 } : Room) s m args below meth c H locs 0 0 Q (F0 m 75 ls [])) → W p l e ({ frames := 3, cells := 0, slots := 0, locals := 70 } : Room) s m args below meth c H locs 0 0 Q (F0 m 47 ls []) := by
  obtain ⟨hx, hb, hml, hown, hts, hr, hlocks⟩ := id S
  intro n
  induction n with
  | zero => intro z e1 h; cases h
  | succ n ih =>
    intro z e1 hlp H locs ls hP hD hS hl K
    obtain ⟨z9, hf, hz⟩ := lp_s hlp
    unfold b_X1_pass_47 at hf
    refine lv_iload_n hx hb dX1_pass_47 rfl (lv_at hl 2 rfl) ?_
    refine lv_aload_n hx hb dX1_pass_48 rfl (lv_at hl 0 rfl) ?_
    refine g_get (C := RX3) (T := TX3) (N := 17) hx hb hts iwX1_pass_X3 hown hK hP 1 0 rfl rfl rfl 0 (Nat.le_of_ble_eq_true rfl) (hts _ kX1_pass_1) (fun _ h9 => h9) rfl dX1_pass_49 ?_
    refine lv_icmp_ge (tgt := 75) hx hb dX1_pass_52 (by decide) (fun c6 => ?_) (fun c6 => ?_)
    · rw [if_pos c6] at hf
      have he := lz_r hf hz
      subst he
      exact K H locs ls hP hD hS (lv_sub hl [0, 1, 2] rfl)
    · rw [if_neg c6] at hf
      refine lv_aload_n hx hb dX1_pass_55 rfl (lv_at hl 0 rfl) ?_
      refine g_get (C := RX3) (T := TX3) (N := 17) hx hb hts iwX1_pass_X3 hown hK hP 1 0 rfl rfl rfl 7 (Nat.le_of_ble_eq_true rfl) (hts _ kX1_pass_2) (fun _ h9 => h9) rfl dX1_pass_56 ?_
      refine lv_iload_n hx hb dX1_pass_59 rfl (lv_at hl 2 rfl) ?_
      refine lv_iconst (v := (0:Int32)) hx hb dX1_pass_60 (by decide) ?_
      obtain ⟨h7, hf⟩ := gi_some hf
      obtain ⟨u8, eu8, hf⟩ := lt_some hf
      refine g_iast (gs' := [rdW G a0 v0, stW G a1 u8]) hx hb hK hP hD hS 1 3 0 rfl rfl rfl h7 dX1_pass_61 (by rw [eu8]; rfl) (fun H locs hP hD hS => ?_)
      refine lv_aload_n hx hb dX1_pass_62 rfl (lv_at hl 0 rfl) ?_
      refine g_get (C := RX3) (T := TX3) (N := 17) hx hb hts iwX1_pass_X3 hown hK hP 1 0 rfl rfl rfl 8 (Nat.le_of_ble_eq_true rfl) (hts _ kX1_pass_3) (fun _ h9 => h9) rfl dX1_pass_63 ?_
      refine lv_iload_n hx hb dX1_pass_66 rfl (lv_at hl 2 rfl) ?_
      refine lv_iconst (v := (0:Int32)) hx hb dX1_pass_67 (by decide) ?_
      obtain ⟨h9, hf⟩ := gi_some hf
      obtain ⟨u10, eu10, hf⟩ := lt_some hf
      refine g_zast (gs' := [rdW G a0 v0, stW G a1 u10]) hx hb hK hP hD hS 1 4 1 rfl rfl rfl h9 dX1_pass_68 (by rw [eu10]; rfl) (fun H locs hP hD hS => ?_)
      obtain ⟨x11, ex11, hf⟩ := lt_some hf
      refine lv_iinc (v := x11) (lv' := [(3, .int x11), (1, .ref (a1 0)), (2, .int p2)]) hx hb dX1_pass_69 hl (k := 2) rfl (by rw [ex11]; rfl) (by decide) rfl (fun ls hl => ?_)
      refine lv_goto (tgt := 47) hx hb dX1_pass_72 (by decide) ?_
      exact ih _ e1 (lz_l hf hz) H locs ls hP hD hS (lv_sub hl [1, 2, 0] rfl) K
set_option maxHeartbeats 4000000 in
set_option maxRecDepth 100000 in
theorem c_X1_pass (l : Launch) (G : uG) (a0 : Nat → Nat) (a1 : Nat → Nat) (v0 : RdV) (v1 : StV) {q : Int32 × (RdV × StV)} (hf : f_X1_pass v0 v1 = some q) : mQ l yX1_pass wsX1_pass ({ frames := 3, cells := 0, slots := 0, locals := 70 } : Room) G [.ref (a0 0), .ref (a1 0)] [rdW G a0 v0, stW G a1 v1] [rdW G a0 q.2.1, stW G a1 q.2.2] (qI G [rdW G a0 q.2.1, stW G a1 q.2.2] q.1) := by
  unfold f_X1_pass at hf
  refine m_of (cc := cX1_pass) (maxL := 4) (ret := (some .int)) (by decide) rfl rfl (Nat.le_of_ble_eq_true rfl) ?_
  intro p e s m args below meth c A ls S hK hA hP hD hS hl
  obtain ⟨hx, hb, hml, hown, hts, hr, hlocks⟩ := id S
  have hl : lv_has ls 4 [(0, .ref (a0 0)), (1, .ref (a1 0))] := hl
  refine lv_aload_n hx hb dX1_pass_0 rfl (lv_at hl 0 rfl) ?_
  refine lv_aload_n hx hb dX1_pass_1 rfl (lv_at hl 1 rfl) ?_
  obtain ⟨q1, hq1, hf⟩ := bd_some hf
  refine g_callVv S (As := [.ref (a1 0)]) (gs' := [rdW G a0 q1.2.1, stW G a1 q1.2.2]) (c_X1_payIn l G a0 a1 v0 v1 hq1) (cwV 1 hts gX1_pass_X1_payIn rfl rfl rfl hd_X1_payIn ⟨Nat.le_of_ble_eq_true rfl, Nat.le_of_ble_eq_true rfl⟩) hK hP hD hS hA (is := [0, 1]) rfl rfl 0 rfl rfl rfl rfl hl.1 rfl (Nat.le_of_ble_eq_true rfl) dX1_pass_2 ⟨Nat.le_of_ble_eq_true rfl, Nat.le_of_ble_eq_true rfl⟩ rfl (fun H locs hP hD hS => ?_)
  refine lv_aload_n hx hb dX1_pass_5 rfl (lv_at hl 0 rfl) ?_
  refine lv_aload_n hx hb dX1_pass_6 rfl (lv_at hl 1 rfl) ?_
  obtain ⟨q2, hq2, hf⟩ := bd_some hf
  refine g_callVi S (As := [.ref (a1 0)]) (gs' := [rdW G a0 q1.2.1, stW G a1 q1.2.2]) (c_X1_taker l G a0 a1 q1.2.1 q1.2.2 hq2) (cwV 1 hts gX1_pass_X1_taker rfl rfl rfl hd_X1_taker ⟨Nat.le_of_ble_eq_true rfl, Nat.le_of_ble_eq_true rfl⟩) hK hP hD hS hA (is := [0, 1]) rfl rfl 0 rfl rfl rfl rfl hl.1 rfl (Nat.le_of_ble_eq_true rfl) dX1_pass_7 ⟨Nat.le_of_ble_eq_true rfl, Nat.le_of_ble_eq_true rfl⟩ rfl (fun H locs hP hD hS => ?_)
  refine lv_istore_n (lv' := [(2, .int q2.1), (0, .ref (a0 0)), (1, .ref (a1 0))]) hx hb dX1_pass_10 rfl hl (by decide) rfl (fun ls hl => ?_)
  refine lv_iload_n hx hb dX1_pass_11 rfl (lv_at hl 0 rfl) ?_
  refine lv_ldc (v := (-99999:Int32)) hx hb hown (hts _ kX1_pass_0) dX1_pass_12 ?_
  refine lv_icmp_ne (tgt := 33) hx hb dX1_pass_14 (by decide) (fun c3 => ?_) (fun c3 => ?_)
  · rw [if_neg c3] at hf
    refine lv_aload_n hx hb dX1_pass_33 rfl (lv_at hl 1 rfl) ?_
    refine lv_aload_n hx hb dX1_pass_34 rfl (lv_at hl 2 rfl) ?_
    refine lv_iload_n hx hb dX1_pass_35 rfl (lv_at hl 0 rfl) ?_
    obtain ⟨q4, hq4, hf⟩ := bd_some hf
    refine g_callVv S (As := [.ref (a1 0), .int q2.1]) (gs' := [rdW G a0 q1.2.1, stW G a1 q4.2]) (c_X1_share l G a0 a1 q1.2.1 q1.2.2 q2.1 hq4) (cwV 2 hts gX1_pass_X1_share rfl rfl rfl hd_X1_share ⟨Nat.le_of_ble_eq_true rfl, Nat.le_of_ble_eq_true rfl⟩) hK hP hD hS hA (is := [0, 1]) rfl rfl 0 rfl rfl rfl rfl hl.1 rfl (Nat.le_of_ble_eq_true rfl) dX1_pass_36 ⟨Nat.le_of_ble_eq_true rfl, Nat.le_of_ble_eq_true rfl⟩ rfl (fun H locs hP hD hS => ?_)
    refine lv_aload_n hx hb dX1_pass_39 rfl (lv_at hl 1 rfl) ?_
    refine lv_aload_n hx hb dX1_pass_40 rfl (lv_at hl 2 rfl) ?_
    refine lv_iload_n hx hb dX1_pass_41 rfl (lv_at hl 0 rfl) ?_
    obtain ⟨q5, hq5, hf⟩ := bd_some hf
    refine g_callVv S (As := [.ref (a1 0), .int q2.1]) (gs' := [rdW G a0 q1.2.1, stW G a1 q5.2]) (c_X1_payOut l G a0 a1 q1.2.1 q4.2 q2.1 hq5) (cwV 2 hts gX1_pass_X1_payOut rfl rfl rfl hd_X1_payOut ⟨Nat.le_of_ble_eq_true rfl, Nat.le_of_ble_eq_true rfl⟩) hK hP hD hS hA (is := [0, 1]) rfl rfl 0 rfl rfl rfl rfl hl.1 rfl (Nat.le_of_ble_eq_true rfl) dX1_pass_42 ⟨Nat.le_of_ble_eq_true rfl, Nat.le_of_ble_eq_true rfl⟩ rfl (fun H locs hP hD hS => ?_)
    refine lv_iconst (v := (0:Int32)) hx hb dX1_pass_45 (by decide) ?_
    refine lv_istore_n (lv' := [(3, .int (0:Int32)), (2, .int q2.1), (0, .ref (a0 0)), (1, .ref (a1 0))]) hx hb dX1_pass_46 rfl hl (by decide) rfl (fun ls hl => ?_)
    obtain ⟨e12, he12, hf⟩ := bd_some hf
    refine w_X1_pass_47 (Q := _) S hK hA G a0 a1 q1.2.1 q2.1 FU _ e12 he12 _ _ _ hP hD hS (lv_sub hl [3, 1, 0] rfl) (fun H locs ls hP hD hS hl => ?_)
    refine lv_aload_n hx hb dX1_pass_75 rfl (lv_at hl 0 rfl) ?_
    refine lv_dup hx hb dX1_pass_76 rfl ?_
    refine g_get (C := RX3) (T := TX3) (N := 17) hx hb hts iwX1_pass_X3 hown hK hP 1 0 rfl rfl rfl 1 (Nat.le_of_ble_eq_true rfl) (hts _ kX1_pass_4) (fun _ h9 => h9) rfl dX1_pass_77 ?_
    refine lv_iconst (v := (1:Int32)) hx hb dX1_pass_80 (by decide) ?_
    refine lv_iadd hx hb dX1_pass_81 ?_
    obtain ⟨u13, eu13, hf⟩ := lt_some hf
    refine g_put (ty := .int) (C := RX3) (T := TX3) (N := 17) (gs' := [rdW G a0 q1.2.1, stW G a1 u13]) hx hb hts iwX1_pass_X3 tyX3 tyX3_ok nmX3 hown hK hP hD hS 1 0 rfl rfl rfl 1 (Nat.le_of_ble_eq_true rfl) (hts _ kX1_pass_4) (fun _ h9 => h9) rfl (by decide +kernel) rfl rfl (Nat.le_of_ble_eq_true rfl) dX1_pass_82 (by rw [eu13]; rfl) (fun H locs hP hD hS => ?_)
    refine lv_iload_n hx hb dX1_pass_85 rfl (lv_at hl 1 rfl) ?_
    cases hf
    exact g_iret hx hb hr hlocks hP hS dX1_pass_86
  · rw [if_pos c3] at hf
    refine lv_aload_n hx hb dX1_pass_17 rfl (lv_at hl 2 rfl) ?_
    refine lv_dup hx hb dX1_pass_18 rfl ?_
    refine g_get (C := RX3) (T := TX3) (N := 17) hx hb hts iwX1_pass_X3 hown hK hP 1 0 rfl rfl rfl 3 (Nat.le_of_ble_eq_true rfl) (hts _ kX1_pass_5) (fun _ h9 => h9) rfl dX1_pass_19 ?_
    refine lv_aload_n hx hb dX1_pass_22 rfl (lv_at hl 1 rfl) ?_
    refine g_get (C := RX1) (T := TX1) (N := 3) hx hb hts iwX1_pass_X1 hown hK hP 0 0 rfl rfl rfl 2 (Nat.le_of_ble_eq_true rfl) (hts _ kX1_pass_6) (fun _ h9 => h9) rfl dX1_pass_23 ?_
    refine lv_iadd hx hb dX1_pass_26 ?_
    obtain ⟨u14, eu14, hf⟩ := lt_some hf
    refine g_put (ty := .int) (C := RX3) (T := TX3) (N := 17) (gs' := [rdW G a0 q1.2.1, stW G a1 u14]) hx hb hts iwX1_pass_X3 tyX3 tyX3_ok nmX3 hown hK hP hD hS 1 0 rfl rfl rfl 3 (Nat.le_of_ble_eq_true rfl) (hts _ kX1_pass_5) (fun _ h9 => h9) rfl (by decide +kernel) rfl rfl (Nat.le_of_ble_eq_true rfl) dX1_pass_27 (by rw [eu14]; rfl) (fun H locs hP hD hS => ?_)
    refine lv_goto (tgt := 45) hx hb dX1_pass_30 (by decide) ?_
    refine lv_iconst (v := (0:Int32)) hx hb dX1_pass_45 (by decide) ?_
    refine lv_istore_n (lv' := [(3, .int (0:Int32)), (2, .int q2.1), (0, .ref (a0 0)), (1, .ref (a1 0))]) hx hb dX1_pass_46 rfl hl (by decide) rfl (fun ls hl => ?_)
    obtain ⟨e15, he15, hf⟩ := bd_some hf
    refine w_X1_pass_47 (Q := _) S hK hA G a0 a1 q1.2.1 q2.1 FU _ e15 he15 _ _ _ hP hD hS (lv_sub hl [3, 1, 0] rfl) (fun H locs ls hP hD hS hl => ?_)
    refine lv_aload_n hx hb dX1_pass_75 rfl (lv_at hl 0 rfl) ?_
    refine lv_dup hx hb dX1_pass_76 rfl ?_
    refine g_get (C := RX3) (T := TX3) (N := 17) hx hb hts iwX1_pass_X3 hown hK hP 1 0 rfl rfl rfl 1 (Nat.le_of_ble_eq_true rfl) (hts _ kX1_pass_4) (fun _ h9 => h9) rfl dX1_pass_77 ?_
    refine lv_iconst (v := (1:Int32)) hx hb dX1_pass_80 (by decide) ?_
    refine lv_iadd hx hb dX1_pass_81 ?_
    obtain ⟨u16, eu16, hf⟩ := lt_some hf
    refine g_put (ty := .int) (C := RX3) (T := TX3) (N := 17) (gs' := [rdW G a0 q1.2.1, stW G a1 u16]) hx hb hts iwX1_pass_X3 tyX3 tyX3_ok nmX3 hown hK hP hD hS 1 0 rfl rfl rfl 1 (Nat.le_of_ble_eq_true rfl) (hts _ kX1_pass_4) (fun _ h9 => h9) rfl (by decide +kernel) rfl rfl (Nat.le_of_ble_eq_true rfl) dX1_pass_82 (by rw [eu16]; rfl) (fun H locs hP hD hS => ?_)
    refine lv_iload_n hx hb dX1_pass_85 rfl (lv_at hl 1 rfl) ?_
    cases hf
    exact g_iret hx hb hr hlocks hP hS dX1_pass_86
theorem kX1_greatestBidBeside_0 : Cond.fieldLink RX1 43 "SavingsCircle$State" "count" "I" ∈ wsX1_greatestBidBeside := (List.mem_cons_of_mem _ (List.mem_append_left _ (List.mem_append_left _ (List.mem_append_left _ (List.mem_of_getElem? (i := 0) rfl)))))
theorem kX1_greatestBidBeside_1 : Cond.methodLink RX1 110 Lib.Math.max.name ∈ wsX1_greatestBidBeside := (List.mem_cons_of_mem _ (List.mem_append_left _ (List.mem_append_left _ (List.mem_append_left _ (List.mem_of_getElem? (i := 1) rfl)))))
theorem kX1_greatestBidBeside_2 : Cond.static Lib.Math.max.name ∈ wsX1_greatestBidBeside := (List.mem_cons_of_mem _ (List.mem_append_left _ (List.mem_append_left _ (List.mem_append_left _ (List.mem_of_getElem? (i := 2) rfl)))))
theorem kX1_greatestBidBeside_3 : Cond.initialized "java/lang/Math" ∈ wsX1_greatestBidBeside := (List.mem_cons_of_mem _ (List.mem_append_left _ (List.mem_append_left _ (List.mem_append_left _ (List.mem_of_getElem? (i := 3) rfl)))))
theorem kX1_greatestBidBeside_4 : Cond.code Lib.Math.max.name Lib.Math.max.code 2 (some .int) ∈ wsX1_greatestBidBeside := (List.mem_cons_of_mem _ (List.mem_append_left _ (List.mem_append_left _ (List.mem_append_left _ (List.mem_of_getElem? (i := 4) rfl)))))
theorem iwX1_greatestBidBeside_X3 : ∀ w ∈ wsX30, w ∈ wsX1_greatestBidBeside := fun w h => (List.mem_cons_of_mem _ (List.mem_append_left _ (List.mem_append_right _ h)))
set_option maxHeartbeats 4000000 in
set_option maxRecDepth 100000 in
theorem w_X1_greatestBidBeside_5 {p : Program} {l : Launch} {e : Env} {s : State} {m : MethodId} {args : Array Value} {below : List Frame} {meth : Method} {c : Code} {A : Nat → Prop} {Q : State → Prop} (S : Ev p s m args meth c cX1_greatestBidBeside 5 (some .int) yX1_greatestBidBeside.cls wsX1_greatestBidBeside) {G : uG} (hK : kK G s) (hA : ∀ q, s.heap.size ≤ q → A q) (_ : uG) (a0 : Nat → Nat) (a1 : Nat → Nat) (v0 : RdV) (v1 : StV) (p2 : Int32) : ∀ (n : Nat) (z : (Int32 × Int32)) (e1 : (Int32 × Int32)), lp (b_X1_greatestBidBeside_5 v0 v1 p2) n z = some e1 → ∀ (H : Heap) (locs : List Loc) (ls : Array Slot), gP G [rdW G a0 v0, stW G a1 v1] H → gD A [rdW G a0 v0, stW G a1 v1] → va_S A s.heap H locs → lv_has ls 5 [(0, .ref (a0 0)), (1, .ref (a1 0)), (2, .int p2), (3, .int z.1), (4, .int z.2)] → (∀ (H : Heap) (locs : List Loc) (ls : Array Slot), gP G [rdW G a0 v0, stW G a1 v1] H → gD A [rdW G a0 v0, stW G a1 v1] → va_S A s.heap H locs → lv_has ls 5 [(0, .ref (a0 0)), (1, .ref (a1 0)), (2, .int p2), (3, .int e1.1), (4, .int e1.2)] → W p l e ({ frames := 2, cells := 0, slots := 0, locals := 44 } : Room) s m args below meth c H locs 0 0 Q (F0 m 48 ls [])) → W p l e ({ frames := 2, cells := 0, slots := 0, locals := 44 } : Room) s m args below meth c H locs 0 0 Q (F0 m 5 ls []) := by
  obtain ⟨hx, hb, hml, hown, hts, hr, hlocks⟩ := id S
  intro n
  induction n with
  | zero => intro z e1 h; cases h
  | succ n ih =>
    intro z e1 hlp H locs ls hP hD hS hl K
    obtain ⟨z9, hf, hz⟩ := lp_s hlp
    unfold b_X1_greatestBidBeside_5 at hf
    refine lv_iload hx hb dX1_greatestBidBeside_5 (lv_at hl 4 rfl) ?_
    refine lv_aload_n hx hb dX1_greatestBidBeside_7 rfl (lv_at hl 1 rfl) ?_
    refine g_get (C := RX3) (T := TX3) (N := 17) hx hb hts iwX1_greatestBidBeside_X3 hown hK hP 1 0 rfl rfl rfl 0 (Nat.le_of_ble_eq_true rfl) (hts _ kX1_greatestBidBeside_0) (fun _ h9 => h9) rfl dX1_greatestBidBeside_8 ?_
    refine lv_icmp_ge (tgt := 48) hx hb dX1_greatestBidBeside_11 (by decide) (fun c1 => ?_) (fun c1 => ?_)
    · rw [if_pos c1] at hf
      have he := lz_r hf hz
      subst he
      exact K H locs ls hP hD hS (lv_sub hl [0, 1, 2, 3, 4] rfl)
    · rw [if_neg c1] at hf
      refine lv_iload hx hb dX1_greatestBidBeside_14 (lv_at hl 4 rfl) ?_
      refine lv_iload_n hx hb dX1_greatestBidBeside_16 rfl (lv_at hl 2 rfl) ?_
      refine lv_icmp_eq (tgt := 42) hx hb dX1_greatestBidBeside_17 (by decide) (fun c2 => ?_) (fun c2 => ?_)
      · rw [if_pos c2] at hf
        obtain ⟨x3, ex3, hf⟩ := lt_some hf
        refine lv_iinc (v := x3) (lv' := [(4, .int x3), (0, .ref (a0 0)), (1, .ref (a1 0)), (2, .int p2), (3, .int z.1)]) hx hb dX1_greatestBidBeside_42 hl (k := 4) rfl (by rw [ex3]; rfl) (by decide) rfl (fun ls hl => ?_)
        refine lv_goto (tgt := 5) hx hb dX1_greatestBidBeside_45 (by decide) ?_
        exact ih _ e1 (lz_l hf hz) H locs ls hP hD hS (lv_sub hl [1, 2, 3, 4, 0] rfl) K
      · rw [if_neg c2] at hf
        refine lv_aload_n hx hb dX1_greatestBidBeside_20 rfl (lv_at hl 0 rfl) ?_
        refine lv_aload_n hx hb dX1_greatestBidBeside_21 rfl (lv_at hl 1 rfl) ?_
        refine lv_iload hx hb dX1_greatestBidBeside_22 (lv_at hl 4 rfl) ?_
        obtain ⟨q4, hq4, hf⟩ := bd_some hf
        refine g_callVi S (As := [.ref (a1 0), .int z.2]) (gs' := [rdW G a0 v0, stW G a1 v1]) (c_X1_canTake l G a0 a1 v0 v1 z.2 hq4) (cwV 2 hts gX1_greatestBidBeside_X1_canTake rfl rfl rfl hd_X1_canTake ⟨Nat.le_of_ble_eq_true rfl, Nat.le_of_ble_eq_true rfl⟩) hK hP hD hS hA (is := [0, 1]) rfl rfl 0 rfl rfl rfl rfl hl.1 rfl (Nat.le_of_ble_eq_true rfl) dX1_greatestBidBeside_24 ⟨Nat.le_of_ble_eq_true rfl, Nat.le_of_ble_eq_true rfl⟩ rfl (fun H locs hP hD hS => ?_)
        refine lv_if_eq (tgt := 42) hx hb dX1_greatestBidBeside_27 (by decide) (fun c5 => ?_) (fun c5 => ?_)
        · rw [if_pos c5] at hf
          obtain ⟨x6, ex6, hf⟩ := lt_some hf
          refine lv_iinc (v := x6) (lv' := [(4, .int x6), (0, .ref (a0 0)), (1, .ref (a1 0)), (2, .int p2), (3, .int z.1)]) hx hb dX1_greatestBidBeside_42 hl (k := 4) rfl (by rw [ex6]; rfl) (by decide) rfl (fun ls hl => ?_)
          refine lv_goto (tgt := 5) hx hb dX1_greatestBidBeside_45 (by decide) ?_
          exact ih _ e1 (lz_l hf hz) H locs ls hP hD hS (lv_sub hl [1, 2, 3, 4, 0] rfl) K
        · rw [if_neg c5] at hf
          refine lv_iload_n hx hb dX1_greatestBidBeside_30 rfl (lv_at hl 3 rfl) ?_
          refine lv_aload_n hx hb dX1_greatestBidBeside_31 rfl (lv_at hl 0 rfl) ?_
          refine lv_aload_n hx hb dX1_greatestBidBeside_32 rfl (lv_at hl 1 rfl) ?_
          refine lv_iload hx hb dX1_greatestBidBeside_33 (lv_at hl 4 rfl) ?_
          obtain ⟨q7, hq7, hf⟩ := bd_some hf
          refine g_callVi S (As := [.ref (a1 0), .int z.2]) (gs' := [rdW G a0 v0, stW G a1 v1]) (c_X1_countedBid l G a0 a1 v0 v1 z.2 hq7) (cwV 2 hts gX1_greatestBidBeside_X1_countedBid rfl rfl rfl hd_X1_countedBid ⟨Nat.le_of_ble_eq_true rfl, Nat.le_of_ble_eq_true rfl⟩) hK hP hD hS hA (is := [0, 1]) rfl rfl 0 rfl rfl rfl rfl hl.1 rfl (Nat.le_of_ble_eq_true rfl) dX1_greatestBidBeside_35 ⟨Nat.le_of_ble_eq_true rfl, Nat.le_of_ble_eq_true rfl⟩ rfl (fun H locs hP hD hS => ?_)
          refine va_mmax hx hb (hml.trans hl.1.symm) hown (hts _ kX1_greatestBidBeside_1) (hts _ kX1_greatestBidBeside_2) (hts _ kX1_greatestBidBeside_3) (hts _ kX1_greatestBidBeside_4) (Nat.le_of_ble_eq_true rfl) (Nat.le_of_ble_eq_true rfl) (Nat.le_of_ble_eq_true rfl) (Nat.le_of_ble_eq_true rfl) dX1_greatestBidBeside_38 ?_
          obtain ⟨x8, ex8, hf⟩ := lt_some hf
          refine lv_nmi ex8 ?_
          refine lv_istore_n (lv' := [(3, .int x8), (0, .ref (a0 0)), (1, .ref (a1 0)), (2, .int p2), (4, .int z.2)]) hx hb dX1_greatestBidBeside_41 rfl hl (by decide) rfl (fun ls hl => ?_)
          obtain ⟨x9, ex9, hf⟩ := lt_some hf
          refine lv_iinc (v := x9) (lv' := [(4, .int x9), (3, .int x8), (0, .ref (a0 0)), (1, .ref (a1 0)), (2, .int p2)]) hx hb dX1_greatestBidBeside_42 hl (k := 4) rfl (by rw [ex9]; rfl) (by decide) rfl (fun ls hl => ?_)
          refine lv_goto (tgt := 5) hx hb dX1_greatestBidBeside_45 (by decide) ?_
          exact ih _ e1 (lz_l hf hz) H locs ls hP hD hS (lv_sub hl [2, 3, 4, 1, 0] rfl) K
set_option maxHeartbeats 4000000 in
set_option maxRecDepth 100000 in
theorem c_X1_greatestBidBeside (l : Launch) (G : uG) (a0 : Nat → Nat) (a1 : Nat → Nat) (v0 : RdV) (v1 : StV) (i2 : Int32) {q : Int32 × (Unit)} (hf : f_X1_greatestBidBeside v0 v1 i2 = some q) : mQ l yX1_greatestBidBeside wsX1_greatestBidBeside ({ frames := 2, cells := 0, slots := 0, locals := 44 } : Room) G [.ref (a0 0), .ref (a1 0), .int i2] [rdW G a0 v0, stW G a1 v1] [rdW G a0 v0, stW G a1 v1] (qI G [rdW G a0 v0, stW G a1 v1] q.1) := by
  unfold f_X1_greatestBidBeside at hf
  refine m_of (cc := cX1_greatestBidBeside) (maxL := 5) (ret := (some .int)) (by decide) rfl rfl (Nat.le_of_ble_eq_true rfl) ?_
  intro p e s m args below meth c A ls S hK hA hP hD hS hl
  obtain ⟨hx, hb, hml, hown, hts, hr, hlocks⟩ := id S
  have hl : lv_has ls 5 [(0, .ref (a0 0)), (1, .ref (a1 0)), (2, .int i2)] := hl
  refine lv_iconst (v := (0:Int32)) hx hb dX1_greatestBidBeside_0 (by decide) ?_
  refine lv_istore_n (lv' := [(3, .int (0:Int32)), (0, .ref (a0 0)), (1, .ref (a1 0)), (2, .int i2)]) hx hb dX1_greatestBidBeside_1 rfl hl (by decide) rfl (fun ls hl => ?_)
  refine lv_iconst (v := (0:Int32)) hx hb dX1_greatestBidBeside_2 (by decide) ?_
  refine lv_istore (lv' := [(4, .int (0:Int32)), (3, .int (0:Int32)), (0, .ref (a0 0)), (1, .ref (a1 0)), (2, .int i2)]) hx hb dX1_greatestBidBeside_3 hl (by decide) rfl (fun ls hl => ?_)
  obtain ⟨e10, he10, hf⟩ := bd_some hf
  refine w_X1_greatestBidBeside_5 (Q := _) S hK hA G a0 a1 v0 v1 i2 FU _ e10 he10 _ _ _ hP hD hS (lv_sub hl [2, 3, 4, 1, 0] rfl) (fun H locs ls hP hD hS hl => ?_)
  refine lv_iload_n hx hb dX1_greatestBidBeside_48 rfl (lv_at hl 3 rfl) ?_
  cases hf
  exact g_iret hx hb hr hlocks hP hS dX1_greatestBidBeside_49
