theorem hd_L_addUp : yL_addUp.cls = RL ∧ yL_addUp.cls ≠ "java/lang/invoke/MethodHandle" ∧ yL_addUp.cls ≠ "java/lang/invoke/VarHandle" ∧ (parseMethodDescriptor yL_addUp.desc).map (fun d => d.parameters.length) = some 2 := by decide +kernel
theorem hd_L_build : yL_build.cls = RL ∧ yL_build.cls ≠ "java/lang/invoke/MethodHandle" ∧ yL_build.cls ≠ "java/lang/invoke/VarHandle" ∧ (parseMethodDescriptor yL_build.desc).map (fun d => d.parameters.length) = some 3 := by decide +kernel
theorem hd_L_inTheEnd : yL_inTheEnd.cls = RL ∧ yL_inTheEnd.cls ≠ "java/lang/invoke/MethodHandle" ∧ yL_inTheEnd.cls ≠ "java/lang/invoke/VarHandle" ∧ (parseMethodDescriptor yL_inTheEnd.desc).map (fun d => d.parameters.length) = some 2 := by decide +kernel
theorem hd_L_leastBid : yL_leastBid.cls = RL ∧ yL_leastBid.cls ≠ "java/lang/invoke/MethodHandle" ∧ yL_leastBid.cls ≠ "java/lang/invoke/VarHandle" ∧ (parseMethodDescriptor yL_leastBid.desc).map (fun d => d.parameters.length) = some 2 := by decide +kernel
theorem hd_L_leave : yL_leave.cls = RL ∧ yL_leave.cls ≠ "java/lang/invoke/MethodHandle" ∧ yL_leave.cls ≠ "java/lang/invoke/VarHandle" ∧ (parseMethodDescriptor yL_leave.desc).map (fun d => d.parameters.length) = some 2 := by decide +kernel
theorem hd_L_month : yL_month.cls = RL ∧ yL_month.cls ≠ "java/lang/invoke/MethodHandle" ∧ yL_month.cls ≠ "java/lang/invoke/VarHandle" ∧ (parseMethodDescriptor yL_month.desc).map (fun d => d.parameters.length) = some 3 := by decide +kernel
theorem hd_L_prepare : yL_prepare.cls = RL ∧ yL_prepare.cls ≠ "java/lang/invoke/MethodHandle" ∧ yL_prepare.cls ≠ "java/lang/invoke/VarHandle" ∧ (parseMethodDescriptor yL_prepare.desc).map (fun d => d.parameters.length) = some 3 := by decide +kernel
theorem hd_L_repay : yL_repay.cls = RL ∧ yL_repay.cls ≠ "java/lang/invoke/MethodHandle" ∧ yL_repay.cls ≠ "java/lang/invoke/VarHandle" ∧ (parseMethodDescriptor yL_repay.desc).map (fun d => d.parameters.length) = some 3 := by decide +kernel
theorem hd_X5_give : yX5_give.cls = RX5 ∧ yX5_give.cls ≠ "java/lang/invoke/MethodHandle" ∧ yX5_give.cls ≠ "java/lang/invoke/VarHandle" ∧ (parseMethodDescriptor yX5_give.desc).map (fun d => d.parameters.length) = some 2 := by decide +kernel
theorem hd_X5_setContribution : yX5_setContribution.cls = RX5 ∧ yX5_setContribution.cls ≠ "java/lang/invoke/MethodHandle" ∧ yX5_setContribution.cls ≠ "java/lang/invoke/VarHandle" ∧ (parseMethodDescriptor yX5_setContribution.desc).map (fun d => d.parameters.length) = some 1 := by decide +kernel
set_option maxHeartbeats 8000000 in
set_option maxRecDepth 100000 in
theorem w_law_13 {p : Program} {l : Launch} {e : Env} {s : State} {m : MethodId} {below : List Frame} {meth : Method} {c : Code} {b L : Nat} {xs : Nat → Int32} {A : Nat → Prop} (S : Ev p s m #[Value.ref b] meth c cL_law 11 (some .boolean) RL wsL_law) {G : uG} (hK : kK G s) (hA : ∀ q, s.heap.size ≤ q → A q) (hX : va_X b L xs s s.heap) (hbl : b < s.heap.size) (hbA : ¬ A b) (a0 : Nat → Nat) (a1 : Nat → Nat) (a2 : Nat → Nat) (a3 : Nat → Nat) (a4 : Nat → Nat) (a5 : Nat → Nat) (a6 : Nat → Nat) (a7 : Nat → Nat → Nat) (a8 : Nat → Nat) (a9 : Nat → Nat) (a10 : Nat → Nat) (a11 : Nat → Nat) (a12 : Nat → Nat) (v1 : StV) (v2 : StV) (v3 : RdV) (v7 : PaV) (v12 : ArV) {w9 : StV × StV × RdV × PaV × ArV × Int32} {Q : State → Prop} (hf : f_law_13 xs L v1 v2 v3 v7 v12 = some w9) {H : Heap} {locs : List Loc} {ls : Array Slot} (hP : gP G [maW a0 (a1 0) (a2 0) (a3 0) (a4 0) (a7 0 0) (a8 0) (a9 0) (a9 1), stW G a1 v1, stW G a2 v2, rdW G a3 v3, paW G a7 v7, arW G a12 v12] H) (hD : gD A [maW a0 (a1 0) (a2 0) (a3 0) (a4 0) (a7 0 0) (a8 0) (a9 0) (a9 1), stW G a1 v1, stW G a2 v2, rdW G a3 v3, paW G a7 v7, arW G a12 v12]) (hS : va_S A s.heap H locs) (hl : lv_has ls 11 [(0, .ref b), (1, .ref (a0 0)), (2, .ref (a12 0))]) (K : ∀ (H : Heap) (locs : List Loc) (ls : Array Slot), gP G [maW a0 (a1 0) (a2 0) (a3 0) (a4 0) (a7 0 0) (a8 0) (a9 0) (a9 1), stW G a1 w9.1, stW G a2 w9.2.1, rdW G a3 w9.2.2.1, paW G a7 w9.2.2.2.1, arW G a12 w9.2.2.2.2.1] H → gD A [maW a0 (a1 0) (a2 0) (a3 0) (a4 0) (a7 0 0) (a8 0) (a9 0) (a9 1), stW G a1 w9.1, stW G a2 w9.2.1, rdW G a3 w9.2.2.1, paW G a7 w9.2.2.2.1, arW G a12 w9.2.2.2.2.1] → va_S A s.heap H locs → lv_has ls 11 [(0, .ref b), (1, .ref (a0 0)), (2, .ref (a12 0)), (3, .int w9.2.2.2.2.2)] → W p l e room_1 s m #[Value.ref b] below meth c H locs 262 3399 Q (F0 m 71 ls [])) : W p l e room_1 s m #[Value.ref b] below meth c H locs 262 3399 Q (F0 m 13 ls []) := by
  obtain ⟨hx, hb, hml, hown, hts, hr, hlocks⟩ := id S
  unfold f_law_13 at hf
  refine lv_iconst (v := (1:Int32)) hx hb dL_law_13 (by decide) ?_
  refine lv_aload_n hx hb dL_law_14 rfl (lv_at hl 0 rfl) ?_
  refine lv_iconst (v := (0:Int32)) hx hb dL_law_15 (by decide) ?_
  obtain ⟨q1, hq1, hf⟩ := bd_some hf
  refine g_callSis S (As := [.ref b, .int (0:Int32)]) (gs' := [maW a0 (a1 0) (a2 0) (a3 0) (a4 0) (a7 0 0) (a8 0) (a9 0) (a9 1), stW G a1 v1, stW G a2 v2, rdW G a3 v3, paW G a7 v7, arW G a12 v12]) (c_L_cell l G b xs L (0:Int32) hq1) (va_cwS 2 hts gL_law_L_cell rfl rfl rfl hd_L_cell.2 ⟨Nat.le_of_ble_eq_true rfl, Nat.le_of_ble_eq_true rfl⟩) hX hbl hbA hK hP hD hS hA (is := []) rfl rfl rfl hl.1 rfl (Nat.le_of_ble_eq_true rfl) dL_law_16 ⟨Nat.le_of_ble_eq_true rfl, Nat.le_of_ble_eq_true rfl⟩ rfl (fun H locs hP hD hS => ?_)
  refine lv_bipush (v := (7:Int32)) hx hb dL_law_19 (by decide) ?_
  obtain ⟨q2, hq2, hf⟩ := bd_some hf
  refine g_callSi S (As := [.int q1.1, .int (7:Int32)]) (gs' := [maW a0 (a1 0) (a2 0) (a3 0) (a4 0) (a7 0 0) (a8 0) (a9 0) (a9 1), stW G a1 v1, stW G a2 v2, rdW G a3 v3, paW G a7 v7, arW G a12 v12]) (c_L_low l G q1.1 (7:Int32) hq2) (va_cwS 2 hts gL_law_L_low rfl rfl rfl hd_L_low.2 ⟨Nat.le_of_ble_eq_true rfl, Nat.le_of_ble_eq_true rfl⟩) hK hP hD hS hA (is := []) rfl rfl rfl hl.1 rfl (Nat.le_of_ble_eq_true rfl) dL_law_21 ⟨Nat.le_of_ble_eq_true rfl, Nat.le_of_ble_eq_true rfl⟩ rfl (fun H locs hP hD hS => ?_)
  refine lv_iadd hx hb dL_law_24 ?_
  obtain ⟨x3, ex3, hf⟩ := lt_some hf
  refine lv_nmi ex3 ?_
  refine lv_istore_n (lv' := [(3, .int x3), (0, .ref b), (1, .ref (a0 0)), (2, .ref (a12 0))]) hx hb dL_law_25 rfl hl (by decide) rfl (fun ls hl => ?_)
  refine lv_iconst (v := (1:Int32)) hx hb dL_law_26 (by decide) ?_
  refine lv_aload_n hx hb dL_law_27 rfl (lv_at hl 1 rfl) ?_
  refine lv_bipush (v := (18:Int32)) hx hb dL_law_28 (by decide) ?_
  obtain ⟨q4, hq4, hf⟩ := bd_some hf
  refine g_callSis S (As := [.ref b, .int (18:Int32)]) (gs' := [maW a0 (a1 0) (a2 0) (a3 0) (a4 0) (a7 0 0) (a8 0) (a9 0) (a9 1), stW G a1 v1, stW G a2 v2, rdW G a3 v3, paW G a7 v7, arW G a12 v12]) (c_L_cell l G b xs L (18:Int32) hq4) (va_cwS 2 hts gL_law_L_cell rfl rfl rfl hd_L_cell.2 ⟨Nat.le_of_ble_eq_true rfl, Nat.le_of_ble_eq_true rfl⟩) hX hbl hbA hK hP hD hS hA (is := []) rfl rfl rfl hl.1 rfl (Nat.le_of_ble_eq_true rfl) dL_law_30 ⟨Nat.le_of_ble_eq_true rfl, Nat.le_of_ble_eq_true rfl⟩ rfl (fun H locs hP hD hS => ?_)
  refine lv_bipush (v := (20:Int32)) hx hb dL_law_33 (by decide) ?_
  obtain ⟨q5, hq5, hf⟩ := bd_some hf
  refine g_callSi S (As := [.int q4.1, .int (20:Int32)]) (gs' := [maW a0 (a1 0) (a2 0) (a3 0) (a4 0) (a7 0 0) (a8 0) (a9 0) (a9 1), stW G a1 v1, stW G a2 v2, rdW G a3 v3, paW G a7 v7, arW G a12 v12]) (c_L_low l G q4.1 (20:Int32) hq5) (va_cwS 2 hts gL_law_L_low rfl rfl rfl hd_L_low.2 ⟨Nat.le_of_ble_eq_true rfl, Nat.le_of_ble_eq_true rfl⟩) hK hP hD hS hA (is := []) rfl rfl rfl hl.1 rfl (Nat.le_of_ble_eq_true rfl) dL_law_35 ⟨Nat.le_of_ble_eq_true rfl, Nat.le_of_ble_eq_true rfl⟩ rfl (fun H locs hP hD hS => ?_)
  refine lv_iadd hx hb dL_law_38 ?_
  obtain ⟨x6, ex6, hf⟩ := lt_some hf
  refine lv_nmi ex6 ?_
  refine lv_istore (lv' := [(4, .int x6), (3, .int x3), (0, .ref b), (1, .ref (a0 0)), (2, .ref (a12 0))]) hx hb dL_law_39 hl (by decide) rfl (fun ls hl => ?_)
  refine lv_aload_n hx hb dL_law_41 rfl (lv_at hl 3 rfl) ?_
  refine lv_iload hx hb dL_law_42 (lv_at hl 0 rfl) ?_
  obtain ⟨q7, hq7, hf⟩ := bd_some hf
  refine g_callVi S (As := [.int x6]) (gs' := [maW a0 (a1 0) (a2 0) (a3 0) (a4 0) (a7 0 0) (a8 0) (a9 0) (a9 1), stW G a1 q7.2.1, stW G a2 v2, rdW G a3 v3, paW G a7 q7.2.2, arW G a12 v12]) (c_X5_setContribution l G a0 a1 a2 a3 a4 a5 a6 a7 a8 a9 a10 a11 v1 v7 x6 hq7) (cwV 1 hts gL_law_X5_setContribution rfl rfl rfl hd_X5_setContribution ⟨Nat.le_of_ble_eq_true rfl, Nat.le_of_ble_eq_true rfl⟩) hK hP hD hS hA (is := [0, 1, 4]) rfl rfl 0 rfl rfl rfl rfl hl.1 rfl (Nat.le_of_ble_eq_true rfl) dL_law_44 ⟨Nat.le_of_ble_eq_true rfl, Nat.le_of_ble_eq_true rfl⟩ rfl (fun H locs hP hD hS => ?_)
  refine lv_bipush (v := (10:Int32)) hx hb dL_law_47 (by decide) ?_
  refine lv_icmp_ne (tgt := 69) hx hb dL_law_49 (by decide) (fun c8 => ?_) (fun c8 => ?_)
  · rw [if_neg c8] at hf
    refine lv_iconst (v := (0:Int32)) hx hb dL_law_69 (by decide) ?_
    cases hf
  · rw [if_pos c8] at hf
    refine lv_aload_n hx hb dL_law_52 rfl (lv_at hl 3 rfl) ?_
    refine lv_aload_n hx hb dL_law_53 rfl (lv_at hl 2 rfl) ?_
    refine lv_iload_n hx hb dL_law_54 rfl (lv_at hl 1 rfl) ?_
    obtain ⟨q9, hq9, hf⟩ := bd_some hf
    refine g_callSis S (As := [.ref (a0 0), .ref b, .int x3]) (gs' := [maW a0 (a1 0) (a2 0) (a3 0) (a4 0) (a7 0 0) (a8 0) (a9 0) (a9 1), stW G a1 q9.2.1, stW G a2 v2, rdW G a3 v3, paW G a7 q9.2.2, arW G a12 v12]) (c_L_build l G b a0 a1 a2 a3 a4 a5 a6 a7 a8 a9 a10 a11 xs L q7.2.1 q7.2.2 x3 hq9) (va_cwS 3 hts gL_law_L_build rfl rfl rfl hd_L_build.2 ⟨Nat.le_of_ble_eq_true rfl, Nat.le_of_ble_eq_true rfl⟩) hX hbl hbA hK hP hD hS hA (is := [0, 1, 4]) rfl rfl rfl hl.1 rfl (Nat.le_of_ble_eq_true rfl) dL_law_55 ⟨Nat.le_of_ble_eq_true rfl, Nat.le_of_ble_eq_true rfl⟩ rfl (fun H locs hP hD hS => ?_)
    refine lv_if_eq (tgt := 69) hx hb dL_law_58 (by decide) (fun c10 => ?_) (fun c10 => ?_)
    · rw [if_pos c10] at hf
      refine lv_iconst (v := (0:Int32)) hx hb dL_law_69 (by decide) ?_
      cases hf
    · rw [if_neg c10] at hf
      refine lv_aload_n hx hb dL_law_61 rfl (lv_at hl 3 rfl) ?_
      refine lv_iload_n hx hb dL_law_62 rfl (lv_at hl 1 rfl) ?_
      obtain ⟨q11, hq11, hf⟩ := bd_some hf
      refine g_callSi S (As := [.ref (a0 0), .int x3]) (gs' := [maW a0 (a1 0) (a2 0) (a3 0) (a4 0) (a7 0 0) (a8 0) (a9 0) (a9 1), stW G a1 q9.2.1, stW G a2 v2, rdW G a3 v3, paW G a7 q9.2.2, arW G a12 v12]) (c_L_addUp l G a0 a1 a2 a3 a4 a5 a6 a7 a8 a9 a10 a11 q9.2.1 x3 hq11) (va_cwS 2 hts gL_law_L_addUp rfl rfl rfl hd_L_addUp.2 ⟨Nat.le_of_ble_eq_true rfl, Nat.le_of_ble_eq_true rfl⟩) hK hP hD hS hA (is := [0, 1]) rfl rfl rfl hl.1 rfl (Nat.le_of_ble_eq_true rfl) dL_law_63 ⟨Nat.le_of_ble_eq_true rfl, Nat.le_of_ble_eq_true rfl⟩ rfl (fun H locs hP hD hS => ?_)
      refine lv_if_ne (tgt := 71) hx hb dL_law_66 (by decide) (fun c12 => ?_) (fun c12 => ?_)
      · rw [if_neg c12] at hf
        cases hf
        exact K H locs ls hP hD hS (lv_sub hl [2, 3, 4, 1] rfl)
      · rw [if_pos c12] at hf
        refine lv_iconst (v := (0:Int32)) hx hb dL_law_69 (by decide) ?_
        cases hf
set_option maxHeartbeats 8000000 in
set_option maxRecDepth 100000 in
theorem w_law_81 {p : Program} {l : Launch} {e : Env} {s : State} {m : MethodId} {below : List Frame} {meth : Method} {c : Code} {b L : Nat} {xs : Nat → Int32} {A : Nat → Prop} (S : Ev p s m #[Value.ref b] meth c cL_law 11 (some .boolean) RL wsL_law) {G : uG} (hK : kK G s) (hA : ∀ q, s.heap.size ≤ q → A q) (hX : va_X b L xs s s.heap) (hbl : b < s.heap.size) (hbA : ¬ A b) (a0 : Nat → Nat) (a1 : Nat → Nat) (a2 : Nat → Nat) (a3 : Nat → Nat) (a4 : Nat → Nat) (a5 : Nat → Nat) (a6 : Nat → Nat) (a7 : Nat → Nat → Nat) (a8 : Nat → Nat) (a9 : Nat → Nat) (a10 : Nat → Nat) (a11 : Nat → Nat) (a12 : Nat → Nat) (v1 : StV) (v2 : StV) (v3 : RdV) (v7 : PaV) (v12 : ArV) (i3 : Int32) (i5 : Int32) {w9 : StV × StV × RdV × PaV × ArV × Int32} {Q : State → Prop} (hf : f_law_81 xs L v1 v2 v3 v7 v12 i3 i5 = some w9) {H : Heap} {locs : List Loc} {ls : Array Slot} (hP : gP G [maW a0 (a1 0) (a2 0) (a3 0) (a4 0) (a7 0 0) (a8 0) (a9 0) (a9 1), stW G a1 v1, stW G a2 v2, rdW G a3 v3, paW G a7 v7, arW G a12 v12] H) (hD : gD A [maW a0 (a1 0) (a2 0) (a3 0) (a4 0) (a7 0 0) (a8 0) (a9 0) (a9 1), stW G a1 v1, stW G a2 v2, rdW G a3 v3, paW G a7 v7, arW G a12 v12]) (hS : va_S A s.heap H locs) (hl : lv_has ls 11 [(0, .ref b), (1, .ref (a0 0)), (2, .ref (a12 0)), (3, .int i3), (5, .int i5)]) (K : ∀ (H : Heap) (locs : List Loc) (ls : Array Slot), gP G [maW a0 (a1 0) (a2 0) (a3 0) (a4 0) (a7 0 0) (a8 0) (a9 0) (a9 1), stW G a1 w9.1, stW G a2 w9.2.1, rdW G a3 w9.2.2.1, paW G a7 w9.2.2.2.1, arW G a12 w9.2.2.2.2.1] H → gD A [maW a0 (a1 0) (a2 0) (a3 0) (a4 0) (a7 0 0) (a8 0) (a9 0) (a9 1), stW G a1 w9.1, stW G a2 w9.2.1, rdW G a3 w9.2.2.1, paW G a7 w9.2.2.2.1, arW G a12 w9.2.2.2.2.1] → va_S A s.heap H locs → lv_has ls 11 [(0, .ref b), (1, .ref (a0 0)), (2, .ref (a12 0)), (3, .int i3), (5, .int i5), (7, .int w9.2.2.2.2.2)] → W p l e room_1 s m #[Value.ref b] below meth c H locs 262 3399 Q (F0 m 145 ls [])) : W p l e room_1 s m #[Value.ref b] below meth c H locs 262 3399 Q (F0 m 81 ls []) := by
  obtain ⟨hx, hb, hml, hown, hts, hr, hlocks⟩ := id S
  unfold f_law_81 at hf
  refine lv_aload_n hx hb dL_law_81 rfl (lv_at hl 0 rfl) ?_
  refine lv_bipush (v := (20:Int32)) hx hb dL_law_82 (by decide) ?_
  refine lv_iload hx hb dL_law_84 (lv_at hl 4 rfl) ?_
  refine lv_iadd hx hb dL_law_86 ?_
  obtain ⟨q13, hq13, hf⟩ := bd_some hf
  refine g_callSis S (As := [.ref b, .int ((20:Int32) + i5)]) (gs' := [maW a0 (a1 0) (a2 0) (a3 0) (a4 0) (a7 0 0) (a8 0) (a9 0) (a9 1), stW G a1 v1, stW G a2 v2, rdW G a3 v3, paW G a7 v7, arW G a12 v12]) (c_L_cell l G b xs L ((20:Int32) + i5) hq13) (va_cwS 2 hts gL_law_L_cell rfl rfl rfl hd_L_cell.2 ⟨Nat.le_of_ble_eq_true rfl, Nat.le_of_ble_eq_true rfl⟩) hX hbl hbA hK hP hD hS hA (is := []) rfl rfl rfl hl.1 rfl (Nat.le_of_ble_eq_true rfl) dL_law_87 ⟨Nat.le_of_ble_eq_true rfl, Nat.le_of_ble_eq_true rfl⟩ rfl (fun H locs hP hD hS => ?_)
  refine lv_istore (lv' := [(6, .int q13.1), (0, .ref b), (1, .ref (a0 0)), (2, .ref (a12 0)), (3, .int i3), (5, .int i5)]) hx hb dL_law_90 hl (by decide) rfl (fun ls hl => ?_)
  refine lv_aload_n hx hb dL_law_92 rfl (lv_at hl 1 rfl) ?_
  refine lv_bipush (v := (30:Int32)) hx hb dL_law_93 (by decide) ?_
  refine lv_iload hx hb dL_law_95 (lv_at hl 5 rfl) ?_
  refine lv_iadd hx hb dL_law_97 ?_
  obtain ⟨q14, hq14, hf⟩ := bd_some hf
  refine g_callSis S (As := [.ref b, .int ((30:Int32) + i5)]) (gs' := [maW a0 (a1 0) (a2 0) (a3 0) (a4 0) (a7 0 0) (a8 0) (a9 0) (a9 1), stW G a1 v1, stW G a2 v2, rdW G a3 v3, paW G a7 v7, arW G a12 v12]) (c_L_cell l G b xs L ((30:Int32) + i5) hq14) (va_cwS 2 hts gL_law_L_cell rfl rfl rfl hd_L_cell.2 ⟨Nat.le_of_ble_eq_true rfl, Nat.le_of_ble_eq_true rfl⟩) hX hbl hbA hK hP hD hS hA (is := []) rfl rfl rfl hl.1 rfl (Nat.le_of_ble_eq_true rfl) dL_law_98 ⟨Nat.le_of_ble_eq_true rfl, Nat.le_of_ble_eq_true rfl⟩ rfl (fun H locs hP hD hS => ?_)
  refine lv_istore (lv' := [(7, .int q14.1), (6, .int q13.1), (0, .ref b), (1, .ref (a0 0)), (2, .ref (a12 0)), (3, .int i3), (5, .int i5)]) hx hb dL_law_101 hl (by decide) rfl (fun ls hl => ?_)
  refine lv_aload_n hx hb dL_law_103 rfl (lv_at hl 3 rfl) ?_
  refine lv_iload_n hx hb dL_law_104 rfl (lv_at hl 5 rfl) ?_
  refine lv_iload hx hb dL_law_105 (lv_at hl 1 rfl) ?_
  obtain ⟨q15, hq15, hf⟩ := bd_some hf
  refine g_callSi S (As := [.ref (a0 0), .int i3, .int q13.1]) (gs' := [maW a0 (a1 0) (a2 0) (a3 0) (a4 0) (a7 0 0) (a8 0) (a9 0) (a9 1), stW G a1 q15.2.1, stW G a2 v2, rdW G a3 v3, paW G a7 q15.2.2, arW G a12 v12]) (c_L_prepare l G a0 a1 a2 a3 a4 a5 a6 a7 a8 a9 a10 a11 v1 v7 i3 q13.1 hq15) (va_cwS 3 hts gL_law_L_prepare rfl rfl rfl hd_L_prepare.2 ⟨Nat.le_of_ble_eq_true rfl, Nat.le_of_ble_eq_true rfl⟩) hK hP hD hS hA (is := [0, 1, 4]) rfl rfl rfl hl.1 rfl (Nat.le_of_ble_eq_true rfl) dL_law_107 ⟨Nat.le_of_ble_eq_true rfl, Nat.le_of_ble_eq_true rfl⟩ rfl (fun H locs hP hD hS => ?_)
  refine lv_if_eq (tgt := 143) hx hb dL_law_110 (by decide) (fun c16 => ?_) (fun c16 => ?_)
  · rw [if_pos c16] at hf
    refine lv_iconst (v := (0:Int32)) hx hb dL_law_143 (by decide) ?_
    cases hf
  · rw [if_neg c16] at hf
    refine lv_aload_n hx hb dL_law_113 rfl (lv_at hl 3 rfl) ?_
    refine lv_iload hx hb dL_law_114 (lv_at hl 0 rfl) ?_
    refine lv_iload_n hx hb dL_law_116 rfl (lv_at hl 5 rfl) ?_
    obtain ⟨q17, hq17, hf⟩ := bd_some hf
    refine g_callSi S (As := [.int q14.1, .int i3]) (gs' := [maW a0 (a1 0) (a2 0) (a3 0) (a4 0) (a7 0 0) (a8 0) (a9 0) (a9 1), stW G a1 q15.2.1, stW G a2 v2, rdW G a3 v3, paW G a7 q15.2.2, arW G a12 v12]) (c_L_low l G q14.1 i3 hq17) (va_cwS 2 hts gL_law_L_low rfl rfl rfl hd_L_low.2 ⟨Nat.le_of_ble_eq_true rfl, Nat.le_of_ble_eq_true rfl⟩) hK hP hD hS hA (is := []) rfl rfl rfl hl.1 rfl (Nat.le_of_ble_eq_true rfl) dL_law_117 ⟨Nat.le_of_ble_eq_true rfl, Nat.le_of_ble_eq_true rfl⟩ rfl (fun H locs hP hD hS => ?_)
    obtain ⟨q18, hq18, hf⟩ := bd_some hf
    refine g_callSi S (As := [.ref (a0 0), .int q17.1]) (gs' := [maW a0 (a1 0) (a2 0) (a3 0) (a4 0) (a7 0 0) (a8 0) (a9 0) (a9 1), stW G a1 q18.2.1, stW G a2 q18.2.2.1, rdW G a3 q18.2.2.2.1, paW G a7 q18.2.2.2.2, arW G a12 v12]) (c_L_leastBid l G a0 a1 a2 a3 a4 a5 a6 a7 a8 a9 a10 a11 q15.2.1 v2 v3 q15.2.2 q17.1 hq18) (va_cwS 2 hts gL_law_L_leastBid rfl rfl rfl hd_L_leastBid.2 ⟨Nat.le_of_ble_eq_true rfl, Nat.le_of_ble_eq_true rfl⟩) hK hP hD hS hA (is := [0, 1, 2, 3, 4]) rfl rfl rfl hl.1 rfl (Nat.le_of_ble_eq_true rfl) dL_law_120 ⟨Nat.le_of_ble_eq_true rfl, Nat.le_of_ble_eq_true rfl⟩ rfl (fun H locs hP hD hS => ?_)
    refine lv_if_eq (tgt := 143) hx hb dL_law_123 (by decide) (fun c19 => ?_) (fun c19 => ?_)
    · rw [if_pos c19] at hf
      refine lv_iconst (v := (0:Int32)) hx hb dL_law_143 (by decide) ?_
      cases hf
    · rw [if_neg c19] at hf
      refine lv_aload_n hx hb dL_law_126 rfl (lv_at hl 3 rfl) ?_
      refine lv_iload_n hx hb dL_law_127 rfl (lv_at hl 5 rfl) ?_
      refine lv_aload_n hx hb dL_law_128 rfl (lv_at hl 4 rfl) ?_
      obtain ⟨q20, hq20, hf⟩ := bd_some hf
      refine g_callSi S (As := [.ref (a0 0), .int i3, .ref (a12 0)]) (gs' := [maW a0 (a1 0) (a2 0) (a3 0) (a4 0) (a7 0 0) (a8 0) (a9 0) (a9 1), stW G a1 q20.2.1, stW G a2 q20.2.2.1, rdW G a3 q20.2.2.2.1, paW G a7 q20.2.2.2.2.1, arW G a12 q20.2.2.2.2.2]) (c_L_month l G a0 a1 a2 a3 a4 a5 a6 a7 a8 a9 a10 a11 a12 q18.2.1 q18.2.2.1 q18.2.2.2.1 q18.2.2.2.2 v12 i3 hq20) (va_cwS 3 hts gL_law_L_month rfl rfl rfl hd_L_month.2 ⟨Nat.le_of_ble_eq_true rfl, Nat.le_of_ble_eq_true rfl⟩) hK hP hD hS hA (is := [0, 1, 2, 3, 4, 5]) rfl rfl rfl hl.1 rfl (Nat.le_of_ble_eq_true rfl) dL_law_129 ⟨Nat.le_of_ble_eq_true rfl, Nat.le_of_ble_eq_true rfl⟩ rfl (fun H locs hP hD hS => ?_)
      refine lv_if_eq (tgt := 143) hx hb dL_law_132 (by decide) (fun c21 => ?_) (fun c21 => ?_)
      · rw [if_pos c21] at hf
        refine lv_iconst (v := (0:Int32)) hx hb dL_law_143 (by decide) ?_
        cases hf
      · rw [if_neg c21] at hf
        refine lv_aload_n hx hb dL_law_135 rfl (lv_at hl 3 rfl) ?_
        refine lv_iload_n hx hb dL_law_136 rfl (lv_at hl 5 rfl) ?_
        obtain ⟨q22, hq22, hf⟩ := bd_some hf
        refine g_callSi S (As := [.ref (a0 0), .int i3]) (gs' := [maW a0 (a1 0) (a2 0) (a3 0) (a4 0) (a7 0 0) (a8 0) (a9 0) (a9 1), stW G a1 q20.2.1, stW G a2 q20.2.2.1, rdW G a3 q20.2.2.2.1, paW G a7 q20.2.2.2.2.1, arW G a12 q20.2.2.2.2.2]) (c_L_addUp l G a0 a1 a2 a3 a4 a5 a6 a7 a8 a9 a10 a11 q20.2.1 i3 hq22) (va_cwS 2 hts gL_law_L_addUp rfl rfl rfl hd_L_addUp.2 ⟨Nat.le_of_ble_eq_true rfl, Nat.le_of_ble_eq_true rfl⟩) hK hP hD hS hA (is := [0, 1]) rfl rfl rfl hl.1 rfl (Nat.le_of_ble_eq_true rfl) dL_law_137 ⟨Nat.le_of_ble_eq_true rfl, Nat.le_of_ble_eq_true rfl⟩ rfl (fun H locs hP hD hS => ?_)
        refine lv_if_ne (tgt := 145) hx hb dL_law_140 (by decide) (fun c23 => ?_) (fun c23 => ?_)
        · rw [if_neg c23] at hf
          cases hf
          exact K H locs ls hP hD hS (lv_sub hl [2, 3, 4, 5, 6, 0] rfl)
        · rw [if_pos c23] at hf
          refine lv_iconst (v := (0:Int32)) hx hb dL_law_143 (by decide) ?_
          cases hf
set_option maxHeartbeats 8000000 in
set_option maxRecDepth 100000 in
theorem w_law_145 {p : Program} {l : Launch} {e : Env} {s : State} {m : MethodId} {below : List Frame} {meth : Method} {c : Code} {b L : Nat} {xs : Nat → Int32} {A : Nat → Prop} (S : Ev p s m #[Value.ref b] meth c cL_law 11 (some .boolean) RL wsL_law) {G : uG} (hK : kK G s) (hA : ∀ q, s.heap.size ≤ q → A q) (hX : va_X b L xs s s.heap) (hbl : b < s.heap.size) (hbA : ¬ A b) (a0 : Nat → Nat) (a1 : Nat → Nat) (a2 : Nat → Nat) (a3 : Nat → Nat) (a4 : Nat → Nat) (a5 : Nat → Nat) (a6 : Nat → Nat) (a7 : Nat → Nat → Nat) (a8 : Nat → Nat) (a9 : Nat → Nat) (a10 : Nat → Nat) (a11 : Nat → Nat) (a12 : Nat → Nat) (v1 : StV) (v2 : StV) (v3 : RdV) (v7 : PaV) (v12 : ArV) (i3 : Int32) (i5 : Int32) (i7 : Int32) {w9 : StV × StV × RdV × PaV × ArV} {Q : State → Prop} (hf : f_law_145 xs L v1 v2 v3 v7 v12 i3 i5 i7 = some w9) {H : Heap} {locs : List Loc} {ls : Array Slot} (hP : gP G [maW a0 (a1 0) (a2 0) (a3 0) (a4 0) (a7 0 0) (a8 0) (a9 0) (a9 1), stW G a1 v1, stW G a2 v2, rdW G a3 v3, paW G a7 v7, arW G a12 v12] H) (hD : gD A [maW a0 (a1 0) (a2 0) (a3 0) (a4 0) (a7 0 0) (a8 0) (a9 0) (a9 1), stW G a1 v1, stW G a2 v2, rdW G a3 v3, paW G a7 v7, arW G a12 v12]) (hS : va_S A s.heap H locs) (hl : lv_has ls 11 [(0, .ref b), (1, .ref (a0 0)), (2, .ref (a12 0)), (3, .int i3), (5, .int i5), (7, .int i7)]) (K : ∀ (H : Heap) (locs : List Loc) (ls : Array Slot), gP G [maW a0 (a1 0) (a2 0) (a3 0) (a4 0) (a7 0 0) (a8 0) (a9 0) (a9 1), stW G a1 w9.1, stW G a2 w9.2.1, rdW G a3 w9.2.2.1, paW G a7 w9.2.2.2.1, arW G a12 w9.2.2.2.2] H → gD A [maW a0 (a1 0) (a2 0) (a3 0) (a4 0) (a7 0 0) (a8 0) (a9 0) (a9 1), stW G a1 w9.1, stW G a2 w9.2.1, rdW G a3 w9.2.2.1, paW G a7 w9.2.2.2.1, arW G a12 w9.2.2.2.2] → va_S A s.heap H locs → lv_has ls 11 [(0, .ref b), (1, .ref (a0 0)), (2, .ref (a12 0)), (3, .int i3), (5, .int i5), (7, .int i7)] → W p l e room_1 s m #[Value.ref b] below meth c H locs 262 3399 Q (F0 m 174 ls [])) : W p l e room_1 s m #[Value.ref b] below meth c H locs 262 3399 Q (F0 m 145 ls []) := by
  obtain ⟨hx, hb, hml, hown, hts, hr, hlocks⟩ := id S
  unfold f_law_145 at hf
  refine lv_iload hx hb dL_law_145 (lv_at hl 5 rfl) ?_
  refine lv_iconst (v := (4:Int32)) hx hb dL_law_147 (by decide) ?_
  refine lv_ishr hx hb dL_law_148 ?_
  refine lv_iconst (v := (4:Int32)) hx hb dL_law_149 (by decide) ?_
  obtain ⟨q24, hq24, hf⟩ := bd_some hf
  refine g_callSi S (As := [.int (i7 >>> ((4:Int32) &&& 31)), .int (4:Int32)]) (gs' := [maW a0 (a1 0) (a2 0) (a3 0) (a4 0) (a7 0 0) (a8 0) (a9 0) (a9 1), stW G a1 v1, stW G a2 v2, rdW G a3 v3, paW G a7 v7, arW G a12 v12]) (c_L_low l G (i7 >>> ((4:Int32) &&& 31)) (4:Int32) hq24) (va_cwS 2 hts gL_law_L_low rfl rfl rfl hd_L_low.2 ⟨Nat.le_of_ble_eq_true rfl, Nat.le_of_ble_eq_true rfl⟩) hK hP hD hS hA (is := []) rfl rfl rfl hl.1 rfl (Nat.le_of_ble_eq_true rfl) dL_law_150 ⟨Nat.le_of_ble_eq_true rfl, Nat.le_of_ble_eq_true rfl⟩ rfl (fun H locs hP hD hS => ?_)
  refine lv_if_ne (tgt := 174) hx hb dL_law_153 (by decide) (fun c25 => ?_) (fun c25 => ?_)
  · rw [if_neg c25] at hf
    cases hf
    exact K H locs ls hP hD hS (lv_sub hl [0, 1, 2, 3, 4, 5] rfl)
  · rw [if_pos c25] at hf
    refine lv_aload_n hx hb dL_law_156 rfl (lv_at hl 1 rfl) ?_
    refine lv_iload hx hb dL_law_157 (lv_at hl 5 rfl) ?_
    refine lv_bipush (v := (6:Int32)) hx hb dL_law_159 (by decide) ?_
    refine lv_ishr hx hb dL_law_161 ?_
    refine lv_iload_n hx hb dL_law_162 rfl (lv_at hl 3 rfl) ?_
    obtain ⟨q26, hq26, hf⟩ := bd_some hf
    refine g_callSi S (As := [.int (i7 >>> ((6:Int32) &&& 31)), .int i3]) (gs' := [maW a0 (a1 0) (a2 0) (a3 0) (a4 0) (a7 0 0) (a8 0) (a9 0) (a9 1), stW G a1 v1, stW G a2 v2, rdW G a3 v3, paW G a7 v7, arW G a12 v12]) (c_L_low l G (i7 >>> ((6:Int32) &&& 31)) i3 hq26) (va_cwS 2 hts gL_law_L_low rfl rfl rfl hd_L_low.2 ⟨Nat.le_of_ble_eq_true rfl, Nat.le_of_ble_eq_true rfl⟩) hK hP hD hS hA (is := []) rfl rfl rfl hl.1 rfl (Nat.le_of_ble_eq_true rfl) dL_law_163 ⟨Nat.le_of_ble_eq_true rfl, Nat.le_of_ble_eq_true rfl⟩ rfl (fun H locs hP hD hS => ?_)
    obtain ⟨q27, hq27, hf⟩ := bd_some hf
    refine g_callSi S (As := [.ref (a0 0), .int q26.1]) (gs' := [maW a0 (a1 0) (a2 0) (a3 0) (a4 0) (a7 0 0) (a8 0) (a9 0) (a9 1), stW G a1 q27.2.1, stW G a2 q27.2.2.1, rdW G a3 q27.2.2.2.1, paW G a7 q27.2.2.2.2, arW G a12 v12]) (c_L_inTheEnd l G a0 a1 a2 a3 a4 a5 a6 a7 a8 a9 a10 a11 v1 v2 v3 v7 q26.1 hq27) (va_cwS 2 hts gL_law_L_inTheEnd rfl rfl rfl hd_L_inTheEnd.2 ⟨Nat.le_of_ble_eq_true rfl, Nat.le_of_ble_eq_true rfl⟩) hK hP hD hS hA (is := [0, 1, 2, 3, 4]) rfl rfl rfl hl.1 rfl (Nat.le_of_ble_eq_true rfl) dL_law_166 ⟨Nat.le_of_ble_eq_true rfl, Nat.le_of_ble_eq_true rfl⟩ rfl (fun H locs hP hD hS => ?_)
    refine lv_if_ne (tgt := 174) hx hb dL_law_169 (by decide) (fun c28 => ?_) (fun c28 => ?_)
    · rw [if_neg c28] at hf
      cases hf
      exact K H locs ls hP hD hS (lv_sub hl [0, 1, 2, 3, 4, 5] rfl)
    · rw [if_pos c28] at hf
      refine lv_iconst (v := (0:Int32)) hx hb dL_law_172 (by decide) ?_
      cases hf
set_option maxHeartbeats 8000000 in
set_option maxRecDepth 100000 in
theorem w_law_174 {p : Program} {l : Launch} {e : Env} {s : State} {m : MethodId} {below : List Frame} {meth : Method} {c : Code} {b L : Nat} {xs : Nat → Int32} {A : Nat → Prop} (S : Ev p s m #[Value.ref b] meth c cL_law 11 (some .boolean) RL wsL_law) {G : uG} (hK : kK G s) (hA : ∀ q, s.heap.size ≤ q → A q) (hX : va_X b L xs s s.heap) (hbl : b < s.heap.size) (hbA : ¬ A b) (a0 : Nat → Nat) (a1 : Nat → Nat) (a2 : Nat → Nat) (a3 : Nat → Nat) (a4 : Nat → Nat) (a5 : Nat → Nat) (a6 : Nat → Nat) (a7 : Nat → Nat → Nat) (a8 : Nat → Nat) (a9 : Nat → Nat) (a10 : Nat → Nat) (a11 : Nat → Nat) (a12 : Nat → Nat) (v1 : StV) (v2 : StV) (v3 : RdV) (v7 : PaV) (v12 : ArV) (i3 : Int32) (i5 : Int32) (i7 : Int32) {w9 : StV × StV × RdV × PaV × ArV} {Q : State → Prop} (hf : f_law_174 xs L v1 v2 v3 v7 v12 i3 i5 i7 = some w9) {H : Heap} {locs : List Loc} {ls : Array Slot} (hP : gP G [maW a0 (a1 0) (a2 0) (a3 0) (a4 0) (a7 0 0) (a8 0) (a9 0) (a9 1), stW G a1 v1, stW G a2 v2, rdW G a3 v3, paW G a7 v7, arW G a12 v12] H) (hD : gD A [maW a0 (a1 0) (a2 0) (a3 0) (a4 0) (a7 0 0) (a8 0) (a9 0) (a9 1), stW G a1 v1, stW G a2 v2, rdW G a3 v3, paW G a7 v7, arW G a12 v12]) (hS : va_S A s.heap H locs) (hl : lv_has ls 11 [(0, .ref b), (1, .ref (a0 0)), (2, .ref (a12 0)), (3, .int i3), (5, .int i5), (7, .int i7)]) (K : ∀ (H : Heap) (locs : List Loc) (ls : Array Slot), gP G [maW a0 (a1 0) (a2 0) (a3 0) (a4 0) (a7 0 0) (a8 0) (a9 0) (a9 1), stW G a1 w9.1, stW G a2 w9.2.1, rdW G a3 w9.2.2.1, paW G a7 w9.2.2.2.1, arW G a12 w9.2.2.2.2] H → gD A [maW a0 (a1 0) (a2 0) (a3 0) (a4 0) (a7 0 0) (a8 0) (a9 0) (a9 1), stW G a1 w9.1, stW G a2 w9.2.1, rdW G a3 w9.2.2.1, paW G a7 w9.2.2.2.1, arW G a12 w9.2.2.2.2] → va_S A s.heap H locs → lv_has ls 11 [(0, .ref b), (1, .ref (a0 0)), (2, .ref (a12 0)), (3, .int i3), (5, .int i5), (7, .int i7)] → W p l e room_1 s m #[Value.ref b] below meth c H locs 262 3399 Q (F0 m 204 ls [])) : W p l e room_1 s m #[Value.ref b] below meth c H locs 262 3399 Q (F0 m 174 ls []) := by
  obtain ⟨hx, hb, hml, hown, hts, hr, hlocks⟩ := id S
  unfold f_law_174 at hf
  refine lv_iload hx hb dL_law_174 (lv_at hl 5 rfl) ?_
  refine lv_bipush (v := (10:Int32)) hx hb dL_law_176 (by decide) ?_
  refine lv_ishr hx hb dL_law_178 ?_
  refine lv_iconst (v := (5:Int32)) hx hb dL_law_179 (by decide) ?_
  obtain ⟨q29, hq29, hf⟩ := bd_some hf
  refine g_callSi S (As := [.int (i7 >>> ((10:Int32) &&& 31)), .int (5:Int32)]) (gs' := [maW a0 (a1 0) (a2 0) (a3 0) (a4 0) (a7 0 0) (a8 0) (a9 0) (a9 1), stW G a1 v1, stW G a2 v2, rdW G a3 v3, paW G a7 v7, arW G a12 v12]) (c_L_low l G (i7 >>> ((10:Int32) &&& 31)) (5:Int32) hq29) (va_cwS 2 hts gL_law_L_low rfl rfl rfl hd_L_low.2 ⟨Nat.le_of_ble_eq_true rfl, Nat.le_of_ble_eq_true rfl⟩) hK hP hD hS hA (is := []) rfl rfl rfl hl.1 rfl (Nat.le_of_ble_eq_true rfl) dL_law_180 ⟨Nat.le_of_ble_eq_true rfl, Nat.le_of_ble_eq_true rfl⟩ rfl (fun H locs hP hD hS => ?_)
  refine lv_if_ne (tgt := 204) hx hb dL_law_183 (by decide) (fun c30 => ?_) (fun c30 => ?_)
  · rw [if_neg c30] at hf
    cases hf
    exact K H locs ls hP hD hS (lv_sub hl [0, 1, 2, 3, 4, 5] rfl)
  · rw [if_pos c30] at hf
    refine lv_aload_n hx hb dL_law_186 rfl (lv_at hl 1 rfl) ?_
    refine lv_iload hx hb dL_law_187 (lv_at hl 5 rfl) ?_
    refine lv_bipush (v := (13:Int32)) hx hb dL_law_189 (by decide) ?_
    refine lv_ishr hx hb dL_law_191 ?_
    refine lv_iload_n hx hb dL_law_192 rfl (lv_at hl 3 rfl) ?_
    obtain ⟨q31, hq31, hf⟩ := bd_some hf
    refine g_callSi S (As := [.int (i7 >>> ((13:Int32) &&& 31)), .int i3]) (gs' := [maW a0 (a1 0) (a2 0) (a3 0) (a4 0) (a7 0 0) (a8 0) (a9 0) (a9 1), stW G a1 v1, stW G a2 v2, rdW G a3 v3, paW G a7 v7, arW G a12 v12]) (c_L_low l G (i7 >>> ((13:Int32) &&& 31)) i3 hq31) (va_cwS 2 hts gL_law_L_low rfl rfl rfl hd_L_low.2 ⟨Nat.le_of_ble_eq_true rfl, Nat.le_of_ble_eq_true rfl⟩) hK hP hD hS hA (is := []) rfl rfl rfl hl.1 rfl (Nat.le_of_ble_eq_true rfl) dL_law_193 ⟨Nat.le_of_ble_eq_true rfl, Nat.le_of_ble_eq_true rfl⟩ rfl (fun H locs hP hD hS => ?_)
    obtain ⟨q32, hq32, hf⟩ := bd_some hf
    refine g_callSi S (As := [.ref (a0 0), .int q31.1]) (gs' := [maW a0 (a1 0) (a2 0) (a3 0) (a4 0) (a7 0 0) (a8 0) (a9 0) (a9 1), stW G a1 q32.2.1, stW G a2 v2, rdW G a3 v3, paW G a7 q32.2.2, arW G a12 v12]) (c_L_leave l G a0 a1 a2 a3 a4 a5 a6 a7 a8 a9 a10 a11 v1 v7 q31.1 hq32) (va_cwS 2 hts gL_law_L_leave rfl rfl rfl hd_L_leave.2 ⟨Nat.le_of_ble_eq_true rfl, Nat.le_of_ble_eq_true rfl⟩) hK hP hD hS hA (is := [0, 1, 4]) rfl rfl rfl hl.1 rfl (Nat.le_of_ble_eq_true rfl) dL_law_196 ⟨Nat.le_of_ble_eq_true rfl, Nat.le_of_ble_eq_true rfl⟩ rfl (fun H locs hP hD hS => ?_)
    refine lv_if_ne (tgt := 204) hx hb dL_law_199 (by decide) (fun c33 => ?_) (fun c33 => ?_)
    · rw [if_neg c33] at hf
      cases hf
      exact K H locs ls hP hD hS (lv_sub hl [0, 1, 2, 3, 4, 5] rfl)
    · rw [if_pos c33] at hf
      refine lv_iconst (v := (0:Int32)) hx hb dL_law_202 (by decide) ?_
      cases hf
set_option maxHeartbeats 8000000 in
set_option maxRecDepth 100000 in
theorem w_law_204 {p : Program} {l : Launch} {e : Env} {s : State} {m : MethodId} {below : List Frame} {meth : Method} {c : Code} {b L : Nat} {xs : Nat → Int32} {A : Nat → Prop} (S : Ev p s m #[Value.ref b] meth c cL_law 11 (some .boolean) RL wsL_law) {G : uG} (hK : kK G s) (hA : ∀ q, s.heap.size ≤ q → A q) (hX : va_X b L xs s s.heap) (hbl : b < s.heap.size) (hbA : ¬ A b) (a0 : Nat → Nat) (a1 : Nat → Nat) (a2 : Nat → Nat) (a3 : Nat → Nat) (a4 : Nat → Nat) (a5 : Nat → Nat) (a6 : Nat → Nat) (a7 : Nat → Nat → Nat) (a8 : Nat → Nat) (a9 : Nat → Nat) (a10 : Nat → Nat) (a11 : Nat → Nat) (a12 : Nat → Nat) (v1 : StV) (v2 : StV) (v3 : RdV) (v7 : PaV) (v12 : ArV) (i3 : Int32) (i5 : Int32) (i7 : Int32) {w9 : StV × StV × RdV × PaV × ArV × Int32} {Q : State → Prop} (hf : f_law_204 xs L v1 v2 v3 v7 v12 i3 i5 i7 = some w9) {H : Heap} {locs : List Loc} {ls : Array Slot} (hP : gP G [maW a0 (a1 0) (a2 0) (a3 0) (a4 0) (a7 0 0) (a8 0) (a9 0) (a9 1), stW G a1 v1, stW G a2 v2, rdW G a3 v3, paW G a7 v7, arW G a12 v12] H) (hD : gD A [maW a0 (a1 0) (a2 0) (a3 0) (a4 0) (a7 0 0) (a8 0) (a9 0) (a9 1), stW G a1 v1, stW G a2 v2, rdW G a3 v3, paW G a7 v7, arW G a12 v12]) (hS : va_S A s.heap H locs) (hl : lv_has ls 11 [(0, .ref b), (1, .ref (a0 0)), (2, .ref (a12 0)), (3, .int i3), (5, .int i5), (7, .int i7)]) (K : ∀ (H : Heap) (locs : List Loc) (ls : Array Slot), gP G [maW a0 (a1 0) (a2 0) (a3 0) (a4 0) (a7 0 0) (a8 0) (a9 0) (a9 1), stW G a1 w9.1, stW G a2 w9.2.1, rdW G a3 w9.2.2.1, paW G a7 w9.2.2.2.1, arW G a12 w9.2.2.2.2.1] H → gD A [maW a0 (a1 0) (a2 0) (a3 0) (a4 0) (a7 0 0) (a8 0) (a9 0) (a9 1), stW G a1 w9.1, stW G a2 w9.2.1, rdW G a3 w9.2.2.1, paW G a7 w9.2.2.2.1, arW G a12 w9.2.2.2.2.1] → va_S A s.heap H locs → lv_has ls 11 [(0, .ref b), (1, .ref (a0 0)), (2, .ref (a12 0)), (3, .int i3), (5, .int i5), (7, .int i7), (8, .int w9.2.2.2.2.2)] → W p l e room_1 s m #[Value.ref b] below meth c H locs 262 3399 Q (F0 m 249 ls [])) : W p l e room_1 s m #[Value.ref b] below meth c H locs 262 3399 Q (F0 m 204 ls []) := by
  obtain ⟨hx, hb, hml, hown, hts, hr, hlocks⟩ := id S
  unfold f_law_204 at hf
  refine lv_iload hx hb dL_law_204 (lv_at hl 5 rfl) ?_
  refine lv_bipush (v := (16:Int32)) hx hb dL_law_206 (by decide) ?_
  refine lv_ishr hx hb dL_law_208 ?_
  refine lv_iload_n hx hb dL_law_209 rfl (lv_at hl 3 rfl) ?_
  obtain ⟨q34, hq34, hf⟩ := bd_some hf
  refine g_callSi S (As := [.int (i7 >>> ((16:Int32) &&& 31)), .int i3]) (gs' := [maW a0 (a1 0) (a2 0) (a3 0) (a4 0) (a7 0 0) (a8 0) (a9 0) (a9 1), stW G a1 v1, stW G a2 v2, rdW G a3 v3, paW G a7 v7, arW G a12 v12]) (c_L_low l G (i7 >>> ((16:Int32) &&& 31)) i3 hq34) (va_cwS 2 hts gL_law_L_low rfl rfl rfl hd_L_low.2 ⟨Nat.le_of_ble_eq_true rfl, Nat.le_of_ble_eq_true rfl⟩) hK hP hD hS hA (is := []) rfl rfl rfl hl.1 rfl (Nat.le_of_ble_eq_true rfl) dL_law_210 ⟨Nat.le_of_ble_eq_true rfl, Nat.le_of_ble_eq_true rfl⟩ rfl (fun H locs hP hD hS => ?_)
  refine lv_istore (lv' := [(8, .int q34.1), (0, .ref b), (1, .ref (a0 0)), (2, .ref (a12 0)), (3, .int i3), (5, .int i5), (7, .int i7)]) hx hb dL_law_213 hl (by decide) rfl (fun ls hl => ?_)
  refine lv_iload_n hx hb dL_law_215 rfl (lv_at hl 4 rfl) ?_
  refine lv_iconst (v := (1:Int32)) hx hb dL_law_216 (by decide) ?_
  refine lv_icmp_le (tgt := 249) hx hb dL_law_217 (by decide) (fun c35 => ?_) (fun c35 => ?_)
  · rw [if_pos c35] at hf
    cases hf
    exact K H locs ls hP hD hS (lv_sub hl [1, 2, 3, 4, 5, 6, 0] rfl)
  · rw [if_neg c35] at hf
    refine lv_aload_n hx hb dL_law_220 rfl (lv_at hl 2 rfl) ?_
    refine lv_iload hx hb dL_law_221 (lv_at hl 0 rfl) ?_
    refine lv_iload hx hb dL_law_223 (lv_at hl 0 rfl) ?_
    refine lv_iconst (v := (1:Int32)) hx hb dL_law_225 (by decide) ?_
    refine lv_iadd hx hb dL_law_226 ?_
    refine lv_iload hx hb dL_law_227 (lv_at hl 6 rfl) ?_
    refine lv_bipush (v := (20:Int32)) hx hb dL_law_229 (by decide) ?_
    refine lv_ishr hx hb dL_law_231 ?_
    refine lv_iload_n hx hb dL_law_232 rfl (lv_at hl 4 rfl) ?_
    refine lv_iconst (v := (1:Int32)) hx hb dL_law_233 (by decide) ?_
    refine lv_isub hx hb dL_law_234 ?_
    obtain ⟨q36, hq36, hf⟩ := bd_some hf
    refine g_callSi S (As := [.int (i7 >>> ((20:Int32) &&& 31)), .int (i3 - (1:Int32))]) (gs' := [maW a0 (a1 0) (a2 0) (a3 0) (a4 0) (a7 0 0) (a8 0) (a9 0) (a9 1), stW G a1 v1, stW G a2 v2, rdW G a3 v3, paW G a7 v7, arW G a12 v12]) (c_L_low l G (i7 >>> ((20:Int32) &&& 31)) (i3 - (1:Int32)) hq36) (va_cwS 2 hts gL_law_L_low rfl rfl rfl hd_L_low.2 ⟨Nat.le_of_ble_eq_true rfl, Nat.le_of_ble_eq_true rfl⟩) hK hP hD hS hA (is := []) rfl rfl rfl hl.1 rfl (Nat.le_of_ble_eq_true rfl) dL_law_235 ⟨Nat.le_of_ble_eq_true rfl, Nat.le_of_ble_eq_true rfl⟩ rfl (fun H locs hP hD hS => ?_)
    refine lv_iadd hx hb dL_law_238 ?_
    refine lv_iload_n hx hb dL_law_239 rfl (lv_at hl 4 rfl) ?_
    obtain ⟨h37, hf⟩ := gz_some hf
    refine lv_irem hx hb dL_law_240 h37 ?_
    obtain ⟨x38, ex38, hf⟩ := lt_some hf
    refine lv_nmi ex38 ?_
    obtain ⟨q39, hq39, hf⟩ := bd_some hf
    refine g_callSi S (As := [.ref (a0 0), .int q34.1, .int x38]) (gs' := [maW a0 (a1 0) (a2 0) (a3 0) (a4 0) (a7 0 0) (a8 0) (a9 0) (a9 1), stW G a1 q39.2.1, stW G a2 v2, rdW G a3 v3, paW G a7 q39.2.2, arW G a12 v12]) (c_L_repay l G a0 a1 a2 a3 a4 a5 a6 a7 a8 a9 a10 a11 v1 v7 q34.1 x38 hq39) (va_cwS 3 hts gL_law_L_repay rfl rfl rfl hd_L_repay.2 ⟨Nat.le_of_ble_eq_true rfl, Nat.le_of_ble_eq_true rfl⟩) hK hP hD hS hA (is := [0, 1, 4]) rfl rfl rfl hl.1 rfl (Nat.le_of_ble_eq_true rfl) dL_law_241 ⟨Nat.le_of_ble_eq_true rfl, Nat.le_of_ble_eq_true rfl⟩ rfl (fun H locs hP hD hS => ?_)
    refine lv_if_ne (tgt := 249) hx hb dL_law_244 (by decide) (fun c40 => ?_) (fun c40 => ?_)
    · rw [if_neg c40] at hf
      cases hf
      exact K H locs ls hP hD hS (lv_sub hl [1, 2, 3, 4, 5, 6, 0] rfl)
    · rw [if_pos c40] at hf
      refine lv_iconst (v := (0:Int32)) hx hb dL_law_247 (by decide) ?_
      cases hf
set_option maxHeartbeats 8000000 in
set_option maxRecDepth 100000 in
theorem w_law_249 {p : Program} {l : Launch} {e : Env} {s : State} {m : MethodId} {below : List Frame} {meth : Method} {c : Code} {b L : Nat} {xs : Nat → Int32} {A : Nat → Prop} (S : Ev p s m #[Value.ref b] meth c cL_law 11 (some .boolean) RL wsL_law) {G : uG} (hK : kK G s) (hA : ∀ q, s.heap.size ≤ q → A q) (hX : va_X b L xs s s.heap) (hbl : b < s.heap.size) (hbA : ¬ A b) (a0 : Nat → Nat) (a1 : Nat → Nat) (a2 : Nat → Nat) (a3 : Nat → Nat) (a4 : Nat → Nat) (a5 : Nat → Nat) (a6 : Nat → Nat) (a7 : Nat → Nat → Nat) (a8 : Nat → Nat) (a9 : Nat → Nat) (a10 : Nat → Nat) (a11 : Nat → Nat) (a12 : Nat → Nat) (v1 : StV) (v2 : StV) (v3 : RdV) (v7 : PaV) (v12 : ArV) (i3 : Int32) (i5 : Int32) (i7 : Int32) (i8 : Int32) {w9 : StV × StV × RdV × PaV × ArV} {Q : State → Prop} (hf : f_law_249 xs L v1 v2 v3 v7 v12 i3 i5 i7 i8 = some w9) {H : Heap} {locs : List Loc} {ls : Array Slot} (hP : gP G [maW a0 (a1 0) (a2 0) (a3 0) (a4 0) (a7 0 0) (a8 0) (a9 0) (a9 1), stW G a1 v1, stW G a2 v2, rdW G a3 v3, paW G a7 v7, arW G a12 v12] H) (hD : gD A [maW a0 (a1 0) (a2 0) (a3 0) (a4 0) (a7 0 0) (a8 0) (a9 0) (a9 1), stW G a1 v1, stW G a2 v2, rdW G a3 v3, paW G a7 v7, arW G a12 v12]) (hS : va_S A s.heap H locs) (hl : lv_has ls 11 [(0, .ref b), (1, .ref (a0 0)), (2, .ref (a12 0)), (3, .int i3), (5, .int i5), (7, .int i7), (8, .int i8)]) (K : ∀ (H : Heap) (locs : List Loc) (ls : Array Slot), gP G [maW a0 (a1 0) (a2 0) (a3 0) (a4 0) (a7 0 0) (a8 0) (a9 0) (a9 1), stW G a1 w9.1, stW G a2 w9.2.1, rdW G a3 w9.2.2.1, paW G a7 w9.2.2.2.1, arW G a12 w9.2.2.2.2] H → gD A [maW a0 (a1 0) (a2 0) (a3 0) (a4 0) (a7 0 0) (a8 0) (a9 0) (a9 1), stW G a1 w9.1, stW G a2 w9.2.1, rdW G a3 w9.2.2.1, paW G a7 w9.2.2.2.1, arW G a12 w9.2.2.2.2] → va_S A s.heap H locs → lv_has ls 11 [(0, .ref b), (1, .ref (a0 0)), (2, .ref (a12 0)), (3, .int i3), (5, .int i5), (7, .int i7), (8, .int i8)] → W p l e room_1 s m #[Value.ref b] below meth c H locs 262 3399 Q (F0 m 302 ls [])) : W p l e room_1 s m #[Value.ref b] below meth c H locs 262 3399 Q (F0 m 249 ls []) := by
  obtain ⟨hx, hb, hml, hown, hts, hr, hlocks⟩ := id S
  unfold f_law_249 at hf
  refine lv_iload hx hb dL_law_249 (lv_at hl 5 rfl) ?_
  refine lv_bipush (v := (24:Int32)) hx hb dL_law_251 (by decide) ?_
  refine lv_ishr hx hb dL_law_253 ?_
  refine lv_iconst (v := (3:Int32)) hx hb dL_law_254 (by decide) ?_
  obtain ⟨q41, hq41, hf⟩ := bd_some hf
  refine g_callSi S (As := [.int (i7 >>> ((24:Int32) &&& 31)), .int (3:Int32)]) (gs' := [maW a0 (a1 0) (a2 0) (a3 0) (a4 0) (a7 0 0) (a8 0) (a9 0) (a9 1), stW G a1 v1, stW G a2 v2, rdW G a3 v3, paW G a7 v7, arW G a12 v12]) (c_L_low l G (i7 >>> ((24:Int32) &&& 31)) (3:Int32) hq41) (va_cwS 2 hts gL_law_L_low rfl rfl rfl hd_L_low.2 ⟨Nat.le_of_ble_eq_true rfl, Nat.le_of_ble_eq_true rfl⟩) hK hP hD hS hA (is := []) rfl rfl rfl hl.1 rfl (Nat.le_of_ble_eq_true rfl) dL_law_255 ⟨Nat.le_of_ble_eq_true rfl, Nat.le_of_ble_eq_true rfl⟩ rfl (fun H locs hP hD hS => ?_)
  refine lv_if_ne (tgt := 302) hx hb dL_law_258 (by decide) (fun c42 => ?_) (fun c42 => ?_)
  · rw [if_neg c42] at hf
    cases hf
    exact K H locs ls hP hD hS (lv_sub hl [0, 1, 2, 3, 4, 5, 6] rfl)
  · rw [if_pos c42] at hf
    refine lv_aload_n hx hb dL_law_261 rfl (lv_at hl 1 rfl) ?_
    refine lv_iload hx hb dL_law_262 (lv_at hl 6 rfl) ?_
    refine lv_iconst (v := (0:Int32)) hx hb dL_law_264 (by decide) ?_
    obtain ⟨q43, hq43, hf⟩ := bd_some hf
    refine g_callVi S (As := [.int i8, .int (0:Int32)]) (gs' := [maW a0 (a1 0) (a2 0) (a3 0) (a4 0) (a7 0 0) (a8 0) (a9 0) (a9 1), stW G a1 v1, stW G a2 v2, rdW G a3 v3, paW G a7 v7, arW G a12 v12]) (c_X5_member l G a0 a1 a2 a3 a4 a5 a6 a7 a8 a9 a10 a11 v1 i8 (0:Int32) hq43) (cwV 2 hts gL_law_X5_member rfl rfl rfl hd_X5_member ⟨Nat.le_of_ble_eq_true rfl, Nat.le_of_ble_eq_true rfl⟩) hK hP hD hS hA (is := [0, 1]) rfl rfl 0 rfl rfl rfl rfl hl.1 rfl (Nat.le_of_ble_eq_true rfl) dL_law_265 ⟨Nat.le_of_ble_eq_true rfl, Nat.le_of_ble_eq_true rfl⟩ rfl (fun H locs hP hD hS => ?_)
    refine lv_istore (lv' := [(9, .int q43.1), (0, .ref b), (1, .ref (a0 0)), (2, .ref (a12 0)), (3, .int i3), (5, .int i5), (7, .int i7), (8, .int i8)]) hx hb dL_law_268 hl (by decide) rfl (fun ls hl => ?_)
    refine lv_iconst (v := (1:Int32)) hx hb dL_law_270 (by decide) ?_
    refine lv_iload hx hb dL_law_271 (lv_at hl 6 rfl) ?_
    refine lv_bipush (v := (26:Int32)) hx hb dL_law_273 (by decide) ?_
    refine lv_ishr hx hb dL_law_275 ?_
    refine lv_bipush (v := (30:Int32)) hx hb dL_law_276 (by decide) ?_
    obtain ⟨q44, hq44, hf⟩ := bd_some hf
    refine g_callSi S (As := [.int (i7 >>> ((26:Int32) &&& 31)), .int (30:Int32)]) (gs' := [maW a0 (a1 0) (a2 0) (a3 0) (a4 0) (a7 0 0) (a8 0) (a9 0) (a9 1), stW G a1 v1, stW G a2 v2, rdW G a3 v3, paW G a7 v7, arW G a12 v12]) (c_L_low l G (i7 >>> ((26:Int32) &&& 31)) (30:Int32) hq44) (va_cwS 2 hts gL_law_L_low rfl rfl rfl hd_L_low.2 ⟨Nat.le_of_ble_eq_true rfl, Nat.le_of_ble_eq_true rfl⟩) hK hP hD hS hA (is := []) rfl rfl rfl hl.1 rfl (Nat.le_of_ble_eq_true rfl) dL_law_278 ⟨Nat.le_of_ble_eq_true rfl, Nat.le_of_ble_eq_true rfl⟩ rfl (fun H locs hP hD hS => ?_)
    refine lv_iadd hx hb dL_law_281 ?_
    obtain ⟨x45, ex45, hf⟩ := lt_some hf
    refine lv_nmi ex45 ?_
    refine lv_istore (lv' := [(10, .int x45), (9, .int q43.1), (0, .ref b), (1, .ref (a0 0)), (2, .ref (a12 0)), (3, .int i3), (5, .int i5), (7, .int i7), (8, .int i8)]) hx hb dL_law_282 hl (by decide) rfl (fun ls hl => ?_)
    refine lv_aload_n hx hb dL_law_284 rfl (lv_at hl 3 rfl) ?_
    refine lv_iload hx hb dL_law_285 (lv_at hl 8 rfl) ?_
    refine lv_iload hx hb dL_law_287 (lv_at hl 0 rfl) ?_
    obtain ⟨q46, hq46, hf⟩ := bd_some hf
    refine g_callVi S (As := [.int i8, .int x45]) (gs' := [maW a0 (a1 0) (a2 0) (a3 0) (a4 0) (a7 0 0) (a8 0) (a9 0) (a9 1), stW G a1 q46.2.1, stW G a2 v2, rdW G a3 v3, paW G a7 q46.2.2, arW G a12 v12]) (c_X5_give l G a0 a1 a2 a3 a4 a5 a6 a7 a8 a9 a10 a11 v1 v7 i8 x45 hq46) (cwV 2 hts gL_law_X5_give rfl rfl rfl hd_X5_give ⟨Nat.le_of_ble_eq_true rfl, Nat.le_of_ble_eq_true rfl⟩) hK hP hD hS hA (is := [0, 1, 4]) rfl rfl 0 rfl rfl rfl rfl hl.1 rfl (Nat.le_of_ble_eq_true rfl) dL_law_289 ⟨Nat.le_of_ble_eq_true rfl, Nat.le_of_ble_eq_true rfl⟩ rfl (fun H locs hP hD hS => ?_)
    refine lv_iload hx hb dL_law_292 (lv_at hl 1 rfl) ?_
    refine lv_iload hx hb dL_law_294 (lv_at hl 0 rfl) ?_
    refine lv_iadd hx hb dL_law_296 ?_
    refine lv_icmp_eq (tgt := 302) hx hb dL_law_297 (by decide) (fun c47 => ?_) (fun c47 => ?_)
    · rw [if_pos c47] at hf
      cases hf
      exact K H locs ls hP hD hS (lv_sub hl [2, 3, 4, 5, 6, 7, 8] rfl)
    · rw [if_neg c47] at hf
      refine lv_iconst (v := (0:Int32)) hx hb dL_law_300 (by decide) ?_
      cases hf
set_option maxHeartbeats 8000000 in
set_option maxRecDepth 100000 in
theorem w_law_302 {p : Program} {l : Launch} {e : Env} {s : State} {m : MethodId} {below : List Frame} {meth : Method} {c : Code} {b L : Nat} {xs : Nat → Int32} {A : Nat → Prop} (S : Ev p s m #[Value.ref b] meth c cL_law 11 (some .boolean) RL wsL_law) {G : uG} (hK : kK G s) (hA : ∀ q, s.heap.size ≤ q → A q) (hX : va_X b L xs s s.heap) (hbl : b < s.heap.size) (hbA : ¬ A b) (a0 : Nat → Nat) (a1 : Nat → Nat) (a2 : Nat → Nat) (a3 : Nat → Nat) (a4 : Nat → Nat) (a5 : Nat → Nat) (a6 : Nat → Nat) (a7 : Nat → Nat → Nat) (a8 : Nat → Nat) (a9 : Nat → Nat) (a10 : Nat → Nat) (a11 : Nat → Nat) (a12 : Nat → Nat) (v1 : StV) (v2 : StV) (v3 : RdV) (v7 : PaV) (v12 : ArV) (i3 : Int32) (i5 : Int32) {w9 : StV × StV × RdV × PaV × ArV} {Q : State → Prop} (hf : f_law_302 xs L v1 v2 v3 v7 v12 i3 i5 = some w9) {H : Heap} {locs : List Loc} {ls : Array Slot} (hP : gP G [maW a0 (a1 0) (a2 0) (a3 0) (a4 0) (a7 0 0) (a8 0) (a9 0) (a9 1), stW G a1 v1, stW G a2 v2, rdW G a3 v3, paW G a7 v7, arW G a12 v12] H) (hD : gD A [maW a0 (a1 0) (a2 0) (a3 0) (a4 0) (a7 0 0) (a8 0) (a9 0) (a9 1), stW G a1 v1, stW G a2 v2, rdW G a3 v3, paW G a7 v7, arW G a12 v12]) (hS : va_S A s.heap H locs) (hl : lv_has ls 11 [(0, .ref b), (1, .ref (a0 0)), (2, .ref (a12 0)), (3, .int i3), (5, .int i5)]) (K : ∀ (H : Heap) (locs : List Loc) (ls : Array Slot), gP G [maW a0 (a1 0) (a2 0) (a3 0) (a4 0) (a7 0 0) (a8 0) (a9 0) (a9 1), stW G a1 w9.1, stW G a2 w9.2.1, rdW G a3 w9.2.2.1, paW G a7 w9.2.2.2.1, arW G a12 w9.2.2.2.2] H → gD A [maW a0 (a1 0) (a2 0) (a3 0) (a4 0) (a7 0 0) (a8 0) (a9 0) (a9 1), stW G a1 w9.1, stW G a2 w9.2.1, rdW G a3 w9.2.2.1, paW G a7 w9.2.2.2.1, arW G a12 w9.2.2.2.2] → va_S A s.heap H locs → lv_has ls 11 [(0, .ref b), (1, .ref (a0 0)), (2, .ref (a12 0)), (3, .int i3), (5, .int i5)] → W p l e room_1 s m #[Value.ref b] below meth c H locs 262 3399 Q (F0 m 312 ls [])) : W p l e room_1 s m #[Value.ref b] below meth c H locs 262 3399 Q (F0 m 302 ls []) := by
  obtain ⟨hx, hb, hml, hown, hts, hr, hlocks⟩ := id S
  unfold f_law_302 at hf
  refine lv_aload_n hx hb dL_law_302 rfl (lv_at hl 1 rfl) ?_
  refine lv_iload_n hx hb dL_law_303 rfl (lv_at hl 3 rfl) ?_
  obtain ⟨q48, hq48, hf⟩ := bd_some hf
  refine g_callSi S (As := [.ref (a0 0), .int i3]) (gs' := [maW a0 (a1 0) (a2 0) (a3 0) (a4 0) (a7 0 0) (a8 0) (a9 0) (a9 1), stW G a1 v1, stW G a2 v2, rdW G a3 v3, paW G a7 v7, arW G a12 v12]) (c_L_addUp l G a0 a1 a2 a3 a4 a5 a6 a7 a8 a9 a10 a11 v1 i3 hq48) (va_cwS 2 hts gL_law_L_addUp rfl rfl rfl hd_L_addUp.2 ⟨Nat.le_of_ble_eq_true rfl, Nat.le_of_ble_eq_true rfl⟩) hK hP hD hS hA (is := [0, 1]) rfl rfl rfl hl.1 rfl (Nat.le_of_ble_eq_true rfl) dL_law_304 ⟨Nat.le_of_ble_eq_true rfl, Nat.le_of_ble_eq_true rfl⟩ rfl (fun H locs hP hD hS => ?_)
  refine lv_if_ne (tgt := 312) hx hb dL_law_307 (by decide) (fun c49 => ?_) (fun c49 => ?_)
  · rw [if_neg c49] at hf
    cases hf
    exact K H locs ls hP hD hS (lv_sub hl [0, 1, 2, 3, 4] rfl)
  · rw [if_pos c49] at hf
    refine lv_iconst (v := (0:Int32)) hx hb dL_law_310 (by decide) ?_
    cases hf
