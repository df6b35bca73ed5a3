theorem hd_X0_takeBack : yX0_takeBack.cls = RX0 ∧ yX0_takeBack.cls ≠ "java/lang/invoke/MethodHandle" ∧ yX0_takeBack.cls ≠ "java/lang/invoke/VarHandle" ∧ (parseMethodDescriptor yX0_takeBack.desc).map (fun d => d.parameters.length) = some 1 := by decide +kernel
theorem hd_X1_greatestBidBeside : yX1_greatestBidBeside.cls = RX1 ∧ yX1_greatestBidBeside.cls ≠ "java/lang/invoke/MethodHandle" ∧ yX1_greatestBidBeside.cls ≠ "java/lang/invoke/VarHandle" ∧ (parseMethodDescriptor yX1_greatestBidBeside.desc).map (fun d => d.parameters.length) = some 2 := by decide +kernel
theorem hd_X2_succeeds : yX2_succeeds.cls = RX2 ∧ yX2_succeeds.cls ≠ "java/lang/invoke/MethodHandle" ∧ yX2_succeeds.cls ≠ "java/lang/invoke/VarHandle" ∧ (parseMethodDescriptor yX2_succeeds.desc).map (fun d => d.parameters.length) = some 1 := by decide +kernel
theorem hd_X3_countTaken : yX3_countTaken.cls = RX3 ∧ yX3_countTaken.cls ≠ "java/lang/invoke/MethodHandle" ∧ yX3_countTaken.cls ≠ "java/lang/invoke/VarHandle" ∧ (parseMethodDescriptor yX3_countTaken.desc).map (fun d => d.parameters.length) = some 0 := by decide +kernel
theorem hd_X3_decide : yX3_decide.cls = RX3 ∧ yX3_decide.cls ≠ "java/lang/invoke/MethodHandle" ∧ yX3_decide.cls ≠ "java/lang/invoke/VarHandle" ∧ (parseMethodDescriptor yX3_decide.desc).map (fun d => d.parameters.length) = some 2 := by decide +kernel
theorem hd_X3_sumOfMisses : yX3_sumOfMisses.cls = RX3 ∧ yX3_sumOfMisses.cls ≠ "java/lang/invoke/MethodHandle" ∧ yX3_sumOfMisses.cls ≠ "java/lang/invoke/VarHandle" ∧ (parseMethodDescriptor yX3_sumOfMisses.desc).map (fun d => d.parameters.length) = some 0 := by decide +kernel
theorem hd_X5_potWithout : yX5_potWithout.cls = RX5 ∧ yX5_potWithout.cls ≠ "java/lang/invoke/MethodHandle" ∧ yX5_potWithout.cls ≠ "java/lang/invoke/VarHandle" ∧ (parseMethodDescriptor yX5_potWithout.desc).map (fun d => d.parameters.length) = some 1 := by decide +kernel
theorem hd_X5_requireSlot : yX5_requireSlot.cls = RX5 ∧ yX5_requireSlot.cls ≠ "java/lang/invoke/MethodHandle" ∧ yX5_requireSlot.cls ≠ "java/lang/invoke/VarHandle" ∧ (parseMethodDescriptor yX5_requireSlot.desc).map (fun d => d.parameters.length) = some 1 := by decide +kernel
theorem hd_X5_withoutLowGroups : yX5_withoutLowGroups.cls = RX5 ∧ yX5_withoutLowGroups.cls ≠ "java/lang/invoke/MethodHandle" ∧ yX5_withoutLowGroups.cls ≠ "java/lang/invoke/VarHandle" ∧ (parseMethodDescriptor yX5_withoutLowGroups.desc).map (fun d => d.parameters.length) = some 2 := by decide +kernel
theorem kX5_stayAway_0 : Cond.fieldLink RX5 36 "SavingsCircle" "past" "LSavingsCircle$Past;" ∈ wsX5_stayAway := (List.mem_cons_of_mem _ (List.mem_append_left _ (List.mem_append_left _ (List.mem_append_left _ (List.mem_append_left _ (List.mem_append_left _ (List.mem_of_getElem? (i := 0) rfl)))))))
theorem kX5_stayAway_1 : Cond.fieldLink RX5 10 "SavingsCircle" "now" "LSavingsCircle$State;" ∈ wsX5_stayAway := (List.mem_cons_of_mem _ (List.mem_append_left _ (List.mem_append_left _ (List.mem_append_left _ (List.mem_append_left _ (List.mem_append_left _ (List.mem_of_getElem? (i := 1) rfl)))))))
theorem kX5_stayAway_2 : Cond.fieldLink RX5 135 "SavingsCircle$State" "away" "[Z" ∈ wsX5_stayAway := (List.mem_cons_of_mem _ (List.mem_append_left _ (List.mem_append_left _ (List.mem_append_left _ (List.mem_append_left _ (List.mem_append_left _ (List.mem_of_getElem? (i := 2) rfl)))))))
theorem iwX5_stayAway_X5 : ∀ w ∈ wsX50, w ∈ wsX5_stayAway := fun w h => (List.mem_cons_of_mem _ (List.mem_append_left _ (List.mem_append_left _ (List.mem_append_left _ (List.mem_append_right _ h)))))
theorem iwX5_stayAway_X3 : ∀ w ∈ wsX30, w ∈ wsX5_stayAway := fun w h => (List.mem_cons_of_mem _ (List.mem_append_left _ (List.mem_append_left _ (List.mem_append_right _ h))))
set_option maxHeartbeats 4000000 in
set_option maxRecDepth 100000 in
theorem c_X5_stayAway (l : Launch) (hl0 : l.stackTraces = false) (G : uG) (a0 : Nat → Nat) (a1 : Nat → Nat) (a2 : Nat → Nat) (a3 : Nat → Nat) (a4 : Nat → Nat) (a5 : Nat → Nat) (a6 : Nat → Nat) (a7 : Nat → Nat → Nat) (a8 : Nat → Nat) (a9 : Nat → Nat) (a10 : Nat → Nat) (a11 : Nat → Nat) (v1 : StV) (v7 : PaV) (i1 : Int32) (i2 : Int32) {q : (Int32 × (StV × PaV)) ⊕ (String × (StV × PaV))} (hf : f_X5_stayAway v1 v7 i1 i2 = some q) : mX l yX5_stayAway wsX5_stayAway ({ frames := 7, cells := 1, slots := 6, locals := 113 } : Room) G [.ref (a0 0), .int i1, .int i2] [maW a0 (a1 0) (a2 0) (a3 0) (a4 0) (a7 0 0) (a8 0) (a9 0) (a9 1), stW G a1 v1, paW G a7 v7] (om (fun (w9 : StV × PaV) => [maW a0 (a1 0) (a2 0) (a3 0) (a4 0) (a7 0 0) (a8 0) (a9 0) (a9 1), stW G a1 w9.1, paW G a7 w9.2]) q) (qIx G (om (fun (w9 : StV × PaV) => [maW a0 (a1 0) (a2 0) (a3 0) (a4 0) (a7 0 0) (a8 0) (a9 0) (a9 1), stW G a1 w9.1, paW G a7 w9.2]) q)) 1 6 := by
  unfold f_X5_stayAway at hf
  refine mX_of (cc := cX5_stayAway) (maxL := 4) (ret := (some .boolean)) (by decide) rfl (om_gad (fun _ => rfl)) (Nat.le_of_ble_eq_true rfl) ?_
  intro p e s m args below meth c A ls S hK hA hex hTH hP hD hS hl
  obtain ⟨hx, hb, hml, hown, hts, hr, hlocks⟩ := id S
  have hl : lv_has ls 4 [(0, .ref (a0 0)), (1, .int i1), (2, .int i2)] := hl
  refine lv_aload_n hx hb dX5_stayAway_0 rfl (lv_at hl 0 rfl) ?_
  refine lv_iload_n hx hb dX5_stayAway_1 rfl (lv_at hl 1 rfl) ?_
  obtain ⟨q1, hq1, hf⟩ := bx_some hf
  refine g_callXVv S (cells' := 1) (slots' := 6) (As := [.int i1]) (c_X5_requireMember l hl0 G a0 a1 a2 a3 a4 a5 a6 a7 a8 a9 a10 a11 v1 i1 hq1) (cwV 1 hts gX5_stayAway_X5_requireMember rfl rfl rfl hd_X5_requireMember ⟨Nat.le_of_ble_eq_true rfl, Nat.le_of_ble_eq_true rfl⟩) hTH hK hP hD hS hA (is := [0, 1]) rfl rfl 0 rfl rfl rfl rfl hl.1 rfl (Nat.le_of_ble_eq_true rfl) dX5_stayAway_2 ⟨Nat.le_of_ble_eq_true rfl, Nat.le_of_ble_eq_true rfl⟩ rfl rfl (fun u ho H locs hP hD hS => ?_) (fun E u ho ce q9 H locs hP hD hS hce hcv hcl => by obtain ⟨r9, rfl, rfl, rfl⟩ := om_r ho; have hf := bxe_r hf; subst hf; exact g_xout hex hlocks hce hcv hcl rfl (Nat.le_of_ble_eq_true rfl) (Nat.le_of_ble_eq_true rfl) hP hS)
  obtain ⟨r2, rfl, -, rfl⟩ := om_l ho
  have hf := bxe_l hf
  have hP : gP G [maW a0 (a1 0) (a2 0) (a3 0) (a4 0) (a7 0 0) (a8 0) (a9 0) (a9 1), stW G a1 v1, paW G a7 v7] H := hP
  have hD : gD A [maW a0 (a1 0) (a2 0) (a3 0) (a4 0) (a7 0 0) (a8 0) (a9 0) (a9 1), stW G a1 v1, paW G a7 v7] := hD
  refine lv_aload_n hx hb dX5_stayAway_5 rfl (lv_at hl 0 rfl) ?_
  refine g_get (C := RX5) (T := TX5) (N := 8) hx hb hts iwX5_stayAway_X5 hown hK hP 0 0 rfl rfl rfl 4 (Nat.le_of_ble_eq_true rfl) (hts _ kX5_stayAway_0) (fun _ h9 => h9) rfl dX5_stayAway_6 ?_
  refine lv_aload_n hx hb dX5_stayAway_9 rfl (lv_at hl 0 rfl) ?_
  refine g_get (C := RX5) (T := TX5) (N := 8) hx hb hts iwX5_stayAway_X5 hown hK hP 0 0 rfl rfl rfl 0 (Nat.le_of_ble_eq_true rfl) (hts _ kX5_stayAway_1) (fun _ h9 => h9) rfl dX5_stayAway_10 ?_
  obtain ⟨q4, hq4, hf⟩ := bd_some hf
  refine g_callVv S (As := [.ref (a1 0)]) (gs' := [maW a0 (a1 0) (a2 0) (a3 0) (a4 0) (a7 0 0) (a8 0) (a9 0) (a9 1), stW G a1 v1, paW G a7 q4.2]) (c_X0_remember l G a7 a1 v7 v1 hq4) (cwV 1 hts gX5_stayAway_X0_remember rfl rfl rfl hd_X0_remember ⟨Nat.le_of_ble_eq_true rfl, Nat.le_of_ble_eq_true rfl⟩) hK hP hD hS hA (is := [2, 1]) rfl rfl 2 rfl rfl rfl rfl hl.1 rfl (Nat.le_of_ble_eq_true rfl) dX5_stayAway_13 ⟨Nat.le_of_ble_eq_true rfl, Nat.le_of_ble_eq_true rfl⟩ rfl (fun H locs hP hD hS => ?_)
  refine lv_aload_n hx hb dX5_stayAway_16 rfl (lv_at hl 0 rfl) ?_
  refine g_get (C := RX5) (T := TX5) (N := 8) hx hb hts iwX5_stayAway_X5 hown hK hP 0 0 rfl rfl rfl 0 (Nat.le_of_ble_eq_true rfl) (hts _ kX5_stayAway_1) (fun _ h9 => h9) rfl dX5_stayAway_17 ?_
  refine g_get (C := RX3) (T := TX3) (N := 17) hx hb hts iwX5_stayAway_X3 hown hK hP 1 0 rfl rfl rfl 8 (Nat.le_of_ble_eq_true rfl) (hts _ kX5_stayAway_2) (fun _ h9 => h9) rfl dX5_stayAway_20 ?_
  refine lv_iload_n hx hb dX5_stayAway_23 rfl (lv_at hl 1 rfl) ?_
  obtain ⟨h5, hf⟩ := gi_some hf
  refine g_zald hx hb hK hP 1 4 1 rfl rfl rfl h5 dX5_stayAway_24 ?_
  obtain ⟨x6, ex6, hf⟩ := lt_some hf
  refine lv_nmi ex6 ?_
  refine lv_istore_n (lv' := [(3, .int x6), (0, .ref (a0 0)), (1, .int i1), (2, .int i2)]) hx hb dX5_stayAway_25 rfl hl (by decide) rfl (fun ls hl => ?_)
  refine lv_aload_n hx hb dX5_stayAway_26 rfl (lv_at hl 1 rfl) ?_
  refine g_get (C := RX5) (T := TX5) (N := 8) hx hb hts iwX5_stayAway_X5 hown hK hP 0 0 rfl rfl rfl 0 (Nat.le_of_ble_eq_true rfl) (hts _ kX5_stayAway_1) (fun _ h9 => h9) rfl dX5_stayAway_27 ?_
  refine g_get (C := RX3) (T := TX3) (N := 17) hx hb hts iwX5_stayAway_X3 hown hK hP 1 0 rfl rfl rfl 8 (Nat.le_of_ble_eq_true rfl) (hts _ kX5_stayAway_2) (fun _ h9 => h9) rfl dX5_stayAway_30 ?_
  refine lv_iload_n hx hb dX5_stayAway_33 rfl (lv_at hl 2 rfl) ?_
  refine lv_iload_n hx hb dX5_stayAway_34 rfl (lv_at hl 3 rfl) ?_
  obtain ⟨h7, hf⟩ := gi_some hf
  obtain ⟨u8, eu8, hf⟩ := lt_some hf
  refine g_zast (gs' := [maW a0 (a1 0) (a2 0) (a3 0) (a4 0) (a7 0 0) (a8 0) (a9 0) (a9 1), stW G a1 u8, paW G a7 q4.2]) hx hb hK hP hD hS 1 4 1 rfl rfl rfl h7 dX5_stayAway_35 (by rw [eu8]; rfl) (fun H locs hP hD hS => ?_)
  refine lv_iload_n hx hb dX5_stayAway_36 rfl (lv_at hl 0 rfl) ?_
  obtain ⟨h9, hf⟩ := gb_some hf
  cases hf
  exact g_xzret hx hb hr h9 hlocks rfl (Nat.le_of_ble_eq_true rfl) (Nat.le_of_ble_eq_true rfl) hP hS dX5_stayAway_37
theorem kX5_give_0 : Cond.fieldLink RX5 10 "SavingsCircle" "now" "LSavingsCircle$State;" ∈ wsX5_give := (List.mem_cons_of_mem _ (List.mem_append_left _ (List.mem_append_left _ (List.mem_append_left _ (List.mem_append_left _ (List.mem_append_left _ (List.mem_append_left _ (List.mem_append_left _ (List.mem_of_getElem? (i := 2) rfl)))))))))
theorem kX5_give_1 : Cond.fieldLink RX5 36 "SavingsCircle" "past" "LSavingsCircle$Past;" ∈ wsX5_give := (List.mem_cons_of_mem _ (List.mem_append_left _ (List.mem_append_left _ (List.mem_append_left _ (List.mem_append_left _ (List.mem_append_left _ (List.mem_append_left _ (List.mem_append_left _ (List.mem_of_getElem? (i := 3) rfl)))))))))
theorem kX5_give_2 : Cond.fieldLink RX5 125 "SavingsCircle$State" "purse" "[I" ∈ wsX5_give := (List.mem_cons_of_mem _ (List.mem_append_left _ (List.mem_append_left _ (List.mem_append_left _ (List.mem_append_left _ (List.mem_append_left _ (List.mem_append_left _ (List.mem_append_left _ (List.mem_of_getElem? (i := 4) rfl)))))))))
theorem kX5_give_3 : Cond.classLink RX5 63 "java/lang/IllegalStateException" ∈ wsX5_give := (List.mem_cons_of_mem _ (List.mem_append_left _ (List.mem_append_left _ (List.mem_append_left _ (List.mem_append_left _ (List.mem_append_left _ (List.mem_append_left _ (List.mem_append_left _ (List.mem_of_getElem? (i := 0) rfl)))))))))
theorem kX5_give_4 : Cond.initialized "java/lang/IllegalStateException" ∈ wsX5_give := (List.mem_cons_of_mem _ (List.mem_append_left _ (List.mem_append_left _ (List.mem_append_left _ (List.mem_append_left _ (List.mem_append_left _ (List.mem_append_left _ (List.mem_append_left _ (List.mem_of_getElem? (i := 1) rfl)))))))))
theorem iwX5_give_X5 : ∀ w ∈ wsX50, w ∈ wsX5_give := fun w h => (List.mem_cons_of_mem _ (List.mem_append_left _ (List.mem_append_left _ (List.mem_append_left _ (List.mem_append_left _ (List.mem_append_left _ (List.mem_append_right _ h)))))))
theorem iwX5_give_X3 : ∀ w ∈ wsX30, w ∈ wsX5_give := fun w h => (List.mem_cons_of_mem _ (List.mem_append_left _ (List.mem_append_left _ (List.mem_append_left _ (List.mem_append_left _ (List.mem_append_right _ h))))))
theorem atX5_give_67 : ∀ w ∈ (vx_atS RX5 67 "java/lang/IllegalStateException" ["java/lang/RuntimeException", "java/lang/Exception"]).filter goodWord, w ∈ wsX5_give := fun w h => (List.mem_cons_of_mem _ (List.mem_append_left _ (List.mem_append_left _ (List.mem_append_right _ h))))
set_option maxHeartbeats 4000000 in
set_option maxRecDepth 100000 in
theorem c_X5_give (l : Launch) (hl0 : l.stackTraces = false) (G : uG) (a0 : Nat → Nat) (a1 : Nat → Nat) (a2 : Nat → Nat) (a3 : Nat → Nat) (a4 : Nat → Nat) (a5 : Nat → Nat) (a6 : Nat → Nat) (a7 : Nat → Nat → Nat) (a8 : Nat → Nat) (a9 : Nat → Nat) (a10 : Nat → Nat) (a11 : Nat → Nat) (v1 : StV) (v7 : PaV) (i1 : Int32) (i2 : Int32) {q : (Int32 × (StV × PaV)) ⊕ (String × (StV × PaV))} (hf : f_X5_give v1 v7 i1 i2 = some q) : mX l yX5_give wsX5_give ({ frames := 7, cells := 3, slots := 18, locals := 114 } : Room) G [.ref (a0 0), .int i1, .int i2] [maW a0 (a1 0) (a2 0) (a3 0) (a4 0) (a7 0 0) (a8 0) (a9 0) (a9 1), stW G a1 v1, paW G a7 v7] (om (fun (w9 : StV × PaV) => [maW a0 (a1 0) (a2 0) (a3 0) (a4 0) (a7 0 0) (a8 0) (a9 0) (a9 1), stW G a1 w9.1, paW G a7 w9.2]) q) (qIx G (om (fun (w9 : StV × PaV) => [maW a0 (a1 0) (a2 0) (a3 0) (a4 0) (a7 0 0) (a8 0) (a9 0) (a9 1), stW G a1 w9.1, paW G a7 w9.2]) q)) 3 18 := by
  unfold f_X5_give at hf
  refine mX_of (cc := cX5_give) (maxL := 3) (ret := (some .int)) (by decide) rfl (om_gad (fun _ => rfl)) (Nat.le_of_ble_eq_true rfl) ?_
  intro p e s m args below meth c A ls S hK hA hex hTH hP hD hS hl
  obtain ⟨hx, hb, hml, hown, hts, hr, hlocks⟩ := id S
  have hl : lv_has ls 3 [(0, .ref (a0 0)), (1, .int i1), (2, .int i2)] := hl
  refine lv_aload_n hx hb dX5_give_0 rfl (lv_at hl 0 rfl) ?_
  refine lv_iload_n hx hb dX5_give_1 rfl (lv_at hl 1 rfl) ?_
  obtain ⟨q1, hq1, hf⟩ := bx_some hf
  refine g_callXVv S (cells' := 1) (slots' := 6) (As := [.int i1]) (c_X5_requireMember l hl0 G a0 a1 a2 a3 a4 a5 a6 a7 a8 a9 a10 a11 v1 i1 hq1) (cwV 1 hts gX5_give_X5_requireMember rfl rfl rfl hd_X5_requireMember ⟨Nat.le_of_ble_eq_true rfl, Nat.le_of_ble_eq_true rfl⟩) hTH hK hP hD hS hA (is := [0, 1]) rfl rfl 0 rfl rfl rfl rfl hl.1 rfl (Nat.le_of_ble_eq_true rfl) dX5_give_2 ⟨Nat.le_of_ble_eq_true rfl, Nat.le_of_ble_eq_true rfl⟩ rfl rfl (fun u ho H locs hP hD hS => ?_) (fun E u ho ce q9 H locs hP hD hS hce hcv hcl => by obtain ⟨r9, rfl, rfl, rfl⟩ := om_r ho; have hf := bxe_r hf; subst hf; exact g_xout hex hlocks hce hcv hcl rfl (Nat.le_of_ble_eq_true rfl) (Nat.le_of_ble_eq_true rfl) hP hS)
  obtain ⟨r2, rfl, -, rfl⟩ := om_l ho
  have hf := bxe_l hf
  have hP : gP G [maW a0 (a1 0) (a2 0) (a3 0) (a4 0) (a7 0 0) (a8 0) (a9 0) (a9 1), stW G a1 v1, paW G a7 v7] H := hP
  have hD : gD A [maW a0 (a1 0) (a2 0) (a3 0) (a4 0) (a7 0 0) (a8 0) (a9 0) (a9 1), stW G a1 v1, paW G a7 v7] := hD
  refine lv_iload_n hx hb dX5_give_5 rfl (lv_at hl 2 rfl) ?_
  refine lv_iconst (v := (1:Int32)) hx hb dX5_give_6 (by decide) ?_
  refine lv_sipush (v := (999:Int32)) hx hb dX5_give_7 (by decide) ?_
  obtain ⟨q4, hq4, hf⟩ := bx_some hf
  refine g_callXSv S (cells' := 2) (slots' := 12) (As := [.int i2, .int (1:Int32), .int (999:Int32)]) (c_X5_requireRange l hl0 G i2 (1:Int32) (999:Int32) hq4) (va_cwS 3 hts gX5_give_X5_requireRange rfl rfl rfl hd_X5_requireRange.2 ⟨Nat.le_of_ble_eq_true rfl, Nat.le_of_ble_eq_true rfl⟩) hTH hK hP hD hS hA (is := []) rfl rfl rfl hl.1 rfl (Nat.le_of_ble_eq_true rfl) dX5_give_10 ⟨Nat.le_of_ble_eq_true rfl, Nat.le_of_ble_eq_true rfl⟩ rfl rfl (fun u ho H locs hP hD hS => ?_) (fun E u ho ce q9 H locs hP hD hS hce hcv hcl => by obtain ⟨r9, rfl, rfl, rfl⟩ := om_r ho; have hf := bxe_r hf; subst hf; exact g_xout hex hlocks hce hcv hcl rfl (Nat.le_of_ble_eq_true rfl) (Nat.le_of_ble_eq_true rfl) hP hS)
  obtain ⟨r5, rfl, -, rfl⟩ := om_l ho
  have hf := bxe_l hf
  have hP : gP G [maW a0 (a1 0) (a2 0) (a3 0) (a4 0) (a7 0 0) (a8 0) (a9 0) (a9 1), stW G a1 v1, paW G a7 v7] H := hP
  have hD : gD A [maW a0 (a1 0) (a2 0) (a3 0) (a4 0) (a7 0 0) (a8 0) (a9 0) (a9 1), stW G a1 v1, paW G a7 v7] := hD
  refine lv_aload_n hx hb dX5_give_13 rfl (lv_at hl 0 rfl) ?_
  refine g_get (C := RX5) (T := TX5) (N := 8) hx hb hts iwX5_give_X5 hown hK hP 0 0 rfl rfl rfl 0 (Nat.le_of_ble_eq_true rfl) (hts _ kX5_give_0) (fun _ h9 => h9) rfl dX5_give_14 ?_
  refine lv_iload_n hx hb dX5_give_17 rfl (lv_at hl 2 rfl) ?_
  obtain ⟨q7, hq7, hf⟩ := bd_some hf
  refine g_callVi S (As := [.int i2]) (gs' := [maW a0 (a1 0) (a2 0) (a3 0) (a4 0) (a7 0 0) (a8 0) (a9 0) (a9 1), stW G a1 v1, paW G a7 v7]) (c_X3_mayReceive l G a1 v1 i2 hq7) (cwV 1 hts gX5_give_X3_mayReceive rfl rfl rfl hd_X3_mayReceive ⟨Nat.le_of_ble_eq_true rfl, Nat.le_of_ble_eq_true rfl⟩) hK hP hD hS hA (is := [1]) rfl rfl 1 rfl rfl rfl rfl hl.1 rfl (Nat.le_of_ble_eq_true rfl) dX5_give_18 ⟨Nat.le_of_ble_eq_true rfl, Nat.le_of_ble_eq_true rfl⟩ rfl (fun H locs hP hD hS => ?_)
  refine lv_if_ne (tgt := 34) hx hb dX5_give_21 (by decide) (fun c8 => ?_) (fun c8 => ?_)
  · rw [if_neg c8] at hf
    refine lv_aload_n hx hb dX5_give_34 rfl (lv_at hl 0 rfl) ?_
    refine g_get (C := RX5) (T := TX5) (N := 8) hx hb hts iwX5_give_X5 hown hK hP 0 0 rfl rfl rfl 4 (Nat.le_of_ble_eq_true rfl) (hts _ kX5_give_1) (fun _ h9 => h9) rfl dX5_give_35 ?_
    refine lv_aload_n hx hb dX5_give_38 rfl (lv_at hl 0 rfl) ?_
    refine g_get (C := RX5) (T := TX5) (N := 8) hx hb hts iwX5_give_X5 hown hK hP 0 0 rfl rfl rfl 0 (Nat.le_of_ble_eq_true rfl) (hts _ kX5_give_0) (fun _ h9 => h9) rfl dX5_give_39 ?_
    obtain ⟨q9, hq9, hf⟩ := bd_some hf
    refine g_callVv S (As := [.ref (a1 0)]) (gs' := [maW a0 (a1 0) (a2 0) (a3 0) (a4 0) (a7 0 0) (a8 0) (a9 0) (a9 1), stW G a1 v1, paW G a7 q9.2]) (c_X0_remember l G a7 a1 v7 v1 hq9) (cwV 1 hts gX5_give_X0_remember rfl rfl rfl hd_X0_remember ⟨Nat.le_of_ble_eq_true rfl, Nat.le_of_ble_eq_true rfl⟩) hK hP hD hS hA (is := [2, 1]) rfl rfl 2 rfl rfl rfl rfl hl.1 rfl (Nat.le_of_ble_eq_true rfl) dX5_give_42 ⟨Nat.le_of_ble_eq_true rfl, Nat.le_of_ble_eq_true rfl⟩ rfl (fun H locs hP hD hS => ?_)
    refine lv_aload_n hx hb dX5_give_45 rfl (lv_at hl 0 rfl) ?_
    refine g_get (C := RX5) (T := TX5) (N := 8) hx hb hts iwX5_give_X5 hown hK hP 0 0 rfl rfl rfl 0 (Nat.le_of_ble_eq_true rfl) (hts _ kX5_give_0) (fun _ h9 => h9) rfl dX5_give_46 ?_
    refine lv_iload_n hx hb dX5_give_49 rfl (lv_at hl 1 rfl) ?_
    refine lv_iload_n hx hb dX5_give_50 rfl (lv_at hl 2 rfl) ?_
    obtain ⟨q10, hq10, hf⟩ := bd_some hf
    refine g_callVv S (As := [.int i1, .int i2]) (gs' := [maW a0 (a1 0) (a2 0) (a3 0) (a4 0) (a7 0 0) (a8 0) (a9 0) (a9 1), stW G a1 q10.2, paW G a7 q9.2]) (c_X3_receive l G a1 v1 i1 i2 hq10) (cwV 2 hts gX5_give_X3_receive rfl rfl rfl hd_X3_receive ⟨Nat.le_of_ble_eq_true rfl, Nat.le_of_ble_eq_true rfl⟩) hK hP hD hS hA (is := [1]) rfl rfl 1 rfl rfl rfl rfl hl.1 rfl (Nat.le_of_ble_eq_true rfl) dX5_give_51 ⟨Nat.le_of_ble_eq_true rfl, Nat.le_of_ble_eq_true rfl⟩ rfl (fun H locs hP hD hS => ?_)
    refine lv_aload_n hx hb dX5_give_54 rfl (lv_at hl 0 rfl) ?_
    refine g_get (C := RX5) (T := TX5) (N := 8) hx hb hts iwX5_give_X5 hown hK hP 0 0 rfl rfl rfl 0 (Nat.le_of_ble_eq_true rfl) (hts _ kX5_give_0) (fun _ h9 => h9) rfl dX5_give_55 ?_
    refine g_get (C := RX3) (T := TX3) (N := 17) hx hb hts iwX5_give_X3 hown hK hP 1 0 rfl rfl rfl 5 (Nat.le_of_ble_eq_true rfl) (hts _ kX5_give_2) (fun _ h9 => h9) rfl dX5_give_58 ?_
    refine lv_iload_n hx hb dX5_give_61 rfl (lv_at hl 1 rfl) ?_
    obtain ⟨h11, hf⟩ := gi_some hf
    refine g_iald hx hb hK hP 1 1 0 rfl rfl rfl h11 dX5_give_62 ?_
    cases hf
    exact g_xiret hx hb hr hlocks rfl (Nat.le_of_ble_eq_true rfl) (Nat.le_of_ble_eq_true rfl) hP hS dX5_give_63
  · rw [if_pos c8] at hf
    cases hf
    exact g_throw S (cls := "java/lang/IllegalStateException") (text := "too many pence would have been given") (names := ["java/lang/RuntimeException", "java/lang/Exception"]) rfl hex hl0 hTH vf_IllegalStateException vf_names (hts _ kX5_give_3) (hts _ kX5_give_4) (List.mem_of_getElem? (i := 6) rfl) atX5_give_67 vg_RX5_67 vh_RX5_67 dX5_give_24 dX5_give_27 dX5_give_28 dX5_give_30 dX5_give_33 (Nat.le_of_ble_eq_true rfl) (Nat.le_of_ble_eq_true rfl) (Nat.le_of_ble_eq_true rfl) (Nat.le_of_ble_eq_true rfl) (Nat.le_of_ble_eq_true rfl) (Nat.le_of_ble_eq_true rfl) hl.1 rfl hP hS
theorem kX5_month_0 : Cond.fieldLink RX5 10 "SavingsCircle" "now" "LSavingsCircle$State;" ∈ wsX5_month := (List.mem_cons_of_mem _ (List.mem_append_left _ (List.mem_append_left _ (List.mem_append_left _ (List.mem_append_left _ (List.mem_append_left _ (List.mem_append_left _ (List.mem_of_getElem? (i := 2) rfl))))))))
theorem kX5_month_1 : Cond.fieldLink RX5 36 "SavingsCircle" "past" "LSavingsCircle$Past;" ∈ wsX5_month := (List.mem_cons_of_mem _ (List.mem_append_left _ (List.mem_append_left _ (List.mem_append_left _ (List.mem_append_left _ (List.mem_append_left _ (List.mem_append_left _ (List.mem_of_getElem? (i := 3) rfl))))))))
theorem kX5_month_2 : Cond.fieldLink RX5 22 "SavingsCircle" "round" "LSavingsCircle$Round;" ∈ wsX5_month := (List.mem_cons_of_mem _ (List.mem_append_left _ (List.mem_append_left _ (List.mem_append_left _ (List.mem_append_left _ (List.mem_append_left _ (List.mem_append_left _ (List.mem_of_getElem? (i := 4) rfl))))))))
theorem kX5_month_3 : Cond.classLink RX5 63 "java/lang/IllegalStateException" ∈ wsX5_month := (List.mem_cons_of_mem _ (List.mem_append_left _ (List.mem_append_left _ (List.mem_append_left _ (List.mem_append_left _ (List.mem_append_left _ (List.mem_append_left _ (List.mem_of_getElem? (i := 0) rfl))))))))
theorem kX5_month_4 : Cond.initialized "java/lang/IllegalStateException" ∈ wsX5_month := (List.mem_cons_of_mem _ (List.mem_append_left _ (List.mem_append_left _ (List.mem_append_left _ (List.mem_append_left _ (List.mem_append_left _ (List.mem_append_left _ (List.mem_of_getElem? (i := 1) rfl))))))))
theorem iwX5_month_X5 : ∀ w ∈ wsX50, w ∈ wsX5_month := fun w h => (List.mem_cons_of_mem _ (List.mem_append_left _ (List.mem_append_left _ (List.mem_append_left _ (List.mem_append_left _ (List.mem_append_right _ h))))))
theorem atX5_month_67 : ∀ w ∈ (vx_atS RX5 67 "java/lang/IllegalStateException" ["java/lang/RuntimeException", "java/lang/Exception"]).filter goodWord, w ∈ wsX5_month := fun w h => (List.mem_cons_of_mem _ (List.mem_append_right _ h))
set_option maxHeartbeats 4000000 in
set_option maxRecDepth 100000 in
theorem c_X5_month (l : Launch) (hl0 : l.stackTraces = false) (G : uG) (a0 : Nat → Nat) (a1 : Nat → Nat) (a2 : Nat → Nat) (a3 : Nat → Nat) (a4 : Nat → Nat) (a5 : Nat → Nat) (a6 : Nat → Nat) (a7 : Nat → Nat → Nat) (a8 : Nat → Nat) (a9 : Nat → Nat) (a10 : Nat → Nat) (a11 : Nat → Nat) (v1 : StV) (v3 : RdV) (v7 : PaV) {q : (Int32 × (StV × RdV × PaV)) ⊕ (String × (StV × RdV × PaV))} (hf : f_X5_month v1 v3 v7 = some q) : mX l yX5_month wsX5_month ({ frames := 6, cells := 1, slots := 6, locals := 93 } : Room) G [.ref (a0 0)] [maW a0 (a1 0) (a2 0) (a3 0) (a4 0) (a7 0 0) (a8 0) (a9 0) (a9 1), stW G a1 v1, rdW G a3 v3, paW G a7 v7] (om (fun (w9 : StV × RdV × PaV) => [maW a0 (a1 0) (a2 0) (a3 0) (a4 0) (a7 0 0) (a8 0) (a9 0) (a9 1), stW G a1 w9.1, rdW G a3 w9.2.1, paW G a7 w9.2.2]) q) (qIx G (om (fun (w9 : StV × RdV × PaV) => [maW a0 (a1 0) (a2 0) (a3 0) (a4 0) (a7 0 0) (a8 0) (a9 0) (a9 1), stW G a1 w9.1, rdW G a3 w9.2.1, paW G a7 w9.2.2]) q)) 1 6 := by
  unfold f_X5_month at hf
  refine mX_of (cc := cX5_month) (maxL := 1) (ret := (some .int)) (by decide) rfl (om_gad (fun _ => rfl)) (Nat.le_of_ble_eq_true rfl) ?_
  intro p e s m args below meth c A ls S hK hA hex hTH hP hD hS hl
  obtain ⟨hx, hb, hml, hown, hts, hr, hlocks⟩ := id S
  have hl : lv_has ls 1 [(0, .ref (a0 0))] := hl
  refine lv_aload_n hx hb dX5_month_0 rfl (lv_at hl 0 rfl) ?_
  refine g_get (C := RX5) (T := TX5) (N := 8) hx hb hts iwX5_month_X5 hown hK hP 0 0 rfl rfl rfl 0 (Nat.le_of_ble_eq_true rfl) (hts _ kX5_month_0) (fun _ h9 => h9) rfl dX5_month_1 ?_
  obtain ⟨q1, hq1, hf⟩ := bd_some hf
  refine g_callVi S (As := []) (gs' := [maW a0 (a1 0) (a2 0) (a3 0) (a4 0) (a7 0 0) (a8 0) (a9 0) (a9 1), stW G a1 v1, rdW G a3 v3, paW G a7 v7]) (c_X3_mayPass l G a1 v1 hq1) (cwV 0 hts gX5_month_X3_mayPass rfl rfl rfl hd_X3_mayPass ⟨Nat.le_of_ble_eq_true rfl, Nat.le_of_ble_eq_true rfl⟩) hK hP hD hS hA (is := [1]) rfl rfl 1 rfl rfl rfl rfl hl.1 rfl (Nat.le_of_ble_eq_true rfl) dX5_month_4 ⟨Nat.le_of_ble_eq_true rfl, Nat.le_of_ble_eq_true rfl⟩ rfl (fun H locs hP hD hS => ?_)
  refine lv_if_ne (tgt := 20) hx hb dX5_month_7 (by decide) (fun c2 => ?_) (fun c2 => ?_)
  · rw [if_neg c2] at hf
    refine lv_aload_n hx hb dX5_month_20 rfl (lv_at hl 0 rfl) ?_
    refine g_get (C := RX5) (T := TX5) (N := 8) hx hb hts iwX5_month_X5 hown hK hP 0 0 rfl rfl rfl 4 (Nat.le_of_ble_eq_true rfl) (hts _ kX5_month_1) (fun _ h9 => h9) rfl dX5_month_21 ?_
    refine lv_aload_n hx hb dX5_month_24 rfl (lv_at hl 0 rfl) ?_
    refine g_get (C := RX5) (T := TX5) (N := 8) hx hb hts iwX5_month_X5 hown hK hP 0 0 rfl rfl rfl 0 (Nat.le_of_ble_eq_true rfl) (hts _ kX5_month_0) (fun _ h9 => h9) rfl dX5_month_25 ?_
    obtain ⟨q3, hq3, hf⟩ := bd_some hf
    refine g_callVv S (As := [.ref (a1 0)]) (gs' := [maW a0 (a1 0) (a2 0) (a3 0) (a4 0) (a7 0 0) (a8 0) (a9 0) (a9 1), stW G a1 v1, rdW G a3 v3, paW G a7 q3.2]) (c_X0_remember l G a7 a1 v7 v1 hq3) (cwV 1 hts gX5_month_X0_remember rfl rfl rfl hd_X0_remember ⟨Nat.le_of_ble_eq_true rfl, Nat.le_of_ble_eq_true rfl⟩) hK hP hD hS hA (is := [3, 1]) rfl rfl 3 rfl rfl rfl rfl hl.1 rfl (Nat.le_of_ble_eq_true rfl) dX5_month_28 ⟨Nat.le_of_ble_eq_true rfl, Nat.le_of_ble_eq_true rfl⟩ rfl (fun H locs hP hD hS => ?_)
    refine lv_aload_n hx hb dX5_month_31 rfl (lv_at hl 0 rfl) ?_
    refine g_get (C := RX5) (T := TX5) (N := 8) hx hb hts iwX5_month_X5 hown hK hP 0 0 rfl rfl rfl 2 (Nat.le_of_ble_eq_true rfl) (hts _ kX5_month_2) (fun _ h9 => h9) rfl dX5_month_32 ?_
    refine lv_aload_n hx hb dX5_month_35 rfl (lv_at hl 0 rfl) ?_
    refine g_get (C := RX5) (T := TX5) (N := 8) hx hb hts iwX5_month_X5 hown hK hP 0 0 rfl rfl rfl 0 (Nat.le_of_ble_eq_true rfl) (hts _ kX5_month_0) (fun _ h9 => h9) rfl dX5_month_36 ?_
    obtain ⟨q4, hq4, hf⟩ := bd_some hf
    refine g_callVi S (As := [.ref (a1 0)]) (gs' := [maW a0 (a1 0) (a2 0) (a3 0) (a4 0) (a7 0 0) (a8 0) (a9 0) (a9 1), stW G a1 q4.2.2, rdW G a3 q4.2.1, paW G a7 q3.2]) (c_X1_pass l G a3 a1 v3 v1 hq4) (cwV 1 hts gX5_month_X1_pass rfl rfl rfl hd_X1_pass ⟨Nat.le_of_ble_eq_true rfl, Nat.le_of_ble_eq_true rfl⟩) hK hP hD hS hA (is := [2, 1]) rfl rfl 2 rfl rfl rfl rfl hl.1 rfl (Nat.le_of_ble_eq_true rfl) dX5_month_39 ⟨Nat.le_of_ble_eq_true rfl, Nat.le_of_ble_eq_true rfl⟩ rfl (fun H locs hP hD hS => ?_)
    cases hf
    exact g_xiret hx hb hr hlocks rfl (Nat.le_of_ble_eq_true rfl) (Nat.le_of_ble_eq_true rfl) hP hS dX5_month_42
  · rw [if_pos c2] at hf
    cases hf
    exact g_throw S (cls := "java/lang/IllegalStateException") (text := "nobody is in the circle, or it is the last month") (names := ["java/lang/RuntimeException", "java/lang/Exception"]) rfl hex hl0 hTH vf_IllegalStateException vf_names (hts _ kX5_month_3) (hts _ kX5_month_4) (List.mem_of_getElem? (i := 7) rfl) atX5_month_67 vg_RX5_67 vh_RX5_67 dX5_month_10 dX5_month_13 dX5_month_14 dX5_month_16 dX5_month_19 (Nat.le_of_ble_eq_true rfl) (Nat.le_of_ble_eq_true rfl) (Nat.le_of_ble_eq_true rfl) (Nat.le_of_ble_eq_true rfl) (Nat.le_of_ble_eq_true rfl) (Nat.le_of_ble_eq_true rfl) hl.1 rfl hP hS
theorem kX5_leave_0 : Cond.fieldLink RX5 10 "SavingsCircle" "now" "LSavingsCircle$State;" ∈ wsX5_leave := (List.mem_cons_of_mem _ (List.mem_append_left _ (List.mem_append_left _ (List.mem_append_left _ (List.mem_append_left _ (List.mem_append_left _ (List.mem_append_left _ (List.mem_of_getElem? (i := 2) rfl))))))))
theorem kX5_leave_1 : Cond.fieldLink RX5 36 "SavingsCircle" "past" "LSavingsCircle$Past;" ∈ wsX5_leave := (List.mem_cons_of_mem _ (List.mem_append_left _ (List.mem_append_left _ (List.mem_append_left _ (List.mem_append_left _ (List.mem_append_left _ (List.mem_append_left _ (List.mem_of_getElem? (i := 3) rfl))))))))
theorem kX5_leave_2 : Cond.classLink RX5 63 "java/lang/IllegalStateException" ∈ wsX5_leave := (List.mem_cons_of_mem _ (List.mem_append_left _ (List.mem_append_left _ (List.mem_append_left _ (List.mem_append_left _ (List.mem_append_left _ (List.mem_append_left _ (List.mem_of_getElem? (i := 0) rfl))))))))
theorem kX5_leave_3 : Cond.initialized "java/lang/IllegalStateException" ∈ wsX5_leave := (List.mem_cons_of_mem _ (List.mem_append_left _ (List.mem_append_left _ (List.mem_append_left _ (List.mem_append_left _ (List.mem_append_left _ (List.mem_append_left _ (List.mem_of_getElem? (i := 1) rfl))))))))
theorem iwX5_leave_X5 : ∀ w ∈ wsX50, w ∈ wsX5_leave := fun w h => (List.mem_cons_of_mem _ (List.mem_append_left _ (List.mem_append_left _ (List.mem_append_left _ (List.mem_append_left _ (List.mem_append_right _ h))))))
theorem atX5_leave_67 : ∀ w ∈ (vx_atS RX5 67 "java/lang/IllegalStateException" ["java/lang/RuntimeException", "java/lang/Exception"]).filter goodWord, w ∈ wsX5_leave := fun w h => (List.mem_cons_of_mem _ (List.mem_append_left _ (List.mem_append_right _ h)))
set_option maxHeartbeats 4000000 in
set_option maxRecDepth 100000 in
theorem c_X5_leave (l : Launch) (hl0 : l.stackTraces = false) (G : uG) (a0 : Nat → Nat) (a1 : Nat → Nat) (a2 : Nat → Nat) (a3 : Nat → Nat) (a4 : Nat → Nat) (a5 : Nat → Nat) (a6 : Nat → Nat) (a7 : Nat → Nat → Nat) (a8 : Nat → Nat) (a9 : Nat → Nat) (a10 : Nat → Nat) (a11 : Nat → Nat) (v1 : StV) (v7 : PaV) (i1 : Int32) {q : (Int32 × (StV × PaV)) ⊕ (String × (StV × PaV))} (hf : f_X5_leave v1 v7 i1 = some q) : mX l yX5_leave wsX5_leave ({ frames := 7, cells := 2, slots := 12, locals := 113 } : Room) G [.ref (a0 0), .int i1] [maW a0 (a1 0) (a2 0) (a3 0) (a4 0) (a7 0 0) (a8 0) (a9 0) (a9 1), stW G a1 v1, paW G a7 v7] (om (fun (w9 : StV × PaV) => [maW a0 (a1 0) (a2 0) (a3 0) (a4 0) (a7 0 0) (a8 0) (a9 0) (a9 1), stW G a1 w9.1, paW G a7 w9.2]) q) (qIx G (om (fun (w9 : StV × PaV) => [maW a0 (a1 0) (a2 0) (a3 0) (a4 0) (a7 0 0) (a8 0) (a9 0) (a9 1), stW G a1 w9.1, paW G a7 w9.2]) q)) 2 12 := by
  unfold f_X5_leave at hf
  refine mX_of (cc := cX5_leave) (maxL := 2) (ret := (some .int)) (by decide) rfl (om_gad (fun _ => rfl)) (Nat.le_of_ble_eq_true rfl) ?_
  intro p e s m args below meth c A ls S hK hA hex hTH hP hD hS hl
  obtain ⟨hx, hb, hml, hown, hts, hr, hlocks⟩ := id S
  have hl : lv_has ls 2 [(0, .ref (a0 0)), (1, .int i1)] := hl
  refine lv_aload_n hx hb dX5_leave_0 rfl (lv_at hl 0 rfl) ?_
  refine lv_iload_n hx hb dX5_leave_1 rfl (lv_at hl 1 rfl) ?_
  obtain ⟨q1, hq1, hf⟩ := bx_some hf
  refine g_callXVv S (cells' := 1) (slots' := 6) (As := [.int i1]) (c_X5_requireMember l hl0 G a0 a1 a2 a3 a4 a5 a6 a7 a8 a9 a10 a11 v1 i1 hq1) (cwV 1 hts gX5_leave_X5_requireMember rfl rfl rfl hd_X5_requireMember ⟨Nat.le_of_ble_eq_true rfl, Nat.le_of_ble_eq_true rfl⟩) hTH hK hP hD hS hA (is := [0, 1]) rfl rfl 0 rfl rfl rfl rfl hl.1 rfl (Nat.le_of_ble_eq_true rfl) dX5_leave_2 ⟨Nat.le_of_ble_eq_true rfl, Nat.le_of_ble_eq_true rfl⟩ rfl rfl (fun u ho H locs hP hD hS => ?_) (fun E u ho ce q9 H locs hP hD hS hce hcv hcl => by obtain ⟨r9, rfl, rfl, rfl⟩ := om_r ho; have hf := bxe_r hf; subst hf; exact g_xout hex hlocks hce hcv hcl rfl (Nat.le_of_ble_eq_true rfl) (Nat.le_of_ble_eq_true rfl) hP hS)
  obtain ⟨r2, rfl, -, rfl⟩ := om_l ho
  have hf := bxe_l hf
  have hP : gP G [maW a0 (a1 0) (a2 0) (a3 0) (a4 0) (a7 0 0) (a8 0) (a9 0) (a9 1), stW G a1 v1, paW G a7 v7] H := hP
  have hD : gD A [maW a0 (a1 0) (a2 0) (a3 0) (a4 0) (a7 0 0) (a8 0) (a9 0) (a9 1), stW G a1 v1, paW G a7 v7] := hD
  refine lv_aload_n hx hb dX5_leave_5 rfl (lv_at hl 0 rfl) ?_
  refine g_get (C := RX5) (T := TX5) (N := 8) hx hb hts iwX5_leave_X5 hown hK hP 0 0 rfl rfl rfl 0 (Nat.le_of_ble_eq_true rfl) (hts _ kX5_leave_0) (fun _ h9 => h9) rfl dX5_leave_6 ?_
  refine lv_iload_n hx hb dX5_leave_9 rfl (lv_at hl 1 rfl) ?_
  obtain ⟨q4, hq4, hf⟩ := bd_some hf
  refine g_callVi S (As := [.int i1]) (gs' := [maW a0 (a1 0) (a2 0) (a3 0) (a4 0) (a7 0 0) (a8 0) (a9 0) (a9 1), stW G a1 v1, paW G a7 v7]) (c_X3_mayGo l G a1 v1 i1 hq4) (cwV 1 hts gX5_leave_X3_mayGo rfl rfl rfl hd_X3_mayGo ⟨Nat.le_of_ble_eq_true rfl, Nat.le_of_ble_eq_true rfl⟩) hK hP hD hS hA (is := [1]) rfl rfl 1 rfl rfl rfl rfl hl.1 rfl (Nat.le_of_ble_eq_true rfl) dX5_leave_10 ⟨Nat.le_of_ble_eq_true rfl, Nat.le_of_ble_eq_true rfl⟩ rfl (fun H locs hP hD hS => ?_)
  refine lv_if_ne (tgt := 26) hx hb dX5_leave_13 (by decide) (fun c5 => ?_) (fun c5 => ?_)
  · rw [if_neg c5] at hf
    refine lv_aload_n hx hb dX5_leave_26 rfl (lv_at hl 0 rfl) ?_
    refine g_get (C := RX5) (T := TX5) (N := 8) hx hb hts iwX5_leave_X5 hown hK hP 0 0 rfl rfl rfl 4 (Nat.le_of_ble_eq_true rfl) (hts _ kX5_leave_1) (fun _ h9 => h9) rfl dX5_leave_27 ?_
    refine lv_aload_n hx hb dX5_leave_30 rfl (lv_at hl 0 rfl) ?_
    refine g_get (C := RX5) (T := TX5) (N := 8) hx hb hts iwX5_leave_X5 hown hK hP 0 0 rfl rfl rfl 0 (Nat.le_of_ble_eq_true rfl) (hts _ kX5_leave_0) (fun _ h9 => h9) rfl dX5_leave_31 ?_
    obtain ⟨q6, hq6, hf⟩ := bd_some hf
    refine g_callVv S (As := [.ref (a1 0)]) (gs' := [maW a0 (a1 0) (a2 0) (a3 0) (a4 0) (a7 0 0) (a8 0) (a9 0) (a9 1), stW G a1 v1, paW G a7 q6.2]) (c_X0_remember l G a7 a1 v7 v1 hq6) (cwV 1 hts gX5_leave_X0_remember rfl rfl rfl hd_X0_remember ⟨Nat.le_of_ble_eq_true rfl, Nat.le_of_ble_eq_true rfl⟩) hK hP hD hS hA (is := [2, 1]) rfl rfl 2 rfl rfl rfl rfl hl.1 rfl (Nat.le_of_ble_eq_true rfl) dX5_leave_34 ⟨Nat.le_of_ble_eq_true rfl, Nat.le_of_ble_eq_true rfl⟩ rfl (fun H locs hP hD hS => ?_)
    refine lv_aload_n hx hb dX5_leave_37 rfl (lv_at hl 0 rfl) ?_
    refine g_get (C := RX5) (T := TX5) (N := 8) hx hb hts iwX5_leave_X5 hown hK hP 0 0 rfl rfl rfl 0 (Nat.le_of_ble_eq_true rfl) (hts _ kX5_leave_0) (fun _ h9 => h9) rfl dX5_leave_38 ?_
    refine lv_iload_n hx hb dX5_leave_41 rfl (lv_at hl 1 rfl) ?_
    obtain ⟨q7, hq7, hf⟩ := bd_some hf
    refine g_callVi S (As := [.int i1]) (gs' := [maW a0 (a1 0) (a2 0) (a3 0) (a4 0) (a7 0 0) (a8 0) (a9 0) (a9 1), stW G a1 q7.2, paW G a7 q6.2]) (c_X3_go l G a1 v1 i1 hq7) (cwV 1 hts gX5_leave_X3_go rfl rfl rfl hd_X3_go ⟨Nat.le_of_ble_eq_true rfl, Nat.le_of_ble_eq_true rfl⟩) hK hP hD hS hA (is := [1]) rfl rfl 1 rfl rfl rfl rfl hl.1 rfl (Nat.le_of_ble_eq_true rfl) dX5_leave_42 ⟨Nat.le_of_ble_eq_true rfl, Nat.le_of_ble_eq_true rfl⟩ rfl (fun H locs hP hD hS => ?_)
    cases hf
    exact g_xiret hx hb hr hlocks rfl (Nat.le_of_ble_eq_true rfl) (Nat.le_of_ble_eq_true rfl) hP hS dX5_leave_45
  · rw [if_pos c5] at hf
    cases hf
    exact g_throw S (cls := "java/lang/IllegalStateException") (text := "it is not in the circle, or cannot pay") (names := ["java/lang/RuntimeException", "java/lang/Exception"]) rfl hex hl0 hTH vf_IllegalStateException vf_names (hts _ kX5_leave_2) (hts _ kX5_leave_3) (List.mem_of_getElem? (i := 8) rfl) atX5_leave_67 vg_RX5_67 vh_RX5_67 dX5_leave_16 dX5_leave_19 dX5_leave_20 dX5_leave_22 dX5_leave_25 (Nat.le_of_ble_eq_true rfl) (Nat.le_of_ble_eq_true rfl) (Nat.le_of_ble_eq_true rfl) (Nat.le_of_ble_eq_true rfl) (Nat.le_of_ble_eq_true rfl) (Nat.le_of_ble_eq_true rfl) hl.1 rfl hP hS
theorem kX5_repay_0 : Cond.fieldLink RX5 36 "SavingsCircle" "past" "LSavingsCircle$Past;" ∈ wsX5_repay := (List.mem_cons_of_mem _ (List.mem_append_left _ (List.mem_append_left _ (List.mem_append_left _ (List.mem_append_left _ (List.mem_append_left _ (List.mem_append_left _ (List.mem_of_getElem? (i := 0) rfl))))))))
theorem kX5_repay_1 : Cond.fieldLink RX5 10 "SavingsCircle" "now" "LSavingsCircle$State;" ∈ wsX5_repay := (List.mem_cons_of_mem _ (List.mem_append_left _ (List.mem_append_left _ (List.mem_append_left _ (List.mem_append_left _ (List.mem_append_left _ (List.mem_append_left _ (List.mem_of_getElem? (i := 1) rfl))))))))
theorem kX5_repay_2 : Cond.fieldLink RX5 125 "SavingsCircle$State" "purse" "[I" ∈ wsX5_repay := (List.mem_cons_of_mem _ (List.mem_append_left _ (List.mem_append_left _ (List.mem_append_left _ (List.mem_append_left _ (List.mem_append_left _ (List.mem_append_left _ (List.mem_of_getElem? (i := 2) rfl))))))))
theorem iwX5_repay_X5 : ∀ w ∈ wsX50, w ∈ wsX5_repay := fun w h => (List.mem_cons_of_mem _ (List.mem_append_left _ (List.mem_append_left _ (List.mem_append_left _ (List.mem_append_left _ (List.mem_append_right _ h))))))
theorem iwX5_repay_X3 : ∀ w ∈ wsX30, w ∈ wsX5_repay := fun w h => (List.mem_cons_of_mem _ (List.mem_append_left _ (List.mem_append_left _ (List.mem_append_left _ (List.mem_append_right _ h)))))
set_option maxHeartbeats 4000000 in
set_option maxRecDepth 100000 in
theorem c_X5_repay (l : Launch) (hl0 : l.stackTraces = false) (G : uG) (a0 : Nat → Nat) (a1 : Nat → Nat) (a2 : Nat → Nat) (a3 : Nat → Nat) (a4 : Nat → Nat) (a5 : Nat → Nat) (a6 : Nat → Nat) (a7 : Nat → Nat → Nat) (a8 : Nat → Nat) (a9 : Nat → Nat) (a10 : Nat → Nat) (a11 : Nat → Nat) (v1 : StV) (v7 : PaV) (i1 : Int32) (i2 : Int32) {q : (Int32 × (StV × PaV)) ⊕ (String × (StV × PaV))} (hf : f_X5_repay v1 v7 i1 i2 = some q) : mX l yX5_repay wsX5_repay ({ frames := 8, cells := 3, slots := 18, locals := 135 } : Room) G [.ref (a0 0), .int i1, .int i2] [maW a0 (a1 0) (a2 0) (a3 0) (a4 0) (a7 0 0) (a8 0) (a9 0) (a9 1), stW G a1 v1, paW G a7 v7] (om (fun (w9 : StV × PaV) => [maW a0 (a1 0) (a2 0) (a3 0) (a4 0) (a7 0 0) (a8 0) (a9 0) (a9 1), stW G a1 w9.1, paW G a7 w9.2]) q) (qIx G (om (fun (w9 : StV × PaV) => [maW a0 (a1 0) (a2 0) (a3 0) (a4 0) (a7 0 0) (a8 0) (a9 0) (a9 1), stW G a1 w9.1, paW G a7 w9.2]) q)) 3 18 := by
  unfold f_X5_repay at hf
  refine mX_of (cc := cX5_repay) (maxL := 4) (ret := (some .int)) (by decide) rfl (om_gad (fun _ => rfl)) (Nat.le_of_ble_eq_true rfl) ?_
  intro p e s m args below meth c A ls S hK hA hex hTH hP hD hS hl
  obtain ⟨hx, hb, hml, hown, hts, hr, hlocks⟩ := id S
  have hl : lv_has ls 4 [(0, .ref (a0 0)), (1, .int i1), (2, .int i2)] := hl
  refine lv_aload_n hx hb dX5_repay_0 rfl (lv_at hl 0 rfl) ?_
  refine lv_iload_n hx hb dX5_repay_1 rfl (lv_at hl 1 rfl) ?_
  refine lv_iload_n hx hb dX5_repay_2 rfl (lv_at hl 2 rfl) ?_
  obtain ⟨q1, hq1, hf⟩ := bx_some hf
  refine g_callXVv S (cells' := 3) (slots' := 18) (As := [.int i1, .int i2]) (c_X5_requireTwoMembers l hl0 G a0 a1 a2 a3 a4 a5 a6 a7 a8 a9 a10 a11 v1 i1 i2 hq1) (cwV 2 hts gX5_repay_X5_requireTwoMembers rfl rfl rfl hd_X5_requireTwoMembers ⟨Nat.le_of_ble_eq_true rfl, Nat.le_of_ble_eq_true rfl⟩) hTH hK hP hD hS hA (is := [0, 1]) rfl rfl 0 rfl rfl rfl rfl hl.1 rfl (Nat.le_of_ble_eq_true rfl) dX5_repay_3 ⟨Nat.le_of_ble_eq_true rfl, Nat.le_of_ble_eq_true rfl⟩ rfl rfl (fun u ho H locs hP hD hS => ?_) (fun E u ho ce q9 H locs hP hD hS hce hcv hcl => by obtain ⟨r9, rfl, rfl, rfl⟩ := om_r ho; have hf := bxe_r hf; subst hf; exact g_xout hex hlocks hce hcv hcl rfl (Nat.le_of_ble_eq_true rfl) (Nat.le_of_ble_eq_true rfl) hP hS)
  obtain ⟨r2, rfl, -, rfl⟩ := om_l ho
  have hf := bxe_l hf
  have hP : gP G [maW a0 (a1 0) (a2 0) (a3 0) (a4 0) (a7 0 0) (a8 0) (a9 0) (a9 1), stW G a1 v1, paW G a7 v7] H := hP
  have hD : gD A [maW a0 (a1 0) (a2 0) (a3 0) (a4 0) (a7 0 0) (a8 0) (a9 0) (a9 1), stW G a1 v1, paW G a7 v7] := hD
  refine lv_aload_n hx hb dX5_repay_6 rfl (lv_at hl 0 rfl) ?_
  refine g_get (C := RX5) (T := TX5) (N := 8) hx hb hts iwX5_repay_X5 hown hK hP 0 0 rfl rfl rfl 4 (Nat.le_of_ble_eq_true rfl) (hts _ kX5_repay_0) (fun _ h9 => h9) rfl dX5_repay_7 ?_
  refine lv_aload_n hx hb dX5_repay_10 rfl (lv_at hl 0 rfl) ?_
  refine g_get (C := RX5) (T := TX5) (N := 8) hx hb hts iwX5_repay_X5 hown hK hP 0 0 rfl rfl rfl 0 (Nat.le_of_ble_eq_true rfl) (hts _ kX5_repay_1) (fun _ h9 => h9) rfl dX5_repay_11 ?_
  obtain ⟨q4, hq4, hf⟩ := bd_some hf
  refine g_callVv S (As := [.ref (a1 0)]) (gs' := [maW a0 (a1 0) (a2 0) (a3 0) (a4 0) (a7 0 0) (a8 0) (a9 0) (a9 1), stW G a1 v1, paW G a7 q4.2]) (c_X0_remember l G a7 a1 v7 v1 hq4) (cwV 1 hts gX5_repay_X0_remember rfl rfl rfl hd_X0_remember ⟨Nat.le_of_ble_eq_true rfl, Nat.le_of_ble_eq_true rfl⟩) hK hP hD hS hA (is := [2, 1]) rfl rfl 2 rfl rfl rfl rfl hl.1 rfl (Nat.le_of_ble_eq_true rfl) dX5_repay_14 ⟨Nat.le_of_ble_eq_true rfl, Nat.le_of_ble_eq_true rfl⟩ rfl (fun H locs hP hD hS => ?_)
  refine lv_aload_n hx hb dX5_repay_17 rfl (lv_at hl 0 rfl) ?_
  refine g_get (C := RX5) (T := TX5) (N := 8) hx hb hts iwX5_repay_X5 hown hK hP 0 0 rfl rfl rfl 0 (Nat.le_of_ble_eq_true rfl) (hts _ kX5_repay_1) (fun _ h9 => h9) rfl dX5_repay_18 ?_
  refine lv_iload_n hx hb dX5_repay_21 rfl (lv_at hl 1 rfl) ?_
  refine lv_iload_n hx hb dX5_repay_22 rfl (lv_at hl 2 rfl) ?_
  refine lv_aload_n hx hb dX5_repay_23 rfl (lv_at hl 0 rfl) ?_
  refine g_get (C := RX5) (T := TX5) (N := 8) hx hb hts iwX5_repay_X5 hown hK hP 0 0 rfl rfl rfl 0 (Nat.le_of_ble_eq_true rfl) (hts _ kX5_repay_1) (fun _ h9 => h9) rfl dX5_repay_24 ?_
  refine g_get (C := RX3) (T := TX3) (N := 17) hx hb hts iwX5_repay_X3 hown hK hP 1 0 rfl rfl rfl 5 (Nat.le_of_ble_eq_true rfl) (hts _ kX5_repay_2) (fun _ h9 => h9) rfl dX5_repay_27 ?_
  refine lv_iload_n hx hb dX5_repay_30 rfl (lv_at hl 1 rfl) ?_
  obtain ⟨h5, hf⟩ := gi_some hf
  refine g_iald hx hb hK hP 1 1 0 rfl rfl rfl h5 dX5_repay_31 ?_
  obtain ⟨q6, hq6, hf⟩ := bd_some hf
  refine g_callVi S (As := [.int i1, .int i2, .int (St_purse v1 i1.toNatClampNeg)]) (gs' := [maW a0 (a1 0) (a2 0) (a3 0) (a4 0) (a7 0 0) (a8 0) (a9 0) (a9 1), stW G a1 q6.2, paW G a7 q4.2]) (c_X3_settle l G a1 v1 i1 i2 (St_purse v1 i1.toNatClampNeg) hq6) (cwV 3 hts gX5_repay_X3_settle rfl rfl rfl hd_X3_settle ⟨Nat.le_of_ble_eq_true rfl, Nat.le_of_ble_eq_true rfl⟩) hK hP hD hS hA (is := [1]) rfl rfl 1 rfl rfl rfl rfl hl.1 rfl (Nat.le_of_ble_eq_true rfl) dX5_repay_32 ⟨Nat.le_of_ble_eq_true rfl, Nat.le_of_ble_eq_true rfl⟩ rfl (fun H locs hP hD hS => ?_)
  refine lv_istore_n (lv' := [(3, .int q6.1), (0, .ref (a0 0)), (1, .int i1), (2, .int i2)]) hx hb dX5_repay_35 rfl hl (by decide) rfl (fun ls hl => ?_)
  refine lv_aload_n hx hb dX5_repay_36 rfl (lv_at hl 1 rfl) ?_
  refine g_get (C := RX5) (T := TX5) (N := 8) hx hb hts iwX5_repay_X5 hown hK hP 0 0 rfl rfl rfl 0 (Nat.le_of_ble_eq_true rfl) (hts _ kX5_repay_1) (fun _ h9 => h9) rfl dX5_repay_37 ?_
  refine g_get (C := RX3) (T := TX3) (N := 17) hx hb hts iwX5_repay_X3 hown hK hP 1 0 rfl rfl rfl 5 (Nat.le_of_ble_eq_true rfl) (hts _ kX5_repay_2) (fun _ h9 => h9) rfl dX5_repay_40 ?_
  refine lv_iload_n hx hb dX5_repay_43 rfl (lv_at hl 2 rfl) ?_
  refine lv_dup2_11 hx hb dX5_repay_44 rfl rfl ?_
  obtain ⟨h7, hf⟩ := gi_some hf
  refine g_iald hx hb hK hP 1 1 0 rfl rfl rfl h7 dX5_repay_45 ?_
  refine lv_iload_n hx hb dX5_repay_46 rfl (lv_at hl 0 rfl) ?_
  refine lv_isub hx hb dX5_repay_47 ?_
  obtain ⟨h8, hf⟩ := gi_some hf
  obtain ⟨u9, eu9, hf⟩ := lt_some hf
  refine g_iast (gs' := [maW a0 (a1 0) (a2 0) (a3 0) (a4 0) (a7 0 0) (a8 0) (a9 0) (a9 1), stW G a1 u9, paW G a7 q4.2]) hx hb hK hP hD hS 1 1 0 rfl rfl rfl h8 dX5_repay_48 (by rw [eu9]; rfl) (fun H locs hP hD hS => ?_)
  refine lv_iload_n hx hb dX5_repay_49 rfl (lv_at hl 0 rfl) ?_
  cases hf
  exact g_xiret hx hb hr hlocks rfl (Nat.le_of_ble_eq_true rfl) (Nat.le_of_ble_eq_true rfl) hP hS dX5_repay_50
theorem kX5_undo_0 : Cond.fieldLink RX5 36 "SavingsCircle" "past" "LSavingsCircle$Past;" ∈ wsX5_undo := (List.mem_cons_of_mem _ (List.mem_append_left _ (List.mem_append_left _ (List.mem_append_left _ (List.mem_append_left _ (List.mem_append_left _ (List.mem_of_getElem? (i := 2) rfl)))))))
theorem kX5_undo_1 : Cond.fieldLink RX5 222 "SavingsCircle$Past" "size" "I" ∈ wsX5_undo := (List.mem_cons_of_mem _ (List.mem_append_left _ (List.mem_append_left _ (List.mem_append_left _ (List.mem_append_left _ (List.mem_append_left _ (List.mem_of_getElem? (i := 3) rfl)))))))
theorem kX5_undo_2 : Cond.fieldLink RX5 10 "SavingsCircle" "now" "LSavingsCircle$State;" ∈ wsX5_undo := (List.mem_cons_of_mem _ (List.mem_append_left _ (List.mem_append_left _ (List.mem_append_left _ (List.mem_append_left _ (List.mem_append_left _ (List.mem_of_getElem? (i := 4) rfl)))))))
theorem kX5_undo_3 : Cond.classLink RX5 63 "java/lang/IllegalStateException" ∈ wsX5_undo := (List.mem_cons_of_mem _ (List.mem_append_left _ (List.mem_append_left _ (List.mem_append_left _ (List.mem_append_left _ (List.mem_append_left _ (List.mem_of_getElem? (i := 0) rfl)))))))
theorem kX5_undo_4 : Cond.initialized "java/lang/IllegalStateException" ∈ wsX5_undo := (List.mem_cons_of_mem _ (List.mem_append_left _ (List.mem_append_left _ (List.mem_append_left _ (List.mem_append_left _ (List.mem_append_left _ (List.mem_of_getElem? (i := 1) rfl)))))))
theorem iwX5_undo_X5 : ∀ w ∈ wsX50, w ∈ wsX5_undo := fun w h => (List.mem_cons_of_mem _ (List.mem_append_left _ (List.mem_append_left _ (List.mem_append_left _ (List.mem_append_right _ h)))))
theorem iwX5_undo_X0 : ∀ w ∈ wsX00, w ∈ wsX5_undo := fun w h => (List.mem_cons_of_mem _ (List.mem_append_left _ (List.mem_append_left _ (List.mem_append_right _ h))))
theorem atX5_undo_67 : ∀ w ∈ (vx_atS RX5 67 "java/lang/IllegalStateException" ["java/lang/RuntimeException", "java/lang/Exception"]).filter goodWord, w ∈ wsX5_undo := fun w h => (List.mem_cons_of_mem _ (List.mem_append_right _ h))
set_option maxHeartbeats 4000000 in
set_option maxRecDepth 100000 in
theorem c_X5_undo (l : Launch) (hl0 : l.stackTraces = false) (G : uG) (a0 : Nat → Nat) (a1 : Nat → Nat) (a2 : Nat → Nat) (a3 : Nat → Nat) (a4 : Nat → Nat) (a5 : Nat → Nat) (a6 : Nat → Nat) (a7 : Nat → Nat → Nat) (a8 : Nat → Nat) (a9 : Nat → Nat) (a10 : Nat → Nat) (a11 : Nat → Nat) (v1 : StV) (v7 : PaV) {q : (Int32 × (StV × PaV)) ⊕ (String × (StV × PaV))} (hf : f_X5_undo v1 v7 = some q) : mX l yX5_undo wsX5_undo ({ frames := 6, cells := 1, slots := 6, locals := 92 } : Room) G [.ref (a0 0)] [maW a0 (a1 0) (a2 0) (a3 0) (a4 0) (a7 0 0) (a8 0) (a9 0) (a9 1), stW G a1 v1, paW G a7 v7] (om (fun (w9 : StV × PaV) => [maW a0 (a1 0) (a2 0) (a3 0) (a4 0) (a7 0 0) (a8 0) (a9 0) (a9 1), stW G a1 w9.1, paW G a7 w9.2]) q) (qIx G (om (fun (w9 : StV × PaV) => [maW a0 (a1 0) (a2 0) (a3 0) (a4 0) (a7 0 0) (a8 0) (a9 0) (a9 1), stW G a1 w9.1, paW G a7 w9.2]) q)) 1 6 := by
  unfold f_X5_undo at hf
  refine mX_of (cc := cX5_undo) (maxL := 1) (ret := (some .int)) (by decide) rfl (om_gad (fun _ => rfl)) (Nat.le_of_ble_eq_true rfl) ?_
  intro p e s m args below meth c A ls S hK hA hex hTH hP hD hS hl
  obtain ⟨hx, hb, hml, hown, hts, hr, hlocks⟩ := id S
  have hl : lv_has ls 1 [(0, .ref (a0 0))] := hl
  refine lv_aload_n hx hb dX5_undo_0 rfl (lv_at hl 0 rfl) ?_
  refine g_get (C := RX5) (T := TX5) (N := 8) hx hb hts iwX5_undo_X5 hown hK hP 0 0 rfl rfl rfl 4 (Nat.le_of_ble_eq_true rfl) (hts _ kX5_undo_0) (fun _ h9 => h9) rfl dX5_undo_1 ?_
  refine g_get (C := RX0) (T := TX0) (N := 3) hx hb hts iwX5_undo_X0 hown hK hP 2 0 rfl rfl rfl 1 (Nat.le_of_ble_eq_true rfl) (hts _ kX5_undo_1) (fun _ h9 => h9) rfl dX5_undo_4 ?_
  refine lv_if_gt (tgt := 20) hx hb dX5_undo_7 (by decide) (fun c1 => ?_) (fun c1 => ?_)
  · rw [if_pos c1] at hf
    refine lv_aload_n hx hb dX5_undo_20 rfl (lv_at hl 0 rfl) ?_
    refine g_get (C := RX5) (T := TX5) (N := 8) hx hb hts iwX5_undo_X5 hown hK hP 0 0 rfl rfl rfl 4 (Nat.le_of_ble_eq_true rfl) (hts _ kX5_undo_0) (fun _ h9 => h9) rfl dX5_undo_21 ?_
    refine lv_aload_n hx hb dX5_undo_24 rfl (lv_at hl 0 rfl) ?_
    refine g_get (C := RX5) (T := TX5) (N := 8) hx hb hts iwX5_undo_X5 hown hK hP 0 0 rfl rfl rfl 0 (Nat.le_of_ble_eq_true rfl) (hts _ kX5_undo_2) (fun _ h9 => h9) rfl dX5_undo_25 ?_
    obtain ⟨q2, hq2, hf⟩ := bd_some hf
    refine g_callVi S (As := [.ref (a1 0)]) (gs' := [maW a0 (a1 0) (a2 0) (a3 0) (a4 0) (a7 0 0) (a8 0) (a9 0) (a9 1), stW G a1 q2.2.2, paW G a7 q2.2.1]) (c_X0_takeBack l G a7 a1 v7 v1 hq2) (cwV 1 hts gX5_undo_X0_takeBack rfl rfl rfl hd_X0_takeBack ⟨Nat.le_of_ble_eq_true rfl, Nat.le_of_ble_eq_true rfl⟩) hK hP hD hS hA (is := [2, 1]) rfl rfl 2 rfl rfl rfl rfl hl.1 rfl (Nat.le_of_ble_eq_true rfl) dX5_undo_28 ⟨Nat.le_of_ble_eq_true rfl, Nat.le_of_ble_eq_true rfl⟩ rfl (fun H locs hP hD hS => ?_)
    cases hf
    exact g_xiret hx hb hr hlocks rfl (Nat.le_of_ble_eq_true rfl) (Nat.le_of_ble_eq_true rfl) hP hS dX5_undo_31
  · rw [if_neg c1] at hf
    cases hf
    exact g_throw S (cls := "java/lang/IllegalStateException") (text := "no state is remembered") (names := ["java/lang/RuntimeException", "java/lang/Exception"]) rfl hex hl0 hTH vf_IllegalStateException vf_names (hts _ kX5_undo_3) (hts _ kX5_undo_4) (List.mem_of_getElem? (i := 9) rfl) atX5_undo_67 vg_RX5_67 vh_RX5_67 dX5_undo_10 dX5_undo_13 dX5_undo_14 dX5_undo_16 dX5_undo_19 (Nat.le_of_ble_eq_true rfl) (Nat.le_of_ble_eq_true rfl) (Nat.le_of_ble_eq_true rfl) (Nat.le_of_ble_eq_true rfl) (Nat.le_of_ble_eq_true rfl) (Nat.le_of_ble_eq_true rfl) hl.1 rfl hP hS
theorem kX5_winner_0 : Cond.fieldLink RX5 16 "SavingsCircle" "trial" "LSavingsCircle$State;" ∈ wsX5_winner := (List.mem_cons_of_mem _ (List.mem_append_left _ (List.mem_append_left _ (List.mem_append_left _ (List.mem_append_left _ (List.mem_of_getElem? (i := 0) rfl))))))
theorem kX5_winner_1 : Cond.fieldLink RX5 10 "SavingsCircle" "now" "LSavingsCircle$State;" ∈ wsX5_winner := (List.mem_cons_of_mem _ (List.mem_append_left _ (List.mem_append_left _ (List.mem_append_left _ (List.mem_append_left _ (List.mem_of_getElem? (i := 1) rfl))))))
theorem kX5_winner_2 : Cond.fieldLink RX5 22 "SavingsCircle" "round" "LSavingsCircle$Round;" ∈ wsX5_winner := (List.mem_cons_of_mem _ (List.mem_append_left _ (List.mem_append_left _ (List.mem_append_left _ (List.mem_append_left _ (List.mem_of_getElem? (i := 2) rfl))))))
theorem iwX5_winner_X5 : ∀ w ∈ wsX50, w ∈ wsX5_winner := fun w h => (List.mem_cons_of_mem _ (List.mem_append_left _ (List.mem_append_left _ (List.mem_append_right _ h))))
set_option maxHeartbeats 4000000 in
set_option maxRecDepth 100000 in
theorem c_X5_winner (l : Launch) (G : uG) (a0 : Nat → Nat) (a1 : Nat → Nat) (a2 : Nat → Nat) (a3 : Nat → Nat) (a4 : Nat → Nat) (a5 : Nat → Nat) (a6 : Nat → Nat) (a7 : Nat → Nat → Nat) (a8 : Nat → Nat) (a9 : Nat → Nat) (a10 : Nat → Nat) (a11 : Nat → Nat) (v1 : StV) (v2 : StV) (v3 : RdV) {q : Int32 × (StV × RdV)} (hf : f_X5_winner v1 v2 v3 = some q) : mQ l yX5_winner wsX5_winner ({ frames := 4, cells := 0, slots := 0, locals := 93 } : Room) G [.ref (a0 0)] [maW a0 (a1 0) (a2 0) (a3 0) (a4 0) (a7 0 0) (a8 0) (a9 0) (a9 1), stW G a1 v1, stW G a2 v2, rdW G a3 v3] [maW a0 (a1 0) (a2 0) (a3 0) (a4 0) (a7 0 0) (a8 0) (a9 0) (a9 1), stW G a1 v1, stW G a2 q.2.1, rdW G a3 q.2.2] (qI G [maW a0 (a1 0) (a2 0) (a3 0) (a4 0) (a7 0 0) (a8 0) (a9 0) (a9 1), stW G a1 v1, stW G a2 q.2.1, rdW G a3 q.2.2] q.1) := by
  unfold f_X5_winner at hf
  refine m_of (cc := cX5_winner) (maxL := 1) (ret := (some .int)) (by decide) rfl rfl (Nat.le_of_ble_eq_true rfl) ?_
  intro p e s m args below meth c A ls S hK hA hP hD hS hl
  obtain ⟨hx, hb, hml, hown, hts, hr, hlocks⟩ := id S
  have hl : lv_has ls 1 [(0, .ref (a0 0))] := hl
  refine lv_aload_n hx hb dX5_winner_0 rfl (lv_at hl 0 rfl) ?_
  refine g_get (C := RX5) (T := TX5) (N := 8) hx hb hts iwX5_winner_X5 hown hK hP 0 0 rfl rfl rfl 1 (Nat.le_of_ble_eq_true rfl) (hts _ kX5_winner_0) (fun _ h9 => h9) rfl dX5_winner_1 ?_
  refine lv_aload_n hx hb dX5_winner_4 rfl (lv_at hl 0 rfl) ?_
  refine g_get (C := RX5) (T := TX5) (N := 8) hx hb hts iwX5_winner_X5 hown hK hP 0 0 rfl rfl rfl 0 (Nat.le_of_ble_eq_true rfl) (hts _ kX5_winner_1) (fun _ h9 => h9) rfl dX5_winner_5 ?_
  obtain ⟨q1, hq1, hf⟩ := bd_some hf
  refine g_callVv S (As := [.ref (a1 0)]) (gs' := [maW a0 (a1 0) (a2 0) (a3 0) (a4 0) (a7 0 0) (a8 0) (a9 0) (a9 1), stW G a1 v1, stW G a2 q1.2, rdW G a3 v3]) (c_X3_copyFrom l G a2 a1 v2 v1 hq1) (cwV 1 hts gX5_winner_X3_copyFrom rfl rfl rfl hd_X3_copyFrom ⟨Nat.le_of_ble_eq_true rfl, Nat.le_of_ble_eq_true rfl⟩) hK hP hD hS hA (is := [2, 1]) rfl rfl 2 rfl rfl rfl rfl hl.1 rfl (Nat.le_of_ble_eq_true rfl) dX5_winner_8 ⟨Nat.le_of_ble_eq_true rfl, Nat.le_of_ble_eq_true rfl⟩ rfl (fun H locs hP hD hS => ?_)
  refine lv_aload_n hx hb dX5_winner_11 rfl (lv_at hl 0 rfl) ?_
  refine g_get (C := RX5) (T := TX5) (N := 8) hx hb hts iwX5_winner_X5 hown hK hP 0 0 rfl rfl rfl 2 (Nat.le_of_ble_eq_true rfl) (hts _ kX5_winner_2) (fun _ h9 => h9) rfl dX5_winner_12 ?_
  refine lv_aload_n hx hb dX5_winner_15 rfl (lv_at hl 0 rfl) ?_
  refine g_get (C := RX5) (T := TX5) (N := 8) hx hb hts iwX5_winner_X5 hown hK hP 0 0 rfl rfl rfl 1 (Nat.le_of_ble_eq_true rfl) (hts _ kX5_winner_0) (fun _ h9 => h9) rfl dX5_winner_16 ?_
  obtain ⟨q2, hq2, hf⟩ := bd_some hf
  refine g_callVi S (As := [.ref (a2 0)]) (gs' := [maW a0 (a1 0) (a2 0) (a3 0) (a4 0) (a7 0 0) (a8 0) (a9 0) (a9 1), stW G a1 v1, stW G a2 q2.2.2, rdW G a3 q2.2.1]) (c_X1_pass l G a3 a2 v3 q1.2 hq2) (cwV 1 hts gX5_winner_X1_pass rfl rfl rfl hd_X1_pass ⟨Nat.le_of_ble_eq_true rfl, Nat.le_of_ble_eq_true rfl⟩) hK hP hD hS hA (is := [3, 2]) rfl rfl 3 rfl rfl rfl rfl hl.1 rfl (Nat.le_of_ble_eq_true rfl) dX5_winner_19 ⟨Nat.le_of_ble_eq_true rfl, Nat.le_of_ble_eq_true rfl⟩ rfl (fun H locs hP hD hS => ?_)
  cases hf
  exact g_iret hx hb hr hlocks hP hS dX5_winner_22
theorem kX5_pot_0 : Cond.fieldLink RX5 16 "SavingsCircle" "trial" "LSavingsCircle$State;" ∈ wsX5_pot := (List.mem_cons_of_mem _ (List.mem_append_left _ (List.mem_append_left _ (List.mem_append_left _ (List.mem_append_left _ (List.mem_of_getElem? (i := 0) rfl))))))
theorem kX5_pot_1 : Cond.fieldLink RX5 10 "SavingsCircle" "now" "LSavingsCircle$State;" ∈ wsX5_pot := (List.mem_cons_of_mem _ (List.mem_append_left _ (List.mem_append_left _ (List.mem_append_left _ (List.mem_append_left _ (List.mem_of_getElem? (i := 1) rfl))))))
theorem kX5_pot_2 : Cond.fieldLink RX5 22 "SavingsCircle" "round" "LSavingsCircle$Round;" ∈ wsX5_pot := (List.mem_cons_of_mem _ (List.mem_append_left _ (List.mem_append_left _ (List.mem_append_left _ (List.mem_append_left _ (List.mem_of_getElem? (i := 2) rfl))))))
theorem kX5_pot_3 : Cond.fieldLink RX5 233 "SavingsCircle$Round" "pence" "I" ∈ wsX5_pot := (List.mem_cons_of_mem _ (List.mem_append_left _ (List.mem_append_left _ (List.mem_append_left _ (List.mem_append_left _ (List.mem_of_getElem? (i := 3) rfl))))))
theorem iwX5_pot_X5 : ∀ w ∈ wsX50, w ∈ wsX5_pot := fun w h => (List.mem_cons_of_mem _ (List.mem_append_left _ (List.mem_append_left _ (List.mem_append_right _ h))))
theorem iwX5_pot_X1 : ∀ w ∈ wsX10, w ∈ wsX5_pot := fun w h => (List.mem_cons_of_mem _ (List.mem_append_left _ (List.mem_append_right _ h)))
set_option maxHeartbeats 4000000 in
set_option maxRecDepth 100000 in
theorem c_X5_pot (l : Launch) (G : uG) (a0 : Nat → Nat) (a1 : Nat → Nat) (a2 : Nat → Nat) (a3 : Nat → Nat) (a4 : Nat → Nat) (a5 : Nat → Nat) (a6 : Nat → Nat) (a7 : Nat → Nat → Nat) (a8 : Nat → Nat) (a9 : Nat → Nat) (a10 : Nat → Nat) (a11 : Nat → Nat) (v1 : StV) (v2 : StV) (v3 : RdV) {q : Int32 × (StV × RdV)} (hf : f_X5_pot v1 v2 v3 = some q) : mQ l yX5_pot wsX5_pot ({ frames := 3, cells := 0, slots := 0, locals := 66 } : Room) G [.ref (a0 0)] [maW a0 (a1 0) (a2 0) (a3 0) (a4 0) (a7 0 0) (a8 0) (a9 0) (a9 1), stW G a1 v1, stW G a2 v2, rdW G a3 v3] [maW a0 (a1 0) (a2 0) (a3 0) (a4 0) (a7 0 0) (a8 0) (a9 0) (a9 1), stW G a1 v1, stW G a2 q.2.1, rdW G a3 q.2.2] (qI G [maW a0 (a1 0) (a2 0) (a3 0) (a4 0) (a7 0 0) (a8 0) (a9 0) (a9 1), stW G a1 v1, stW G a2 q.2.1, rdW G a3 q.2.2] q.1) := by
  unfold f_X5_pot at hf
  refine m_of (cc := cX5_pot) (maxL := 1) (ret := (some .int)) (by decide) rfl rfl (Nat.le_of_ble_eq_true rfl) ?_
  intro p e s m args below meth c A ls S hK hA hP hD hS hl
  obtain ⟨hx, hb, hml, hown, hts, hr, hlocks⟩ := id S
  have hl : lv_has ls 1 [(0, .ref (a0 0))] := hl
  refine lv_aload_n hx hb dX5_pot_0 rfl (lv_at hl 0 rfl) ?_
  refine g_get (C := RX5) (T := TX5) (N := 8) hx hb hts iwX5_pot_X5 hown hK hP 0 0 rfl rfl rfl 1 (Nat.le_of_ble_eq_true rfl) (hts _ kX5_pot_0) (fun _ h9 => h9) rfl dX5_pot_1 ?_
  refine lv_aload_n hx hb dX5_pot_4 rfl (lv_at hl 0 rfl) ?_
  refine g_get (C := RX5) (T := TX5) (N := 8) hx hb hts iwX5_pot_X5 hown hK hP 0 0 rfl rfl rfl 0 (Nat.le_of_ble_eq_true rfl) (hts _ kX5_pot_1) (fun _ h9 => h9) rfl dX5_pot_5 ?_
  obtain ⟨q1, hq1, hf⟩ := bd_some hf
  refine g_callVv S (As := [.ref (a1 0)]) (gs' := [maW a0 (a1 0) (a2 0) (a3 0) (a4 0) (a7 0 0) (a8 0) (a9 0) (a9 1), stW G a1 v1, stW G a2 q1.2, rdW G a3 v3]) (c_X3_copyFrom l G a2 a1 v2 v1 hq1) (cwV 1 hts gX5_pot_X3_copyFrom rfl rfl rfl hd_X3_copyFrom ⟨Nat.le_of_ble_eq_true rfl, Nat.le_of_ble_eq_true rfl⟩) hK hP hD hS hA (is := [2, 1]) rfl rfl 2 rfl rfl rfl rfl hl.1 rfl (Nat.le_of_ble_eq_true rfl) dX5_pot_8 ⟨Nat.le_of_ble_eq_true rfl, Nat.le_of_ble_eq_true rfl⟩ rfl (fun H locs hP hD hS => ?_)
  refine lv_aload_n hx hb dX5_pot_11 rfl (lv_at hl 0 rfl) ?_
  refine g_get (C := RX5) (T := TX5) (N := 8) hx hb hts iwX5_pot_X5 hown hK hP 0 0 rfl rfl rfl 2 (Nat.le_of_ble_eq_true rfl) (hts _ kX5_pot_2) (fun _ h9 => h9) rfl dX5_pot_12 ?_
  refine lv_aload_n hx hb dX5_pot_15 rfl (lv_at hl 0 rfl) ?_
  refine g_get (C := RX5) (T := TX5) (N := 8) hx hb hts iwX5_pot_X5 hown hK hP 0 0 rfl rfl rfl 1 (Nat.le_of_ble_eq_true rfl) (hts _ kX5_pot_0) (fun _ h9 => h9) rfl dX5_pot_16 ?_
  obtain ⟨q2, hq2, hf⟩ := bd_some hf
  refine g_callVv S (As := [.ref (a2 0)]) (gs' := [maW a0 (a1 0) (a2 0) (a3 0) (a4 0) (a7 0 0) (a8 0) (a9 0) (a9 1), stW G a1 v1, stW G a2 q2.2.2, rdW G a3 q2.2.1]) (c_X1_payIn l G a3 a2 v3 q1.2 hq2) (cwV 1 hts gX5_pot_X1_payIn rfl rfl rfl hd_X1_payIn ⟨Nat.le_of_ble_eq_true rfl, Nat.le_of_ble_eq_true rfl⟩) hK hP hD hS hA (is := [3, 2]) rfl rfl 3 rfl rfl rfl rfl hl.1 rfl (Nat.le_of_ble_eq_true rfl) dX5_pot_19 ⟨Nat.le_of_ble_eq_true rfl, Nat.le_of_ble_eq_true rfl⟩ rfl (fun H locs hP hD hS => ?_)
  refine lv_aload_n hx hb dX5_pot_22 rfl (lv_at hl 0 rfl) ?_
  refine g_get (C := RX5) (T := TX5) (N := 8) hx hb hts iwX5_pot_X5 hown hK hP 0 0 rfl rfl rfl 2 (Nat.le_of_ble_eq_true rfl) (hts _ kX5_pot_2) (fun _ h9 => h9) rfl dX5_pot_23 ?_
  refine g_get (C := RX1) (T := TX1) (N := 3) hx hb hts iwX5_pot_X1 hown hK hP 3 0 rfl rfl rfl 2 (Nat.le_of_ble_eq_true rfl) (hts _ kX5_pot_3) (fun _ h9 => h9) rfl dX5_pot_26 ?_
  cases hf
  exact g_iret hx hb hr hlocks hP hS dX5_pot_29
theorem kX5_change_0 : Cond.fieldLink RX5 16 "SavingsCircle" "trial" "LSavingsCircle$State;" ∈ wsX5_change := (List.mem_cons_of_mem _ (List.mem_append_left _ (List.mem_append_left _ (List.mem_append_left _ (List.mem_append_left _ (List.mem_append_left _ (List.mem_of_getElem? (i := 0) rfl)))))))
theorem kX5_change_1 : Cond.fieldLink RX5 10 "SavingsCircle" "now" "LSavingsCircle$State;" ∈ wsX5_change := (List.mem_cons_of_mem _ (List.mem_append_left _ (List.mem_append_left _ (List.mem_append_left _ (List.mem_append_left _ (List.mem_append_left _ (List.mem_of_getElem? (i := 1) rfl)))))))
theorem kX5_change_2 : Cond.fieldLink RX5 22 "SavingsCircle" "round" "LSavingsCircle$Round;" ∈ wsX5_change := (List.mem_cons_of_mem _ (List.mem_append_left _ (List.mem_append_left _ (List.mem_append_left _ (List.mem_append_left _ (List.mem_append_left _ (List.mem_of_getElem? (i := 2) rfl)))))))
theorem kX5_change_3 : Cond.fieldLink RX5 125 "SavingsCircle$State" "purse" "[I" ∈ wsX5_change := (List.mem_cons_of_mem _ (List.mem_append_left _ (List.mem_append_left _ (List.mem_append_left _ (List.mem_append_left _ (List.mem_append_left _ (List.mem_of_getElem? (i := 3) rfl)))))))
theorem iwX5_change_X5 : ∀ w ∈ wsX50, w ∈ wsX5_change := fun w h => (List.mem_cons_of_mem _ (List.mem_append_left _ (List.mem_append_left _ (List.mem_append_left _ (List.mem_append_right _ h)))))
theorem iwX5_change_X3 : ∀ w ∈ wsX30, w ∈ wsX5_change := fun w h => (List.mem_cons_of_mem _ (List.mem_append_left _ (List.mem_append_left _ (List.mem_append_right _ h))))
set_option maxHeartbeats 4000000 in
set_option maxRecDepth 100000 in
theorem c_X5_change (l : Launch) (hl0 : l.stackTraces = false) (G : uG) (a0 : Nat → Nat) (a1 : Nat → Nat) (a2 : Nat → Nat) (a3 : Nat → Nat) (a4 : Nat → Nat) (a5 : Nat → Nat) (a6 : Nat → Nat) (a7 : Nat → Nat → Nat) (a8 : Nat → Nat) (a9 : Nat → Nat) (a10 : Nat → Nat) (a11 : Nat → Nat) (v1 : StV) (v2 : StV) (v3 : RdV) (i1 : Int32) {q : (Int32 × (StV × RdV)) ⊕ (String × (StV × RdV))} (hf : f_X5_change v1 v2 v3 i1 = some q) : mX l yX5_change wsX5_change ({ frames := 7, cells := 1, slots := 6, locals := 113 } : Room) G [.ref (a0 0), .int i1] [maW a0 (a1 0) (a2 0) (a3 0) (a4 0) (a7 0 0) (a8 0) (a9 0) (a9 1), stW G a1 v1, stW G a2 v2, rdW G a3 v3] (om (fun (w9 : StV × RdV) => [maW a0 (a1 0) (a2 0) (a3 0) (a4 0) (a7 0 0) (a8 0) (a9 0) (a9 1), stW G a1 v1, stW G a2 w9.1, rdW G a3 w9.2]) q) (qIx G (om (fun (w9 : StV × RdV) => [maW a0 (a1 0) (a2 0) (a3 0) (a4 0) (a7 0 0) (a8 0) (a9 0) (a9 1), stW G a1 v1, stW G a2 w9.1, rdW G a3 w9.2]) q)) 1 6 := by
  unfold f_X5_change at hf
  refine mX_of (cc := cX5_change) (maxL := 2) (ret := (some .int)) (by decide) rfl (om_gad (fun _ => rfl)) (Nat.le_of_ble_eq_true rfl) ?_
  intro p e s m args below meth c A ls S hK hA hex hTH hP hD hS hl
  obtain ⟨hx, hb, hml, hown, hts, hr, hlocks⟩ := id S
  have hl : lv_has ls 2 [(0, .ref (a0 0)), (1, .int i1)] := hl
  refine lv_aload_n hx hb dX5_change_0 rfl (lv_at hl 0 rfl) ?_
  refine lv_iload_n hx hb dX5_change_1 rfl (lv_at hl 1 rfl) ?_
  obtain ⟨q1, hq1, hf⟩ := bx_some hf
  refine g_callXVv S (cells' := 1) (slots' := 6) (As := [.int i1]) (c_X5_requireMember l hl0 G a0 a1 a2 a3 a4 a5 a6 a7 a8 a9 a10 a11 v1 i1 hq1) (cwV 1 hts gX5_change_X5_requireMember rfl rfl rfl hd_X5_requireMember ⟨Nat.le_of_ble_eq_true rfl, Nat.le_of_ble_eq_true rfl⟩) hTH hK hP hD hS hA (is := [0, 1]) rfl rfl 0 rfl rfl rfl rfl hl.1 rfl (Nat.le_of_ble_eq_true rfl) dX5_change_2 ⟨Nat.le_of_ble_eq_true rfl, Nat.le_of_ble_eq_true rfl⟩ rfl rfl (fun u ho H locs hP hD hS => ?_) (fun E u ho ce q9 H locs hP hD hS hce hcv hcl => by obtain ⟨r9, rfl, rfl, rfl⟩ := om_r ho; have hf := bxe_r hf; subst hf; exact g_xout hex hlocks hce hcv hcl rfl (Nat.le_of_ble_eq_true rfl) (Nat.le_of_ble_eq_true rfl) hP hS)
  obtain ⟨r2, rfl, -, rfl⟩ := om_l ho
  have hf := bxe_l hf
  have hP : gP G [maW a0 (a1 0) (a2 0) (a3 0) (a4 0) (a7 0 0) (a8 0) (a9 0) (a9 1), stW G a1 v1, stW G a2 v2, rdW G a3 v3] H := hP
  have hD : gD A [maW a0 (a1 0) (a2 0) (a3 0) (a4 0) (a7 0 0) (a8 0) (a9 0) (a9 1), stW G a1 v1, stW G a2 v2, rdW G a3 v3] := hD
  refine lv_aload_n hx hb dX5_change_5 rfl (lv_at hl 0 rfl) ?_
  refine g_get (C := RX5) (T := TX5) (N := 8) hx hb hts iwX5_change_X5 hown hK hP 0 0 rfl rfl rfl 1 (Nat.le_of_ble_eq_true rfl) (hts _ kX5_change_0) (fun _ h9 => h9) rfl dX5_change_6 ?_
  refine lv_aload_n hx hb dX5_change_9 rfl (lv_at hl 0 rfl) ?_
  refine g_get (C := RX5) (T := TX5) (N := 8) hx hb hts iwX5_change_X5 hown hK hP 0 0 rfl rfl rfl 0 (Nat.le_of_ble_eq_true rfl) (hts _ kX5_change_1) (fun _ h9 => h9) rfl dX5_change_10 ?_
  obtain ⟨q4, hq4, hf⟩ := bd_some hf
  refine g_callVv S (As := [.ref (a1 0)]) (gs' := [maW a0 (a1 0) (a2 0) (a3 0) (a4 0) (a7 0 0) (a8 0) (a9 0) (a9 1), stW G a1 v1, stW G a2 q4.2, rdW G a3 v3]) (c_X3_copyFrom l G a2 a1 v2 v1 hq4) (cwV 1 hts gX5_change_X3_copyFrom rfl rfl rfl hd_X3_copyFrom ⟨Nat.le_of_ble_eq_true rfl, Nat.le_of_ble_eq_true rfl⟩) hK hP hD hS hA (is := [2, 1]) rfl rfl 2 rfl rfl rfl rfl hl.1 rfl (Nat.le_of_ble_eq_true rfl) dX5_change_13 ⟨Nat.le_of_ble_eq_true rfl, Nat.le_of_ble_eq_true rfl⟩ rfl (fun H locs hP hD hS => ?_)
  refine lv_aload_n hx hb dX5_change_16 rfl (lv_at hl 0 rfl) ?_
  refine g_get (C := RX5) (T := TX5) (N := 8) hx hb hts iwX5_change_X5 hown hK hP 0 0 rfl rfl rfl 2 (Nat.le_of_ble_eq_true rfl) (hts _ kX5_change_2) (fun _ h9 => h9) rfl dX5_change_17 ?_
  refine lv_aload_n hx hb dX5_change_20 rfl (lv_at hl 0 rfl) ?_
  refine g_get (C := RX5) (T := TX5) (N := 8) hx hb hts iwX5_change_X5 hown hK hP 0 0 rfl rfl rfl 1 (Nat.le_of_ble_eq_true rfl) (hts _ kX5_change_0) (fun _ h9 => h9) rfl dX5_change_21 ?_
  obtain ⟨q5, hq5, hf⟩ := bd_some hf
  refine g_callVi S (As := [.ref (a2 0)]) (gs' := [maW a0 (a1 0) (a2 0) (a3 0) (a4 0) (a7 0 0) (a8 0) (a9 0) (a9 1), stW G a1 v1, stW G a2 q5.2.2, rdW G a3 q5.2.1]) (c_X1_pass l G a3 a2 v3 q4.2 hq5) (cwV 1 hts gX5_change_X1_pass rfl rfl rfl hd_X1_pass ⟨Nat.le_of_ble_eq_true rfl, Nat.le_of_ble_eq_true rfl⟩) hK hP hD hS hA (is := [3, 2]) rfl rfl 3 rfl rfl rfl rfl hl.1 rfl (Nat.le_of_ble_eq_true rfl) dX5_change_24 ⟨Nat.le_of_ble_eq_true rfl, Nat.le_of_ble_eq_true rfl⟩ rfl (fun H locs hP hD hS => ?_)
  refine lv_pop hx hb dX5_change_27 rfl ?_
  refine lv_aload_n hx hb dX5_change_28 rfl (lv_at hl 0 rfl) ?_
  refine g_get (C := RX5) (T := TX5) (N := 8) hx hb hts iwX5_change_X5 hown hK hP 0 0 rfl rfl rfl 1 (Nat.le_of_ble_eq_true rfl) (hts _ kX5_change_0) (fun _ h9 => h9) rfl dX5_change_29 ?_
  refine g_get (C := RX3) (T := TX3) (N := 17) hx hb hts iwX5_change_X3 hown hK hP 2 0 rfl rfl rfl 5 (Nat.le_of_ble_eq_true rfl) (hts _ kX5_change_3) (fun _ h9 => h9) rfl dX5_change_32 ?_
  refine lv_iload_n hx hb dX5_change_35 rfl (lv_at hl 1 rfl) ?_
  obtain ⟨h6, hf⟩ := gi_some hf
  refine g_iald hx hb hK hP 2 1 0 rfl rfl rfl h6 dX5_change_36 ?_
  refine lv_aload_n hx hb dX5_change_37 rfl (lv_at hl 0 rfl) ?_
  refine g_get (C := RX5) (T := TX5) (N := 8) hx hb hts iwX5_change_X5 hown hK hP 0 0 rfl rfl rfl 0 (Nat.le_of_ble_eq_true rfl) (hts _ kX5_change_1) (fun _ h9 => h9) rfl dX5_change_38 ?_
  refine g_get (C := RX3) (T := TX3) (N := 17) hx hb hts iwX5_change_X3 hown hK hP 1 0 rfl rfl rfl 5 (Nat.le_of_ble_eq_true rfl) (hts _ kX5_change_3) (fun _ h9 => h9) rfl dX5_change_41 ?_
  refine lv_iload_n hx hb dX5_change_44 rfl (lv_at hl 1 rfl) ?_
  obtain ⟨h7, hf⟩ := gi_some hf
  refine g_iald hx hb hK hP 1 1 0 rfl rfl rfl h7 dX5_change_45 ?_
  refine lv_isub hx hb dX5_change_46 ?_
  obtain ⟨x8, ex8, hf⟩ := lt_some hf
  refine lv_nmi ex8 ?_
  cases hf
  exact g_xiret hx hb hr hlocks rfl (Nat.le_of_ble_eq_true rfl) (Nat.le_of_ble_eq_true rfl) hP hS dX5_change_47
theorem kX5_leastBid_0 : Cond.fieldLink RX5 16 "SavingsCircle" "trial" "LSavingsCircle$State;" ∈ wsX5_leastBid := (List.mem_cons_of_mem _ (List.mem_append_left _ (List.mem_append_left _ (List.mem_append_left _ (List.mem_append_left _ (List.mem_append_left _ (List.mem_of_getElem? (i := 0) rfl)))))))
theorem kX5_leastBid_1 : Cond.fieldLink RX5 10 "SavingsCircle" "now" "LSavingsCircle$State;" ∈ wsX5_leastBid := (List.mem_cons_of_mem _ (List.mem_append_left _ (List.mem_append_left _ (List.mem_append_left _ (List.mem_append_left _ (List.mem_append_left _ (List.mem_of_getElem? (i := 1) rfl)))))))
theorem kX5_leastBid_2 : Cond.fieldLink RX5 22 "SavingsCircle" "round" "LSavingsCircle$Round;" ∈ wsX5_leastBid := (List.mem_cons_of_mem _ (List.mem_append_left _ (List.mem_append_left _ (List.mem_append_left _ (List.mem_append_left _ (List.mem_append_left _ (List.mem_of_getElem? (i := 2) rfl)))))))
theorem kX5_leastBid_3 : Cond.fieldLink RX5 132 "SavingsCircle$State" "bid" "[I" ∈ wsX5_leastBid := (List.mem_cons_of_mem _ (List.mem_append_left _ (List.mem_append_left _ (List.mem_append_left _ (List.mem_append_left _ (List.mem_append_left _ (List.mem_of_getElem? (i := 4) rfl)))))))
theorem kX5_leastBid_4 : Cond.constant RX5 78 (-99999) ∈ wsX5_leastBid := (List.mem_cons_of_mem _ (List.mem_append_left _ (List.mem_append_left _ (List.mem_append_left _ (List.mem_append_left _ (List.mem_append_left _ (List.mem_of_getElem? (i := 3) rfl)))))))
theorem iwX5_leastBid_X5 : ∀ w ∈ wsX50, w ∈ wsX5_leastBid := fun w h => (List.mem_cons_of_mem _ (List.mem_append_left _ (List.mem_append_left _ (List.mem_append_left _ (List.mem_append_right _ h)))))
theorem iwX5_leastBid_X3 : ∀ w ∈ wsX30, w ∈ wsX5_leastBid := fun w h => (List.mem_cons_of_mem _ (List.mem_append_left _ (List.mem_append_left _ (List.mem_append_right _ h))))
set_option maxHeartbeats 4000000 in
set_option maxRecDepth 100000 in
theorem w_X5_leastBid_60 {p : Program} {l : Launch} {e : Env} {s : State} {m : MethodId} {args : Array Value} {below : List Frame} {meth : Method} {c : Code} {A : Nat → Prop} {q : (Int32 × (StV × RdV)) ⊕ (String × (StV × RdV))} (S : Ev p s m args meth c cX5_leastBid 4 (some .int) yX5_leastBid.cls wsX5_leastBid) {G : uG} (hK : kK G s) (hA : ∀ q, s.heap.size ≤ q → A q) (_ : uG) (a0 : Nat → Nat) (a1 : Nat → Nat) (a2 : Nat → Nat) (a3 : Nat → Nat) (a4 : Nat → Nat) (a5 : Nat → Nat) (a6 : Nat → Nat) (a7 : Nat → Nat → Nat) (a8 : Nat → Nat) (a9 : Nat → Nat) (a10 : Nat → Nat) (a11 : Nat → Nat) (v1 : StV) (v3 : RdV) (p1 : Int32) (p2 : Int32) : ∀ (n : Nat) (z : (Int32 × StV)) (e1 : ((Int32 × StV) ⊕ (Int32 × (StV × RdV)))) (_ : ∀ r, e1 = Sum.inr r → Sum.inl r = q), lp (b_X5_leastBid_60 v1 v3 p1 p2) n z = some e1 → ∀ (H : Heap) (locs : List Loc) (ls : Array Slot), gP G [maW a0 (a1 0) (a2 0) (a3 0) (a4 0) (a7 0 0) (a8 0) (a9 0) (a9 1), stW G a1 v1, stW G a2 z.2, rdW G a3 v3] H → gD A [maW a0 (a1 0) (a2 0) (a3 0) (a4 0) (a7 0 0) (a8 0) (a9 0) (a9 1), stW G a1 v1, stW G a2 z.2, rdW G a3 v3] → va_S A s.heap H locs → lv_has ls 4 [(0, .ref (a0 0)), (1, .int p1), (2, .int p2), (3, .int z.1)] → (∀ (s1 : (Int32 × StV)), e1 = .inl s1 → ∀ (H : Heap) (locs : List Loc) (ls : Array Slot), gP G [maW a0 (a1 0) (a2 0) (a3 0) (a4 0) (a7 0 0) (a8 0) (a9 0) (a9 1), stW G a1 v1, stW G a2 s1.2, rdW G a3 v3] H → gD A [maW a0 (a1 0) (a2 0) (a3 0) (a4 0) (a7 0 0) (a8 0) (a9 0) (a9 1), stW G a1 v1, stW G a2 s1.2, rdW G a3 v3] → va_S A s.heap H locs → lv_has ls 4 [(0, .ref (a0 0)), (1, .int p1), (2, .int p2), (3, .int s1.1)] → W p l e ({ frames := 7, cells := 1, slots := 6, locals := 113 } : Room) s m args below meth c H locs 1 6 (vx_MQ below (qIx G (om (fun (w9 : StV × RdV) => [maW a0 (a1 0) (a2 0) (a3 0) (a4 0) (a7 0 0) (a8 0) (a9 0) (a9 1), stW G a1 v1, stW G a2 w9.1, rdW G a3 w9.2]) q) A) (qXx G (om (fun (w9 : StV × RdV) => [maW a0 (a1 0) (a2 0) (a3 0) (a4 0) (a7 0 0) (a8 0) (a9 0) (a9 1), stW G a1 v1, stW G a2 w9.1, rdW G a3 w9.2]) q) A) args s 1 6 A) (F0 m 100 ls [])) → W p l e ({ frames := 7, cells := 1, slots := 6, locals := 113 } : Room) s m args below meth c H locs 1 6 (vx_MQ below (qIx G (om (fun (w9 : StV × RdV) => [maW a0 (a1 0) (a2 0) (a3 0) (a4 0) (a7 0 0) (a8 0) (a9 0) (a9 1), stW G a1 v1, stW G a2 w9.1, rdW G a3 w9.2]) q) A) (qXx G (om (fun (w9 : StV × RdV) => [maW a0 (a1 0) (a2 0) (a3 0) (a4 0) (a7 0 0) (a8 0) (a9 0) (a9 1), stW G a1 v1, stW G a2 w9.1, rdW G a3 w9.2]) q) A) args s 1 6 A) (F0 m 60 ls []) := by
  obtain ⟨hx, hb, hml, hown, hts, hr, hlocks⟩ := id S
  intro n
  induction n with
  | zero => intro z e1 hE h; cases h
  | succ n ih =>
    intro z e1 hE hlp H locs ls hP hD hS hl K
    obtain ⟨z9, hf, hz⟩ := lp_s hlp
    unfold b_X5_leastBid_60 at hf
    refine lv_iload_n hx hb dX5_leastBid_60 rfl (lv_at hl 3 rfl) ?_
    refine lv_iload_n hx hb dX5_leastBid_61 rfl (lv_at hl 2 rfl) ?_
    refine lv_iconst (v := (1:Int32)) hx hb dX5_leastBid_62 (by decide) ?_
    refine lv_iadd hx hb dX5_leastBid_63 ?_
    refine lv_icmp_gt (tgt := 100) hx hb dX5_leastBid_64 (by decide) (fun c9 => ?_) (fun c9 => ?_)
    · rw [if_pos c9] at hf
      have he := lz_r hf hz
      exact K _ he.symm H locs ls hP hD hS (lv_sub hl [0, 1, 2, 3] rfl)
    · rw [if_neg c9] at hf
      refine lv_aload_n hx hb dX5_leastBid_67 rfl (lv_at hl 0 rfl) ?_
      refine g_get (C := RX5) (T := TX5) (N := 8) hx hb hts iwX5_leastBid_X5 hown hK hP 0 0 rfl rfl rfl 1 (Nat.le_of_ble_eq_true rfl) (hts _ kX5_leastBid_0) (fun _ h9 => h9) rfl dX5_leastBid_68 ?_
      refine g_get (C := RX3) (T := TX3) (N := 17) hx hb hts iwX5_leastBid_X3 hown hK hP 2 0 rfl rfl rfl 7 (Nat.le_of_ble_eq_true rfl) (hts _ kX5_leastBid_3) (fun _ h9 => h9) rfl dX5_leastBid_71 ?_
      refine lv_iload_n hx hb dX5_leastBid_74 rfl (lv_at hl 1 rfl) ?_
      refine lv_iload_n hx hb dX5_leastBid_75 rfl (lv_at hl 3 rfl) ?_
      obtain ⟨h10, hf⟩ := gi_some hf
      obtain ⟨u11, eu11, hf⟩ := lt_some hf
      refine g_iast (gs' := [maW a0 (a1 0) (a2 0) (a3 0) (a4 0) (a7 0 0) (a8 0) (a9 0) (a9 1), stW G a1 v1, stW G a2 u11, rdW G a3 v3]) hx hb hK hP hD hS 2 3 0 rfl rfl rfl h10 dX5_leastBid_76 (by rw [eu11]; rfl) (fun H locs hP hD hS => ?_)
      refine lv_aload_n hx hb dX5_leastBid_77 rfl (lv_at hl 0 rfl) ?_
      refine g_get (C := RX5) (T := TX5) (N := 8) hx hb hts iwX5_leastBid_X5 hown hK hP 0 0 rfl rfl rfl 2 (Nat.le_of_ble_eq_true rfl) (hts _ kX5_leastBid_2) (fun _ h9 => h9) rfl dX5_leastBid_78 ?_
      refine lv_aload_n hx hb dX5_leastBid_81 rfl (lv_at hl 0 rfl) ?_
      refine g_get (C := RX5) (T := TX5) (N := 8) hx hb hts iwX5_leastBid_X5 hown hK hP 0 0 rfl rfl rfl 1 (Nat.le_of_ble_eq_true rfl) (hts _ kX5_leastBid_0) (fun _ h9 => h9) rfl dX5_leastBid_82 ?_
      obtain ⟨q12, hq12, hf⟩ := bd_some hf
      refine g_callVi S (As := [.ref (a2 0)]) (gs' := [maW a0 (a1 0) (a2 0) (a3 0) (a4 0) (a7 0 0) (a8 0) (a9 0) (a9 1), stW G a1 v1, stW G a2 u11, rdW G a3 v3]) (c_X1_taker l G a3 a2 v3 u11 hq12) (cwV 1 hts gX5_leastBid_X1_taker rfl rfl rfl hd_X1_taker ⟨Nat.le_of_ble_eq_true rfl, Nat.le_of_ble_eq_true rfl⟩) hK hP hD hS hA (is := [3, 2]) rfl rfl 3 rfl rfl rfl rfl hl.1 rfl (Nat.le_of_ble_eq_true rfl) dX5_leastBid_85 ⟨Nat.le_of_ble_eq_true rfl, Nat.le_of_ble_eq_true rfl⟩ rfl (fun H locs hP hD hS => ?_)
      refine lv_iload_n hx hb dX5_leastBid_88 rfl (lv_at hl 1 rfl) ?_
      refine lv_icmp_ne (tgt := 94) hx hb dX5_leastBid_89 (by decide) (fun c13 => ?_) (fun c13 => ?_)
      · rw [if_neg c13] at hf
        obtain ⟨x14, ex14, hf⟩ := lt_some hf
        refine lv_iinc (v := x14) (lv' := [(3, .int x14), (0, .ref (a0 0)), (1, .int p1), (2, .int p2)]) hx hb dX5_leastBid_94 hl (k := 3) rfl (by rw [ex14]; rfl) (by decide) rfl (fun ls hl => ?_)
        refine lv_goto (tgt := 60) hx hb dX5_leastBid_97 (by decide) ?_
        exact ih _ e1 hE (lz_l hf hz) H locs ls hP hD hS (lv_sub hl [1, 2, 3, 0] rfl) K
      · rw [if_pos c13] at hf
        refine lv_iload_n hx hb dX5_leastBid_92 rfl (lv_at hl 3 rfl) ?_
        have he := lz_r hf hz
        have hq := hE _ he.symm
        subst hq
        exact g_xiret hx hb hr hlocks rfl (Nat.le_of_ble_eq_true rfl) (Nat.le_of_ble_eq_true rfl) hP hS dX5_leastBid_93
set_option maxHeartbeats 4000000 in
set_option maxRecDepth 100000 in
theorem c_X5_leastBid (l : Launch) (hl0 : l.stackTraces = false) (G : uG) (a0 : Nat → Nat) (a1 : Nat → Nat) (a2 : Nat → Nat) (a3 : Nat → Nat) (a4 : Nat → Nat) (a5 : Nat → Nat) (a6 : Nat → Nat) (a7 : Nat → Nat → Nat) (a8 : Nat → Nat) (a9 : Nat → Nat) (a10 : Nat → Nat) (a11 : Nat → Nat) (v1 : StV) (v2 : StV) (v3 : RdV) (i1 : Int32) {q : (Int32 × (StV × RdV)) ⊕ (String × (StV × RdV))} (hf : f_X5_leastBid v1 v2 v3 i1 = some q) : mX l yX5_leastBid wsX5_leastBid ({ frames := 7, cells := 1, slots := 6, locals := 113 } : Room) G [.ref (a0 0), .int i1] [maW a0 (a1 0) (a2 0) (a3 0) (a4 0) (a7 0 0) (a8 0) (a9 0) (a9 1), stW G a1 v1, stW G a2 v2, rdW G a3 v3] (om (fun (w9 : StV × RdV) => [maW a0 (a1 0) (a2 0) (a3 0) (a4 0) (a7 0 0) (a8 0) (a9 0) (a9 1), stW G a1 v1, stW G a2 w9.1, rdW G a3 w9.2]) q) (qIx G (om (fun (w9 : StV × RdV) => [maW a0 (a1 0) (a2 0) (a3 0) (a4 0) (a7 0 0) (a8 0) (a9 0) (a9 1), stW G a1 v1, stW G a2 w9.1, rdW G a3 w9.2]) q)) 1 6 := by
  unfold f_X5_leastBid at hf
  refine mX_of (cc := cX5_leastBid) (maxL := 4) (ret := (some .int)) (by decide) rfl (om_gad (fun _ => rfl)) (Nat.le_of_ble_eq_true rfl) ?_
  intro p e s m args below meth c A ls S hK hA hex hTH hP hD hS hl
  obtain ⟨hx, hb, hml, hown, hts, hr, hlocks⟩ := id S
  have hl : lv_has ls 4 [(0, .ref (a0 0)), (1, .int i1)] := hl
  refine lv_aload_n hx hb dX5_leastBid_0 rfl (lv_at hl 0 rfl) ?_
  refine lv_iload_n hx hb dX5_leastBid_1 rfl (lv_at hl 1 rfl) ?_
  obtain ⟨q1, hq1, hf⟩ := bx_some hf
  refine g_callXVv S (cells' := 1) (slots' := 6) (As := [.int i1]) (c_X5_requireMember l hl0 G a0 a1 a2 a3 a4 a5 a6 a7 a8 a9 a10 a11 v1 i1 hq1) (cwV 1 hts gX5_leastBid_X5_requireMember rfl rfl rfl hd_X5_requireMember ⟨Nat.le_of_ble_eq_true rfl, Nat.le_of_ble_eq_true rfl⟩) hTH hK hP hD hS hA (is := [0, 1]) rfl rfl 0 rfl rfl rfl rfl hl.1 rfl (Nat.le_of_ble_eq_true rfl) dX5_leastBid_2 ⟨Nat.le_of_ble_eq_true rfl, Nat.le_of_ble_eq_true rfl⟩ rfl rfl (fun u ho H locs hP hD hS => ?_) (fun E u ho ce q9 H locs hP hD hS hce hcv hcl => by obtain ⟨r9, rfl, rfl, rfl⟩ := om_r ho; have hf := bxe_r hf; subst hf; exact g_xout hex hlocks hce hcv hcl rfl (Nat.le_of_ble_eq_true rfl) (Nat.le_of_ble_eq_true rfl) hP hS)
  obtain ⟨r2, rfl, -, rfl⟩ := om_l ho
  have hf := bxe_l hf
  have hP : gP G [maW a0 (a1 0) (a2 0) (a3 0) (a4 0) (a7 0 0) (a8 0) (a9 0) (a9 1), stW G a1 v1, stW G a2 v2, rdW G a3 v3] H := hP
  have hD : gD A [maW a0 (a1 0) (a2 0) (a3 0) (a4 0) (a7 0 0) (a8 0) (a9 0) (a9 1), stW G a1 v1, stW G a2 v2, rdW G a3 v3] := hD
  refine lv_aload_n hx hb dX5_leastBid_5 rfl (lv_at hl 0 rfl) ?_
  refine g_get (C := RX5) (T := TX5) (N := 8) hx hb hts iwX5_leastBid_X5 hown hK hP 0 0 rfl rfl rfl 1 (Nat.le_of_ble_eq_true rfl) (hts _ kX5_leastBid_0) (fun _ h9 => h9) rfl dX5_leastBid_6 ?_
  refine lv_aload_n hx hb dX5_leastBid_9 rfl (lv_at hl 0 rfl) ?_
  refine g_get (C := RX5) (T := TX5) (N := 8) hx hb hts iwX5_leastBid_X5 hown hK hP 0 0 rfl rfl rfl 0 (Nat.le_of_ble_eq_true rfl) (hts _ kX5_leastBid_1) (fun _ h9 => h9) rfl dX5_leastBid_10 ?_
  obtain ⟨q4, hq4, hf⟩ := bd_some hf
  refine g_callVv S (As := [.ref (a1 0)]) (gs' := [maW a0 (a1 0) (a2 0) (a3 0) (a4 0) (a7 0 0) (a8 0) (a9 0) (a9 1), stW G a1 v1, stW G a2 q4.2, rdW G a3 v3]) (c_X3_copyFrom l G a2 a1 v2 v1 hq4) (cwV 1 hts gX5_leastBid_X3_copyFrom rfl rfl rfl hd_X3_copyFrom ⟨Nat.le_of_ble_eq_true rfl, Nat.le_of_ble_eq_true rfl⟩) hK hP hD hS hA (is := [2, 1]) rfl rfl 2 rfl rfl rfl rfl hl.1 rfl (Nat.le_of_ble_eq_true rfl) dX5_leastBid_13 ⟨Nat.le_of_ble_eq_true rfl, Nat.le_of_ble_eq_true rfl⟩ rfl (fun H locs hP hD hS => ?_)
  refine lv_aload_n hx hb dX5_leastBid_16 rfl (lv_at hl 0 rfl) ?_
  refine g_get (C := RX5) (T := TX5) (N := 8) hx hb hts iwX5_leastBid_X5 hown hK hP 0 0 rfl rfl rfl 2 (Nat.le_of_ble_eq_true rfl) (hts _ kX5_leastBid_2) (fun _ h9 => h9) rfl dX5_leastBid_17 ?_
  refine lv_aload_n hx hb dX5_leastBid_20 rfl (lv_at hl 0 rfl) ?_
  refine g_get (C := RX5) (T := TX5) (N := 8) hx hb hts iwX5_leastBid_X5 hown hK hP 0 0 rfl rfl rfl 1 (Nat.le_of_ble_eq_true rfl) (hts _ kX5_leastBid_0) (fun _ h9 => h9) rfl dX5_leastBid_21 ?_
  obtain ⟨q5, hq5, hf⟩ := bd_some hf
  refine g_callVv S (As := [.ref (a2 0)]) (gs' := [maW a0 (a1 0) (a2 0) (a3 0) (a4 0) (a7 0 0) (a8 0) (a9 0) (a9 1), stW G a1 v1, stW G a2 q5.2.2, rdW G a3 q5.2.1]) (c_X1_payIn l G a3 a2 v3 q4.2 hq5) (cwV 1 hts gX5_leastBid_X1_payIn rfl rfl rfl hd_X1_payIn ⟨Nat.le_of_ble_eq_true rfl, Nat.le_of_ble_eq_true rfl⟩) hK hP hD hS hA (is := [3, 2]) rfl rfl 3 rfl rfl rfl rfl hl.1 rfl (Nat.le_of_ble_eq_true rfl) dX5_leastBid_24 ⟨Nat.le_of_ble_eq_true rfl, Nat.le_of_ble_eq_true rfl⟩ rfl (fun H locs hP hD hS => ?_)
  refine lv_aload_n hx hb dX5_leastBid_27 rfl (lv_at hl 0 rfl) ?_
  refine g_get (C := RX5) (T := TX5) (N := 8) hx hb hts iwX5_leastBid_X5 hown hK hP 0 0 rfl rfl rfl 2 (Nat.le_of_ble_eq_true rfl) (hts _ kX5_leastBid_2) (fun _ h9 => h9) rfl dX5_leastBid_28 ?_
  refine lv_aload_n hx hb dX5_leastBid_31 rfl (lv_at hl 0 rfl) ?_
  refine g_get (C := RX5) (T := TX5) (N := 8) hx hb hts iwX5_leastBid_X5 hown hK hP 0 0 rfl rfl rfl 1 (Nat.le_of_ble_eq_true rfl) (hts _ kX5_leastBid_0) (fun _ h9 => h9) rfl dX5_leastBid_32 ?_
  refine lv_iload_n hx hb dX5_leastBid_35 rfl (lv_at hl 1 rfl) ?_
  obtain ⟨q6, hq6, hf⟩ := bd_some hf
  refine g_callVi S (As := [.ref (a2 0), .int i1]) (gs' := [maW a0 (a1 0) (a2 0) (a3 0) (a4 0) (a7 0 0) (a8 0) (a9 0) (a9 1), stW G a1 v1, stW G a2 q5.2.2, rdW G a3 q5.2.1]) (c_X1_canTake l G a3 a2 q5.2.1 q5.2.2 i1 hq6) (cwV 2 hts gX5_leastBid_X1_canTake rfl rfl rfl hd_X1_canTake ⟨Nat.le_of_ble_eq_true rfl, Nat.le_of_ble_eq_true rfl⟩) hK hP hD hS hA (is := [3, 2]) rfl rfl 3 rfl rfl rfl rfl hl.1 rfl (Nat.le_of_ble_eq_true rfl) dX5_leastBid_36 ⟨Nat.le_of_ble_eq_true rfl, Nat.le_of_ble_eq_true rfl⟩ rfl (fun H locs hP hD hS => ?_)
  refine lv_if_ne (tgt := 45) hx hb dX5_leastBid_39 (by decide) (fun c7 => ?_) (fun c7 => ?_)
  · rw [if_neg c7] at hf
    refine lv_aload_n hx hb dX5_leastBid_45 rfl (lv_at hl 0 rfl) ?_
    refine g_get (C := RX5) (T := TX5) (N := 8) hx hb hts iwX5_leastBid_X5 hown hK hP 0 0 rfl rfl rfl 2 (Nat.le_of_ble_eq_true rfl) (hts _ kX5_leastBid_2) (fun _ h9 => h9) rfl dX5_leastBid_46 ?_
    refine lv_aload_n hx hb dX5_leastBid_49 rfl (lv_at hl 0 rfl) ?_
    refine g_get (C := RX5) (T := TX5) (N := 8) hx hb hts iwX5_leastBid_X5 hown hK hP 0 0 rfl rfl rfl 1 (Nat.le_of_ble_eq_true rfl) (hts _ kX5_leastBid_0) (fun _ h9 => h9) rfl dX5_leastBid_50 ?_
    refine lv_iload_n hx hb dX5_leastBid_53 rfl (lv_at hl 1 rfl) ?_
    obtain ⟨q8, hq8, hf⟩ := bd_some hf
    refine g_callVi S (As := [.ref (a2 0), .int i1]) (gs' := [maW a0 (a1 0) (a2 0) (a3 0) (a4 0) (a7 0 0) (a8 0) (a9 0) (a9 1), stW G a1 v1, stW G a2 q5.2.2, rdW G a3 q5.2.1]) (c_X1_greatestBidBeside l G a3 a2 q5.2.1 q5.2.2 i1 hq8) (cwV 2 hts gX5_leastBid_X1_greatestBidBeside rfl rfl rfl hd_X1_greatestBidBeside ⟨Nat.le_of_ble_eq_true rfl, Nat.le_of_ble_eq_true rfl⟩) hK hP hD hS hA (is := [3, 2]) rfl rfl 3 rfl rfl rfl rfl hl.1 rfl (Nat.le_of_ble_eq_true rfl) dX5_leastBid_54 ⟨Nat.le_of_ble_eq_true rfl, Nat.le_of_ble_eq_true rfl⟩ rfl (fun H locs hP hD hS => ?_)
    refine lv_istore_n (lv' := [(2, .int q8.1), (0, .ref (a0 0)), (1, .int i1)]) hx hb dX5_leastBid_57 rfl hl (by decide) rfl (fun ls hl => ?_)
    refine lv_iload_n hx hb dX5_leastBid_58 rfl (lv_at hl 0 rfl) ?_
    refine lv_istore_n (lv' := [(3, .int q8.1), (2, .int q8.1), (0, .ref (a0 0)), (1, .int i1)]) hx hb dX5_leastBid_59 rfl hl (by decide) rfl (fun ls hl => ?_)
    obtain ⟨e15, he15, hf⟩ := bd_some hf
    refine w_X5_leastBid_60 S hK hA G a0 a1 a2 a3 a4 a5 a6 a7 a8 a9 a10 a11 v1 q5.2.1 i1 q8.1 FU _ e15 (fun r hr9 => by subst hr9; exact (Option.some.inj hf)) he15 _ _ _ hP hD hS (lv_sub hl [2, 3, 1, 0] rfl) (fun s16 hs9 H locs ls hP hD hS hl => ?_)
    subst hs9
    have hf := el_h hf
    refine lv_ldc (v := (-99999:Int32)) hx hb hown (hts _ kX5_leastBid_4) dX5_leastBid_100 ?_
    cases hf
    exact g_xiret hx hb hr hlocks rfl (Nat.le_of_ble_eq_true rfl) (Nat.le_of_ble_eq_true rfl) hP hS dX5_leastBid_102
  · rw [if_pos c7] at hf
    refine lv_ldc (v := (-99999:Int32)) hx hb hown (hts _ kX5_leastBid_4) dX5_leastBid_42 ?_
    cases hf
    exact g_xiret hx hb hr hlocks rfl (Nat.le_of_ble_eq_true rfl) (Nat.le_of_ble_eq_true rfl) hP hS dX5_leastBid_44
theorem kX5_potWithout_0 : Cond.fieldLink RX5 16 "SavingsCircle" "trial" "LSavingsCircle$State;" ∈ wsX5_potWithout := (List.mem_cons_of_mem _ (List.mem_append_left _ (List.mem_append_left _ (List.mem_append_left _ (List.mem_append_left _ (List.mem_of_getElem? (i := 0) rfl))))))
theorem kX5_potWithout_1 : Cond.fieldLink RX5 10 "SavingsCircle" "now" "LSavingsCircle$State;" ∈ wsX5_potWithout := (List.mem_cons_of_mem _ (List.mem_append_left _ (List.mem_append_left _ (List.mem_append_left _ (List.mem_append_left _ (List.mem_of_getElem? (i := 1) rfl))))))
theorem kX5_potWithout_2 : Cond.fieldLink RX5 135 "SavingsCircle$State" "away" "[Z" ∈ wsX5_potWithout := (List.mem_cons_of_mem _ (List.mem_append_left _ (List.mem_append_left _ (List.mem_append_left _ (List.mem_append_left _ (List.mem_of_getElem? (i := 2) rfl))))))
theorem kX5_potWithout_3 : Cond.fieldLink RX5 22 "SavingsCircle" "round" "LSavingsCircle$Round;" ∈ wsX5_potWithout := (List.mem_cons_of_mem _ (List.mem_append_left _ (List.mem_append_left _ (List.mem_append_left _ (List.mem_append_left _ (List.mem_of_getElem? (i := 3) rfl))))))
theorem kX5_potWithout_4 : Cond.fieldLink RX5 233 "SavingsCircle$Round" "pence" "I" ∈ wsX5_potWithout := (List.mem_cons_of_mem _ (List.mem_append_left _ (List.mem_append_left _ (List.mem_append_left _ (List.mem_append_left _ (List.mem_of_getElem? (i := 4) rfl))))))
theorem iwX5_potWithout_X5 : ∀ w ∈ wsX50, w ∈ wsX5_potWithout := fun w h => (List.mem_cons_of_mem _ (List.mem_append_left _ (List.mem_append_left _ (List.mem_append_right _ h))))
theorem iwX5_potWithout_X3 : ∀ w ∈ wsX30, w ∈ wsX5_potWithout := fun w h => (List.mem_cons_of_mem _ (List.mem_append_left _ (List.mem_append_right _ h)))
theorem iwX5_potWithout_X1 : ∀ w ∈ wsX10, w ∈ wsX5_potWithout := fun w h => (List.mem_cons_of_mem _ (List.mem_append_right _ h))
set_option maxHeartbeats 4000000 in
set_option maxRecDepth 100000 in
theorem c_X5_potWithout (l : Launch) (G : uG) (a0 : Nat → Nat) (a1 : Nat → Nat) (a2 : Nat → Nat) (a3 : Nat → Nat) (a4 : Nat → Nat) (a5 : Nat → Nat) (a6 : Nat → Nat) (a7 : Nat → Nat → Nat) (a8 : Nat → Nat) (a9 : Nat → Nat) (a10 : Nat → Nat) (a11 : Nat → Nat) (v1 : StV) (v2 : StV) (v3 : RdV) (i1 : Int32) {q : Int32 × (StV × RdV)} (hf : f_X5_potWithout v1 v2 v3 i1 = some q) : mQ l yX5_potWithout wsX5_potWithout ({ frames := 3, cells := 0, slots := 0, locals := 66 } : Room) G [.ref (a0 0), .int i1] [maW a0 (a1 0) (a2 0) (a3 0) (a4 0) (a7 0 0) (a8 0) (a9 0) (a9 1), stW G a1 v1, stW G a2 v2, rdW G a3 v3] [maW a0 (a1 0) (a2 0) (a3 0) (a4 0) (a7 0 0) (a8 0) (a9 0) (a9 1), stW G a1 v1, stW G a2 q.2.1, rdW G a3 q.2.2] (qI G [maW a0 (a1 0) (a2 0) (a3 0) (a4 0) (a7 0 0) (a8 0) (a9 0) (a9 1), stW G a1 v1, stW G a2 q.2.1, rdW G a3 q.2.2] q.1) := by
  unfold f_X5_potWithout at hf
  refine m_of (cc := cX5_potWithout) (maxL := 2) (ret := (some .int)) (by decide) rfl rfl (Nat.le_of_ble_eq_true rfl) ?_
  intro p e s m args below meth c A ls S hK hA hP hD hS hl
  obtain ⟨hx, hb, hml, hown, hts, hr, hlocks⟩ := id S
  have hl : lv_has ls 2 [(0, .ref (a0 0)), (1, .int i1)] := hl
  refine lv_aload_n hx hb dX5_potWithout_0 rfl (lv_at hl 0 rfl) ?_
  refine g_get (C := RX5) (T := TX5) (N := 8) hx hb hts iwX5_potWithout_X5 hown hK hP 0 0 rfl rfl rfl 1 (Nat.le_of_ble_eq_true rfl) (hts _ kX5_potWithout_0) (fun _ h9 => h9) rfl dX5_potWithout_1 ?_
  refine lv_aload_n hx hb dX5_potWithout_4 rfl (lv_at hl 0 rfl) ?_
  refine g_get (C := RX5) (T := TX5) (N := 8) hx hb hts iwX5_potWithout_X5 hown hK hP 0 0 rfl rfl rfl 0 (Nat.le_of_ble_eq_true rfl) (hts _ kX5_potWithout_1) (fun _ h9 => h9) rfl dX5_potWithout_5 ?_
  obtain ⟨q1, hq1, hf⟩ := bd_some hf
  refine g_callVv S (As := [.ref (a1 0)]) (gs' := [maW a0 (a1 0) (a2 0) (a3 0) (a4 0) (a7 0 0) (a8 0) (a9 0) (a9 1), stW G a1 v1, stW G a2 q1.2, rdW G a3 v3]) (c_X3_copyFrom l G a2 a1 v2 v1 hq1) (cwV 1 hts gX5_potWithout_X3_copyFrom rfl rfl rfl hd_X3_copyFrom ⟨Nat.le_of_ble_eq_true rfl, Nat.le_of_ble_eq_true rfl⟩) hK hP hD hS hA (is := [2, 1]) rfl rfl 2 rfl rfl rfl rfl hl.1 rfl (Nat.le_of_ble_eq_true rfl) dX5_potWithout_8 ⟨Nat.le_of_ble_eq_true rfl, Nat.le_of_ble_eq_true rfl⟩ rfl (fun H locs hP hD hS => ?_)
  refine lv_aload_n hx hb dX5_potWithout_11 rfl (lv_at hl 0 rfl) ?_
  refine g_get (C := RX5) (T := TX5) (N := 8) hx hb hts iwX5_potWithout_X5 hown hK hP 0 0 rfl rfl rfl 1 (Nat.le_of_ble_eq_true rfl) (hts _ kX5_potWithout_0) (fun _ h9 => h9) rfl dX5_potWithout_12 ?_
  refine g_get (C := RX3) (T := TX3) (N := 17) hx hb hts iwX5_potWithout_X3 hown hK hP 2 0 rfl rfl rfl 8 (Nat.le_of_ble_eq_true rfl) (hts _ kX5_potWithout_2) (fun _ h9 => h9) rfl dX5_potWithout_15 ?_
  refine lv_iload_n hx hb dX5_potWithout_18 rfl (lv_at hl 1 rfl) ?_
  refine lv_iconst (v := (1:Int32)) hx hb dX5_potWithout_19 (by decide) ?_
  obtain ⟨h2, hf⟩ := gi_some hf
  obtain ⟨u3, eu3, hf⟩ := lt_some hf
  refine g_zast (gs' := [maW a0 (a1 0) (a2 0) (a3 0) (a4 0) (a7 0 0) (a8 0) (a9 0) (a9 1), stW G a1 v1, stW G a2 u3, rdW G a3 v3]) hx hb hK hP hD hS 2 4 1 rfl rfl rfl h2 dX5_potWithout_20 (by rw [eu3]; rfl) (fun H locs hP hD hS => ?_)
  refine lv_aload_n hx hb dX5_potWithout_21 rfl (lv_at hl 0 rfl) ?_
  refine g_get (C := RX5) (T := TX5) (N := 8) hx hb hts iwX5_potWithout_X5 hown hK hP 0 0 rfl rfl rfl 2 (Nat.le_of_ble_eq_true rfl) (hts _ kX5_potWithout_3) (fun _ h9 => h9) rfl dX5_potWithout_22 ?_
  refine lv_aload_n hx hb dX5_potWithout_25 rfl (lv_at hl 0 rfl) ?_
  refine g_get (C := RX5) (T := TX5) (N := 8) hx hb hts iwX5_potWithout_X5 hown hK hP 0 0 rfl rfl rfl 1 (Nat.le_of_ble_eq_true rfl) (hts _ kX5_potWithout_0) (fun _ h9 => h9) rfl dX5_potWithout_26 ?_
  obtain ⟨q4, hq4, hf⟩ := bd_some hf
  refine g_callVv S (As := [.ref (a2 0)]) (gs' := [maW a0 (a1 0) (a2 0) (a3 0) (a4 0) (a7 0 0) (a8 0) (a9 0) (a9 1), stW G a1 v1, stW G a2 q4.2.2, rdW G a3 q4.2.1]) (c_X1_payIn l G a3 a2 v3 u3 hq4) (cwV 1 hts gX5_potWithout_X1_payIn rfl rfl rfl hd_X1_payIn ⟨Nat.le_of_ble_eq_true rfl, Nat.le_of_ble_eq_true rfl⟩) hK hP hD hS hA (is := [3, 2]) rfl rfl 3 rfl rfl rfl rfl hl.1 rfl (Nat.le_of_ble_eq_true rfl) dX5_potWithout_29 ⟨Nat.le_of_ble_eq_true rfl, Nat.le_of_ble_eq_true rfl⟩ rfl (fun H locs hP hD hS => ?_)
  refine lv_aload_n hx hb dX5_potWithout_32 rfl (lv_at hl 0 rfl) ?_
  refine g_get (C := RX5) (T := TX5) (N := 8) hx hb hts iwX5_potWithout_X5 hown hK hP 0 0 rfl rfl rfl 2 (Nat.le_of_ble_eq_true rfl) (hts _ kX5_potWithout_3) (fun _ h9 => h9) rfl dX5_potWithout_33 ?_
  refine g_get (C := RX1) (T := TX1) (N := 3) hx hb hts iwX5_potWithout_X1 hown hK hP 3 0 rfl rfl rfl 2 (Nat.le_of_ble_eq_true rfl) (hts _ kX5_potWithout_4) (fun _ h9 => h9) rfl dX5_potWithout_36 ?_
  cases hf
  exact g_iret hx hb hr hlocks hP hS dX5_potWithout_39
theorem kX5_pillar_0 : Cond.constant RX5 78 (-99999) ∈ wsX5_pillar := (List.mem_cons_of_mem _ (List.mem_append_left _ (List.mem_append_left _ (List.mem_append_left _ (List.mem_append_left _ (List.mem_of_getElem? (i := 0) rfl))))))
theorem kX5_pillar_1 : Cond.fieldLink RX5 10 "SavingsCircle" "now" "LSavingsCircle$State;" ∈ wsX5_pillar := (List.mem_cons_of_mem _ (List.mem_append_left _ (List.mem_append_left _ (List.mem_append_left _ (List.mem_append_left _ (List.mem_of_getElem? (i := 1) rfl))))))
theorem kX5_pillar_2 : Cond.fieldLink RX5 88 "SavingsCircle$State" "count" "I" ∈ wsX5_pillar := (List.mem_cons_of_mem _ (List.mem_append_left _ (List.mem_append_left _ (List.mem_append_left _ (List.mem_append_left _ (List.mem_of_getElem? (i := 2) rfl))))))
theorem kX5_pillar_3 : Cond.fieldLink RX5 141 "SavingsCircle$State" "inside" "[Z" ∈ wsX5_pillar := (List.mem_cons_of_mem _ (List.mem_append_left _ (List.mem_append_left _ (List.mem_append_left _ (List.mem_append_left _ (List.mem_of_getElem? (i := 3) rfl))))))
theorem iwX5_pillar_X5 : ∀ w ∈ wsX50, w ∈ wsX5_pillar := fun w h => (List.mem_cons_of_mem _ (List.mem_append_left _ (List.mem_append_left _ (List.mem_append_right _ h))))
theorem iwX5_pillar_X3 : ∀ w ∈ wsX30, w ∈ wsX5_pillar := fun w h => (List.mem_cons_of_mem _ (List.mem_append_left _ (List.mem_append_right _ h)))
set_option maxHeartbeats 4000000 in
set_option maxRecDepth 100000 in
theorem w_X5_pillar_7 {p : Program} {l : Launch} {e : Env} {s : State} {m : MethodId} {args : Array Value} {below : List Frame} {meth : Method} {c : Code} {A : Nat → Prop} {Q : State → Prop} (S : Ev p s m args meth c cX5_pillar 5 (some .int) yX5_pillar.cls wsX5_pillar) {G : uG} (hK : kK G s) (hA : ∀ q, s.heap.size ≤ q → A q) (_ : uG) (a0 : Nat → Nat) (a1 : Nat → Nat) (a2 : Nat → Nat) (a3 : Nat → Nat) (a4 : Nat → Nat) (a5 : Nat → Nat) (a6 : Nat → Nat) (a7 : Nat → Nat → Nat) (a8 : Nat → Nat) (a9 : Nat → Nat) (a10 : Nat → Nat) (a11 : Nat → Nat) (v1 : StV) : ∀ (n : Nat) (z : (Int32 × Int32 × Int32 × StV × RdV)) (e1 : (Int32 × Int32 × Int32 × StV × RdV)), lp (b_X5_pillar_7 v1) n z = some e1 → ∀ (H : Heap) (locs : List Loc) (ls : Array Slot), gP G [maW a0 (a1 0) (a2 0) (a3 0) (a4 0) (a7 0 0) (a8 0) (a9 0) (a9 1), stW G a1 v1, stW G a2 z.2.2.2.1, rdW G a3 z.2.2.2.2] H → gD A [maW a0 (a1 0) (a2 0) (a3 0) (a4 0) (a7 0 0) (a8 0) (a9 0) (a9 1), stW G a1 v1, stW G a2 z.2.2.2.1, rdW G a3 z.2.2.2.2] → va_S A s.heap H locs → lv_has ls 5 [(0, .ref (a0 0)), (1, .int z.1), (2, .int z.2.1), (3, .int z.2.2.1)] → (∀ (H : Heap) (locs : List Loc) (ls : Array Slot), gP G [maW a0 (a1 0) (a2 0) (a3 0) (a4 0) (a7 0 0) (a8 0) (a9 0) (a9 1), stW G a1 v1, stW G a2 e1.2.2.2.1, rdW G a3 e1.2.2.2.2] H → gD A [maW a0 (a1 0) (a2 0) (a3 0) (a4 0) (a7 0 0) (a8 0) (a9 0) (a9 1), stW G a1 v1, stW G a2 e1.2.2.2.1, rdW G a3 e1.2.2.2.2] → va_S A s.heap H locs → lv_has ls 5 [(0, .ref (a0 0)), (1, .int e1.1), (2, .int e1.2.1), (3, .int e1.2.2.1)] → W p l e ({ frames := 4, cells := 0, slots := 0, locals := 87 } : Room) s m args below meth c H locs 0 0 Q (F0 m 60 ls [])) → W p l e ({ frames := 4, cells := 0, slots := 0, locals := 87 } : Room) s m args below meth c H locs 0 0 Q (F0 m 7 ls []) := by
  obtain ⟨hx, hb, hml, hown, hts, hr, hlocks⟩ := id S
  intro n
  induction n with
  | zero => intro z e1 h; cases h
  | succ n ih =>
    intro z e1 hlp H locs ls hP hD hS hl K
    obtain ⟨z9, hf, hz⟩ := lp_s hlp
    unfold b_X5_pillar_7 at hf
    refine lv_iload_n hx hb dX5_pillar_7 rfl (lv_at hl 3 rfl) ?_
    refine lv_aload_n hx hb dX5_pillar_8 rfl (lv_at hl 0 rfl) ?_
    refine g_get (C := RX5) (T := TX5) (N := 8) hx hb hts iwX5_pillar_X5 hown hK hP 0 0 rfl rfl rfl 0 (Nat.le_of_ble_eq_true rfl) (hts _ kX5_pillar_1) (fun _ h9 => h9) rfl dX5_pillar_9 ?_
    refine g_get (C := RX3) (T := TX3) (N := 17) hx hb hts iwX5_pillar_X3 hown hK hP 1 0 rfl rfl rfl 0 (Nat.le_of_ble_eq_true rfl) (hts _ kX5_pillar_2) (fun _ h9 => h9) rfl dX5_pillar_12 ?_
    refine lv_icmp_ge (tgt := 60) hx hb dX5_pillar_15 (by decide) (fun c1 => ?_) (fun c1 => ?_)
    · rw [if_pos c1] at hf
      have he := lz_r hf hz
      subst he
      exact K H locs ls hP hD hS (lv_sub hl [0, 1, 2, 3] rfl)
    · rw [if_neg c1] at hf
      refine lv_aload_n hx hb dX5_pillar_18 rfl (lv_at hl 0 rfl) ?_
      refine g_get (C := RX5) (T := TX5) (N := 8) hx hb hts iwX5_pillar_X5 hown hK hP 0 0 rfl rfl rfl 0 (Nat.le_of_ble_eq_true rfl) (hts _ kX5_pillar_1) (fun _ h9 => h9) rfl dX5_pillar_19 ?_
      refine g_get (C := RX3) (T := TX3) (N := 17) hx hb hts iwX5_pillar_X3 hown hK hP 1 0 rfl rfl rfl 10 (Nat.le_of_ble_eq_true rfl) (hts _ kX5_pillar_3) (fun _ h9 => h9) rfl dX5_pillar_22 ?_
      refine lv_iload_n hx hb dX5_pillar_25 rfl (lv_at hl 3 rfl) ?_
      obtain ⟨h2, hf⟩ := gi_some hf
      refine g_zald hx hb hK hP 1 6 1 rfl rfl rfl h2 dX5_pillar_26 ?_
      refine lv_if_eq (tgt := 54) hx hb dX5_pillar_27 (by decide) (fun c3 => ?_) (fun c3 => ?_)
      · rw [if_pos c3] at hf
        obtain ⟨x4, ex4, hf⟩ := lt_some hf
        refine lv_iinc (v := x4) (lv' := [(3, .int x4), (0, .ref (a0 0)), (1, .int z.1), (2, .int z.2.1)]) hx hb dX5_pillar_54 hl (k := 3) rfl (by rw [ex4]; rfl) (by decide) rfl (fun ls hl => ?_)
        refine lv_goto (tgt := 7) hx hb dX5_pillar_57 (by decide) ?_
        exact ih _ e1 (lz_l hf hz) H locs ls hP hD hS (lv_sub hl [1, 2, 3, 0] rfl) K
      · rw [if_neg c3] at hf
        refine lv_aload_n hx hb dX5_pillar_30 rfl (lv_at hl 0 rfl) ?_
        refine lv_iload_n hx hb dX5_pillar_31 rfl (lv_at hl 3 rfl) ?_
        obtain ⟨q5, hq5, hf⟩ := bd_some hf
        refine g_callVi S (As := [.int z.2.2.1]) (gs' := [maW a0 (a1 0) (a2 0) (a3 0) (a4 0) (a7 0 0) (a8 0) (a9 0) (a9 1), stW G a1 v1, stW G a2 q5.2.1, rdW G a3 q5.2.2]) (c_X5_potWithout l G a0 a1 a2 a3 a4 a5 a6 a7 a8 a9 a10 a11 v1 z.2.2.2.1 z.2.2.2.2 z.2.2.1 hq5) (cwV 1 hts gX5_pillar_X5_potWithout rfl rfl rfl hd_X5_potWithout ⟨Nat.le_of_ble_eq_true rfl, Nat.le_of_ble_eq_true rfl⟩) hK hP hD hS hA (is := [0, 1, 2, 3]) rfl rfl 0 rfl rfl rfl rfl hl.1 rfl (Nat.le_of_ble_eq_true rfl) dX5_pillar_32 ⟨Nat.le_of_ble_eq_true rfl, Nat.le_of_ble_eq_true rfl⟩ rfl (fun H locs hP hD hS => ?_)
        refine lv_istore (lv' := [(4, .int q5.1), (0, .ref (a0 0)), (1, .int z.1), (2, .int z.2.1), (3, .int z.2.2.1)]) hx hb dX5_pillar_35 hl (by decide) rfl (fun ls hl => ?_)
        refine lv_iload_n hx hb dX5_pillar_37 rfl (lv_at hl 2 rfl) ?_
        refine lv_ldc (v := (-99999:Int32)) hx hb hown (hts _ kX5_pillar_0) dX5_pillar_38 ?_
        refine lv_icmp_eq (tgt := 49) hx hb dX5_pillar_40 (by decide) (fun c6 => ?_) (fun c6 => ?_)
        · rw [if_pos c6] at hf
          refine lv_iload_n hx hb dX5_pillar_49 rfl (lv_at hl 4 rfl) ?_
          refine lv_istore_n (lv' := [(1, .int z.2.2.1), (4, .int q5.1), (0, .ref (a0 0)), (2, .int z.2.1), (3, .int z.2.2.1)]) hx hb dX5_pillar_50 rfl hl (by decide) rfl (fun ls hl => ?_)
          refine lv_iload hx hb dX5_pillar_51 (lv_at hl 1 rfl) ?_
          refine lv_istore_n (lv' := [(2, .int q5.1), (1, .int z.2.2.1), (4, .int q5.1), (0, .ref (a0 0)), (3, .int z.2.2.1)]) hx hb dX5_pillar_53 rfl hl (by decide) rfl (fun ls hl => ?_)
          obtain ⟨x7, ex7, hf⟩ := lt_some hf
          refine lv_iinc (v := x7) (lv' := [(3, .int x7), (2, .int q5.1), (1, .int z.2.2.1), (4, .int q5.1), (0, .ref (a0 0))]) hx hb dX5_pillar_54 hl (k := 4) rfl (by rw [ex7]; rfl) (by decide) rfl (fun ls hl => ?_)
          refine lv_goto (tgt := 7) hx hb dX5_pillar_57 (by decide) ?_
          exact ih _ e1 (lz_l hf hz) H locs ls hP hD hS (lv_sub hl [4, 2, 1, 0] rfl) K
        · rw [if_neg c6] at hf
          refine lv_iload hx hb dX5_pillar_43 (lv_at hl 0 rfl) ?_
          refine lv_iload_n hx hb dX5_pillar_45 rfl (lv_at hl 3 rfl) ?_
          refine lv_icmp_ge (tgt := 54) hx hb dX5_pillar_46 (by decide) (fun c8 => ?_) (fun c8 => ?_)
          · rw [if_pos c8] at hf
            obtain ⟨x9, ex9, hf⟩ := lt_some hf
            refine lv_iinc (v := x9) (lv' := [(3, .int x9), (4, .int q5.1), (0, .ref (a0 0)), (1, .int z.1), (2, .int z.2.1)]) hx hb dX5_pillar_54 hl (k := 4) rfl (by rw [ex9]; rfl) (by decide) rfl (fun ls hl => ?_)
            refine lv_goto (tgt := 7) hx hb dX5_pillar_57 (by decide) ?_
            exact ih _ e1 (lz_l hf hz) H locs ls hP hD hS (lv_sub hl [2, 3, 4, 0] rfl) K
          · rw [if_neg c8] at hf
            refine lv_iload_n hx hb dX5_pillar_49 rfl (lv_at hl 4 rfl) ?_
            refine lv_istore_n (lv' := [(1, .int z.2.2.1), (4, .int q5.1), (0, .ref (a0 0)), (2, .int z.2.1), (3, .int z.2.2.1)]) hx hb dX5_pillar_50 rfl hl (by decide) rfl (fun ls hl => ?_)
            refine lv_iload hx hb dX5_pillar_51 (lv_at hl 1 rfl) ?_
            refine lv_istore_n (lv' := [(2, .int q5.1), (1, .int z.2.2.1), (4, .int q5.1), (0, .ref (a0 0)), (3, .int z.2.2.1)]) hx hb dX5_pillar_53 rfl hl (by decide) rfl (fun ls hl => ?_)
            obtain ⟨x10, ex10, hf⟩ := lt_some hf
            refine lv_iinc (v := x10) (lv' := [(3, .int x10), (2, .int q5.1), (1, .int z.2.2.1), (4, .int q5.1), (0, .ref (a0 0))]) hx hb dX5_pillar_54 hl (k := 4) rfl (by rw [ex10]; rfl) (by decide) rfl (fun ls hl => ?_)
            refine lv_goto (tgt := 7) hx hb dX5_pillar_57 (by decide) ?_
            exact ih _ e1 (lz_l hf hz) H locs ls hP hD hS (lv_sub hl [4, 2, 1, 0] rfl) K
set_option maxHeartbeats 4000000 in
set_option maxRecDepth 100000 in
theorem c_X5_pillar (l : Launch) (G : uG) (a0 : Nat → Nat) (a1 : Nat → Nat) (a2 : Nat → Nat) (a3 : Nat → Nat) (a4 : Nat → Nat) (a5 : Nat → Nat) (a6 : Nat → Nat) (a7 : Nat → Nat → Nat) (a8 : Nat → Nat) (a9 : Nat → Nat) (a10 : Nat → Nat) (a11 : Nat → Nat) (v1 : StV) (v2 : StV) (v3 : RdV) {q : Int32 × (StV × RdV)} (hf : f_X5_pillar v1 v2 v3 = some q) : mQ l yX5_pillar wsX5_pillar ({ frames := 4, cells := 0, slots := 0, locals := 87 } : Room) G [.ref (a0 0)] [maW a0 (a1 0) (a2 0) (a3 0) (a4 0) (a7 0 0) (a8 0) (a9 0) (a9 1), stW G a1 v1, stW G a2 v2, rdW G a3 v3] [maW a0 (a1 0) (a2 0) (a3 0) (a4 0) (a7 0 0) (a8 0) (a9 0) (a9 1), stW G a1 v1, stW G a2 q.2.1, rdW G a3 q.2.2] (qI G [maW a0 (a1 0) (a2 0) (a3 0) (a4 0) (a7 0 0) (a8 0) (a9 0) (a9 1), stW G a1 v1, stW G a2 q.2.1, rdW G a3 q.2.2] q.1) := by
  unfold f_X5_pillar at hf
  refine m_of (cc := cX5_pillar) (maxL := 5) (ret := (some .int)) (by decide) rfl rfl (Nat.le_of_ble_eq_true rfl) ?_
  intro p e s m args below meth c A ls S hK hA hP hD hS hl
  obtain ⟨hx, hb, hml, hown, hts, hr, hlocks⟩ := id S
  have hl : lv_has ls 5 [(0, .ref (a0 0))] := hl
  refine lv_ldc (v := (-99999:Int32)) hx hb hown (hts _ kX5_pillar_0) dX5_pillar_0 ?_
  refine lv_istore_n (lv' := [(1, .int (-99999:Int32)), (0, .ref (a0 0))]) hx hb dX5_pillar_2 rfl hl (by decide) rfl (fun ls hl => ?_)
  refine lv_iconst (v := (0:Int32)) hx hb dX5_pillar_3 (by decide) ?_
  refine lv_istore_n (lv' := [(2, .int (0:Int32)), (1, .int (-99999:Int32)), (0, .ref (a0 0))]) hx hb dX5_pillar_4 rfl hl (by decide) rfl (fun ls hl => ?_)
  refine lv_iconst (v := (0:Int32)) hx hb dX5_pillar_5 (by decide) ?_
  refine lv_istore_n (lv' := [(3, .int (0:Int32)), (2, .int (0:Int32)), (1, .int (-99999:Int32)), (0, .ref (a0 0))]) hx hb dX5_pillar_6 rfl hl (by decide) rfl (fun ls hl => ?_)
  obtain ⟨e11, he11, hf⟩ := bd_some hf
  refine w_X5_pillar_7 (Q := _) S hK hA G a0 a1 a2 a3 a4 a5 a6 a7 a8 a9 a10 a11 v1 FU _ e11 he11 _ _ _ hP hD hS (lv_sub hl [3, 2, 1, 0] rfl) (fun H locs ls hP hD hS hl => ?_)
  refine lv_iload_n hx hb dX5_pillar_60 rfl (lv_at hl 1 rfl) ?_
  cases hf
  exact g_iret hx hb hr hlocks hP hS dX5_pillar_61
theorem kX5_when_0 : Cond.fieldLink RX5 16 "SavingsCircle" "trial" "LSavingsCircle$State;" ∈ wsX5_when := (List.mem_cons_of_mem _ (List.mem_append_left _ (List.mem_append_left _ (List.mem_append_left _ (List.mem_append_left _ (List.mem_append_left _ (List.mem_of_getElem? (i := 0) rfl)))))))
theorem kX5_when_1 : Cond.fieldLink RX5 10 "SavingsCircle" "now" "LSavingsCircle$State;" ∈ wsX5_when := (List.mem_cons_of_mem _ (List.mem_append_left _ (List.mem_append_left _ (List.mem_append_left _ (List.mem_append_left _ (List.mem_append_left _ (List.mem_of_getElem? (i := 1) rfl)))))))
theorem kX5_when_2 : Cond.fieldLink RX5 95 "SavingsCircle$State" "month" "I" ∈ wsX5_when := (List.mem_cons_of_mem _ (List.mem_append_left _ (List.mem_append_left _ (List.mem_append_left _ (List.mem_append_left _ (List.mem_append_left _ (List.mem_of_getElem? (i := 2) rfl)))))))
theorem kX5_when_3 : Cond.fieldLink RX5 22 "SavingsCircle" "round" "LSavingsCircle$Round;" ∈ wsX5_when := (List.mem_cons_of_mem _ (List.mem_append_left _ (List.mem_append_left _ (List.mem_append_left _ (List.mem_append_left _ (List.mem_append_left _ (List.mem_of_getElem? (i := 3) rfl)))))))
theorem kX5_when_4 : Cond.constant RX5 78 (-99999) ∈ wsX5_when := (List.mem_cons_of_mem _ (List.mem_append_left _ (List.mem_append_left _ (List.mem_append_left _ (List.mem_append_left _ (List.mem_append_left _ (List.mem_of_getElem? (i := 4) rfl)))))))
theorem iwX5_when_X5 : ∀ w ∈ wsX50, w ∈ wsX5_when := fun w h => (List.mem_cons_of_mem _ (List.mem_append_left _ (List.mem_append_left _ (List.mem_append_left _ (List.mem_append_right _ h)))))
theorem iwX5_when_X3 : ∀ w ∈ wsX30, w ∈ wsX5_when := fun w h => (List.mem_cons_of_mem _ (List.mem_append_left _ (List.mem_append_left _ (List.mem_append_right _ h))))
set_option maxHeartbeats 4000000 in
set_option maxRecDepth 100000 in
theorem w_X5_when_18 {p : Program} {l : Launch} {e : Env} {s : State} {m : MethodId} {args : Array Value} {below : List Frame} {meth : Method} {c : Code} {A : Nat → Prop} {q : (Int32 × (StV × RdV)) ⊕ (String × (StV × RdV))} (S : Ev p s m args meth c cX5_when 4 (some .int) yX5_when.cls wsX5_when) {G : uG} (hK : kK G s) (hA : ∀ q, s.heap.size ≤ q → A q) (_ : uG) (a0 : Nat → Nat) (a1 : Nat → Nat) (a2 : Nat → Nat) (a3 : Nat → Nat) (a4 : Nat → Nat) (a5 : Nat → Nat) (a6 : Nat → Nat) (a7 : Nat → Nat → Nat) (a8 : Nat → Nat) (a9 : Nat → Nat) (a10 : Nat → Nat) (a11 : Nat → Nat) (v1 : StV) (p1 : Int32) : ∀ (n : Nat) (z : (Int32 × StV × RdV)) (e1 : ((Int32 × StV × RdV) ⊕ (Int32 × (StV × RdV)))) (_ : ∀ r, e1 = Sum.inr r → Sum.inl r = q), lp (b_X5_when_18 v1 p1) n z = some e1 → ∀ (H : Heap) (locs : List Loc) (ls : Array Slot), gP G [maW a0 (a1 0) (a2 0) (a3 0) (a4 0) (a7 0 0) (a8 0) (a9 0) (a9 1), stW G a1 v1, stW G a2 z.2.1, rdW G a3 z.2.2] H → gD A [maW a0 (a1 0) (a2 0) (a3 0) (a4 0) (a7 0 0) (a8 0) (a9 0) (a9 1), stW G a1 v1, stW G a2 z.2.1, rdW G a3 z.2.2] → va_S A s.heap H locs → lv_has ls 4 [(0, .ref (a0 0)), (1, .int p1), (2, .int z.1)] → (∀ (s1 : (Int32 × StV × RdV)), e1 = .inl s1 → ∀ (H : Heap) (locs : List Loc) (ls : Array Slot), gP G [maW a0 (a1 0) (a2 0) (a3 0) (a4 0) (a7 0 0) (a8 0) (a9 0) (a9 1), stW G a1 v1, stW G a2 s1.2.1, rdW G a3 s1.2.2] H → gD A [maW a0 (a1 0) (a2 0) (a3 0) (a4 0) (a7 0 0) (a8 0) (a9 0) (a9 1), stW G a1 v1, stW G a2 s1.2.1, rdW G a3 s1.2.2] → va_S A s.heap H locs → lv_has ls 4 [(0, .ref (a0 0)), (1, .int p1), (2, .int s1.1)] → W p l e ({ frames := 7, cells := 1, slots := 6, locals := 113 } : Room) s m args below meth c H locs 1 6 (vx_MQ below (qIx G (om (fun (w9 : StV × RdV) => [maW a0 (a1 0) (a2 0) (a3 0) (a4 0) (a7 0 0) (a8 0) (a9 0) (a9 1), stW G a1 v1, stW G a2 w9.1, rdW G a3 w9.2]) q) A) (qXx G (om (fun (w9 : StV × RdV) => [maW a0 (a1 0) (a2 0) (a3 0) (a4 0) (a7 0 0) (a8 0) (a9 0) (a9 1), stW G a1 v1, stW G a2 w9.1, rdW G a3 w9.2]) q) A) args s 1 6 A) (F0 m 65 ls [])) → W p l e ({ frames := 7, cells := 1, slots := 6, locals := 113 } : Room) s m args below meth c H locs 1 6 (vx_MQ below (qIx G (om (fun (w9 : StV × RdV) => [maW a0 (a1 0) (a2 0) (a3 0) (a4 0) (a7 0 0) (a8 0) (a9 0) (a9 1), stW G a1 v1, stW G a2 w9.1, rdW G a3 w9.2]) q) A) (qXx G (om (fun (w9 : StV × RdV) => [maW a0 (a1 0) (a2 0) (a3 0) (a4 0) (a7 0 0) (a8 0) (a9 0) (a9 1), stW G a1 v1, stW G a2 w9.1, rdW G a3 w9.2]) q) A) args s 1 6 A) (F0 m 18 ls []) := by
  obtain ⟨hx, hb, hml, hown, hts, hr, hlocks⟩ := id S
  intro n
  induction n with
  | zero => intro z e1 hE h; cases h
  | succ n ih =>
    intro z e1 hE hlp H locs ls hP hD hS hl K
    obtain ⟨z9, hf, hz⟩ := lp_s hlp
    unfold b_X5_when_18 at hf
    refine lv_iload_n hx hb dX5_when_18 rfl (lv_at hl 2 rfl) ?_
    refine lv_bipush (v := (20:Int32)) hx hb dX5_when_19 (by decide) ?_
    refine lv_icmp_ge (tgt := 65) hx hb dX5_when_21 (by decide) (fun c5 => ?_) (fun c5 => ?_)
    · rw [if_pos c5] at hf
      have he := lz_r hf hz
      exact K _ he.symm H locs ls hP hD hS (lv_sub hl [0, 1, 2] rfl)
    · rw [if_neg c5] at hf
      refine lv_aload_n hx hb dX5_when_24 rfl (lv_at hl 0 rfl) ?_
      refine g_get (C := RX5) (T := TX5) (N := 8) hx hb hts iwX5_when_X5 hown hK hP 0 0 rfl rfl rfl 1 (Nat.le_of_ble_eq_true rfl) (hts _ kX5_when_0) (fun _ h9 => h9) rfl dX5_when_25 ?_
      obtain ⟨q6, hq6, hf⟩ := bd_some hf
      refine g_callVi S (As := []) (gs' := [maW a0 (a1 0) (a2 0) (a3 0) (a4 0) (a7 0 0) (a8 0) (a9 0) (a9 1), stW G a1 v1, stW G a2 z.2.1, rdW G a3 z.2.2]) (c_X3_mayPass l G a2 z.2.1 hq6) (cwV 0 hts gX5_when_X3_mayPass rfl rfl rfl hd_X3_mayPass ⟨Nat.le_of_ble_eq_true rfl, Nat.le_of_ble_eq_true rfl⟩) hK hP hD hS hA (is := [2]) rfl rfl 2 rfl rfl rfl rfl hl.1 rfl (Nat.le_of_ble_eq_true rfl) dX5_when_28 ⟨Nat.le_of_ble_eq_true rfl, Nat.le_of_ble_eq_true rfl⟩ rfl (fun H locs hP hD hS => ?_)
      refine lv_if_eq (tgt := 65) hx hb dX5_when_31 (by decide) (fun c7 => ?_) (fun c7 => ?_)
      · rw [if_pos c7] at hf
        have he := lz_r hf hz
        exact K _ he.symm H locs ls hP hD hS (lv_sub hl [0, 1, 2] rfl)
      · rw [if_neg c7] at hf
        refine lv_aload_n hx hb dX5_when_34 rfl (lv_at hl 0 rfl) ?_
        refine g_get (C := RX5) (T := TX5) (N := 8) hx hb hts iwX5_when_X5 hown hK hP 0 0 rfl rfl rfl 1 (Nat.le_of_ble_eq_true rfl) (hts _ kX5_when_0) (fun _ h9 => h9) rfl dX5_when_35 ?_
        refine g_get (C := RX3) (T := TX3) (N := 17) hx hb hts iwX5_when_X3 hown hK hP 2 0 rfl rfl rfl 1 (Nat.le_of_ble_eq_true rfl) (hts _ kX5_when_2) (fun _ h9 => h9) rfl dX5_when_38 ?_
        obtain ⟨x8, ex8, hf⟩ := lt_some hf
        refine lv_nmi ex8 ?_
        refine lv_istore_n (lv' := [(3, .int x8), (0, .ref (a0 0)), (1, .int p1), (2, .int z.1)]) hx hb dX5_when_41 rfl hl (by decide) rfl (fun ls hl => ?_)
        refine lv_aload_n hx hb dX5_when_42 rfl (lv_at hl 1 rfl) ?_
        refine g_get (C := RX5) (T := TX5) (N := 8) hx hb hts iwX5_when_X5 hown hK hP 0 0 rfl rfl rfl 2 (Nat.le_of_ble_eq_true rfl) (hts _ kX5_when_3) (fun _ h9 => h9) rfl dX5_when_43 ?_
        refine lv_aload_n hx hb dX5_when_46 rfl (lv_at hl 1 rfl) ?_
        refine g_get (C := RX5) (T := TX5) (N := 8) hx hb hts iwX5_when_X5 hown hK hP 0 0 rfl rfl rfl 1 (Nat.le_of_ble_eq_true rfl) (hts _ kX5_when_0) (fun _ h9 => h9) rfl dX5_when_47 ?_
        obtain ⟨q9, hq9, hf⟩ := bd_some hf
        refine g_callVi S (As := [.ref (a2 0)]) (gs' := [maW a0 (a1 0) (a2 0) (a3 0) (a4 0) (a7 0 0) (a8 0) (a9 0) (a9 1), stW G a1 v1, stW G a2 q9.2.2, rdW G a3 q9.2.1]) (c_X1_pass l G a3 a2 z.2.2 z.2.1 hq9) (cwV 1 hts gX5_when_X1_pass rfl rfl rfl hd_X1_pass ⟨Nat.le_of_ble_eq_true rfl, Nat.le_of_ble_eq_true rfl⟩) hK hP hD hS hA (is := [3, 2]) rfl rfl 3 rfl rfl rfl rfl hl.1 rfl (Nat.le_of_ble_eq_true rfl) dX5_when_50 ⟨Nat.le_of_ble_eq_true rfl, Nat.le_of_ble_eq_true rfl⟩ rfl (fun H locs hP hD hS => ?_)
        refine lv_iload_n hx hb dX5_when_53 rfl (lv_at hl 2 rfl) ?_
        refine lv_icmp_ne (tgt := 59) hx hb dX5_when_54 (by decide) (fun c10 => ?_) (fun c10 => ?_)
        · rw [if_neg c10] at hf
          obtain ⟨x11, ex11, hf⟩ := lt_some hf
          refine lv_iinc (v := x11) (lv' := [(2, .int x11), (3, .int x8), (0, .ref (a0 0)), (1, .int p1)]) hx hb dX5_when_59 hl (k := 3) rfl (by rw [ex11]; rfl) (by decide) rfl (fun ls hl => ?_)
          refine lv_goto (tgt := 18) hx hb dX5_when_62 (by decide) ?_
          exact ih _ e1 hE (lz_l hf hz) H locs ls hP hD hS (lv_sub hl [2, 3, 0] rfl) K
        · rw [if_pos c10] at hf
          refine lv_iload_n hx hb dX5_when_57 rfl (lv_at hl 0 rfl) ?_
          have he := lz_r hf hz
          have hq := hE _ he.symm
          subst hq
          exact g_xiret hx hb hr hlocks rfl (Nat.le_of_ble_eq_true rfl) (Nat.le_of_ble_eq_true rfl) hP hS dX5_when_58
set_option maxHeartbeats 4000000 in
set_option maxRecDepth 100000 in
theorem c_X5_when (l : Launch) (hl0 : l.stackTraces = false) (G : uG) (a0 : Nat → Nat) (a1 : Nat → Nat) (a2 : Nat → Nat) (a3 : Nat → Nat) (a4 : Nat → Nat) (a5 : Nat → Nat) (a6 : Nat → Nat) (a7 : Nat → Nat → Nat) (a8 : Nat → Nat) (a9 : Nat → Nat) (a10 : Nat → Nat) (a11 : Nat → Nat) (v1 : StV) (v2 : StV) (v3 : RdV) (i1 : Int32) {q : (Int32 × (StV × RdV)) ⊕ (String × (StV × RdV))} (hf : f_X5_when v1 v2 v3 i1 = some q) : mX l yX5_when wsX5_when ({ frames := 7, cells := 1, slots := 6, locals := 113 } : Room) G [.ref (a0 0), .int i1] [maW a0 (a1 0) (a2 0) (a3 0) (a4 0) (a7 0 0) (a8 0) (a9 0) (a9 1), stW G a1 v1, stW G a2 v2, rdW G a3 v3] (om (fun (w9 : StV × RdV) => [maW a0 (a1 0) (a2 0) (a3 0) (a4 0) (a7 0 0) (a8 0) (a9 0) (a9 1), stW G a1 v1, stW G a2 w9.1, rdW G a3 w9.2]) q) (qIx G (om (fun (w9 : StV × RdV) => [maW a0 (a1 0) (a2 0) (a3 0) (a4 0) (a7 0 0) (a8 0) (a9 0) (a9 1), stW G a1 v1, stW G a2 w9.1, rdW G a3 w9.2]) q)) 1 6 := by
  unfold f_X5_when at hf
  refine mX_of (cc := cX5_when) (maxL := 4) (ret := (some .int)) (by decide) rfl (om_gad (fun _ => rfl)) (Nat.le_of_ble_eq_true rfl) ?_
  intro p e s m args below meth c A ls S hK hA hex hTH hP hD hS hl
  obtain ⟨hx, hb, hml, hown, hts, hr, hlocks⟩ := id S
  have hl : lv_has ls 4 [(0, .ref (a0 0)), (1, .int i1)] := hl
  refine lv_aload_n hx hb dX5_when_0 rfl (lv_at hl 0 rfl) ?_
  refine lv_iload_n hx hb dX5_when_1 rfl (lv_at hl 1 rfl) ?_
  obtain ⟨q1, hq1, hf⟩ := bx_some hf
  refine g_callXVv S (cells' := 1) (slots' := 6) (As := [.int i1]) (c_X5_requireMember l hl0 G a0 a1 a2 a3 a4 a5 a6 a7 a8 a9 a10 a11 v1 i1 hq1) (cwV 1 hts gX5_when_X5_requireMember rfl rfl rfl hd_X5_requireMember ⟨Nat.le_of_ble_eq_true rfl, Nat.le_of_ble_eq_true rfl⟩) hTH hK hP hD hS hA (is := [0, 1]) rfl rfl 0 rfl rfl rfl rfl hl.1 rfl (Nat.le_of_ble_eq_true rfl) dX5_when_2 ⟨Nat.le_of_ble_eq_true rfl, Nat.le_of_ble_eq_true rfl⟩ rfl rfl (fun u ho H locs hP hD hS => ?_) (fun E u ho ce q9 H locs hP hD hS hce hcv hcl => by obtain ⟨r9, rfl, rfl, rfl⟩ := om_r ho; have hf := bxe_r hf; subst hf; exact g_xout hex hlocks hce hcv hcl rfl (Nat.le_of_ble_eq_true rfl) (Nat.le_of_ble_eq_true rfl) hP hS)
  obtain ⟨r2, rfl, -, rfl⟩ := om_l ho
  have hf := bxe_l hf
  have hP : gP G [maW a0 (a1 0) (a2 0) (a3 0) (a4 0) (a7 0 0) (a8 0) (a9 0) (a9 1), stW G a1 v1, stW G a2 v2, rdW G a3 v3] H := hP
  have hD : gD A [maW a0 (a1 0) (a2 0) (a3 0) (a4 0) (a7 0 0) (a8 0) (a9 0) (a9 1), stW G a1 v1, stW G a2 v2, rdW G a3 v3] := hD
  refine lv_aload_n hx hb dX5_when_5 rfl (lv_at hl 0 rfl) ?_
  refine g_get (C := RX5) (T := TX5) (N := 8) hx hb hts iwX5_when_X5 hown hK hP 0 0 rfl rfl rfl 1 (Nat.le_of_ble_eq_true rfl) (hts _ kX5_when_0) (fun _ h9 => h9) rfl dX5_when_6 ?_
  refine lv_aload_n hx hb dX5_when_9 rfl (lv_at hl 0 rfl) ?_
  refine g_get (C := RX5) (T := TX5) (N := 8) hx hb hts iwX5_when_X5 hown hK hP 0 0 rfl rfl rfl 0 (Nat.le_of_ble_eq_true rfl) (hts _ kX5_when_1) (fun _ h9 => h9) rfl dX5_when_10 ?_
  obtain ⟨q4, hq4, hf⟩ := bd_some hf
  refine g_callVv S (As := [.ref (a1 0)]) (gs' := [maW a0 (a1 0) (a2 0) (a3 0) (a4 0) (a7 0 0) (a8 0) (a9 0) (a9 1), stW G a1 v1, stW G a2 q4.2, rdW G a3 v3]) (c_X3_copyFrom l G a2 a1 v2 v1 hq4) (cwV 1 hts gX5_when_X3_copyFrom rfl rfl rfl hd_X3_copyFrom ⟨Nat.le_of_ble_eq_true rfl, Nat.le_of_ble_eq_true rfl⟩) hK hP hD hS hA (is := [2, 1]) rfl rfl 2 rfl rfl rfl rfl hl.1 rfl (Nat.le_of_ble_eq_true rfl) dX5_when_13 ⟨Nat.le_of_ble_eq_true rfl, Nat.le_of_ble_eq_true rfl⟩ rfl (fun H locs hP hD hS => ?_)
  refine lv_iconst (v := (0:Int32)) hx hb dX5_when_16 (by decide) ?_
  refine lv_istore_n (lv' := [(2, .int (0:Int32)), (0, .ref (a0 0)), (1, .int i1)]) hx hb dX5_when_17 rfl hl (by decide) rfl (fun ls hl => ?_)
  obtain ⟨e12, he12, hf⟩ := bd_some hf
  refine w_X5_when_18 S hK hA G a0 a1 a2 a3 a4 a5 a6 a7 a8 a9 a10 a11 v1 i1 FU _ e12 (fun r hr9 => by subst hr9; exact (Option.some.inj hf)) he12 _ _ _ hP hD hS (lv_sub hl [1, 2, 0] rfl) (fun s13 hs9 H locs ls hP hD hS hl => ?_)
  subst hs9
  have hf := el_h hf
  refine lv_ldc (v := (-99999:Int32)) hx hb hown (hts _ kX5_when_4) dX5_when_65 ?_
  cases hf
  exact g_xiret hx hb hr hlocks rfl (Nat.le_of_ble_eq_true rfl) (Nat.le_of_ble_eq_true rfl) hP hS dX5_when_67
theorem kX5_inTheEnd_0 : Cond.fieldLink RX5 16 "SavingsCircle" "trial" "LSavingsCircle$State;" ∈ wsX5_inTheEnd := (List.mem_cons_of_mem _ (List.mem_append_left _ (List.mem_append_left _ (List.mem_append_left _ (List.mem_append_left _ (List.mem_append_left _ (List.mem_of_getElem? (i := 0) rfl)))))))
theorem kX5_inTheEnd_1 : Cond.fieldLink RX5 10 "SavingsCircle" "now" "LSavingsCircle$State;" ∈ wsX5_inTheEnd := (List.mem_cons_of_mem _ (List.mem_append_left _ (List.mem_append_left _ (List.mem_append_left _ (List.mem_append_left _ (List.mem_append_left _ (List.mem_of_getElem? (i := 1) rfl)))))))
theorem kX5_inTheEnd_2 : Cond.fieldLink RX5 22 "SavingsCircle" "round" "LSavingsCircle$Round;" ∈ wsX5_inTheEnd := (List.mem_cons_of_mem _ (List.mem_append_left _ (List.mem_append_left _ (List.mem_append_left _ (List.mem_append_left _ (List.mem_append_left _ (List.mem_of_getElem? (i := 2) rfl)))))))
theorem kX5_inTheEnd_3 : Cond.fieldLink RX5 125 "SavingsCircle$State" "purse" "[I" ∈ wsX5_inTheEnd := (List.mem_cons_of_mem _ (List.mem_append_left _ (List.mem_append_left _ (List.mem_append_left _ (List.mem_append_left _ (List.mem_append_left _ (List.mem_of_getElem? (i := 3) rfl)))))))
theorem iwX5_inTheEnd_X5 : ∀ w ∈ wsX50, w ∈ wsX5_inTheEnd := fun w h => (List.mem_cons_of_mem _ (List.mem_append_left _ (List.mem_append_left _ (List.mem_append_left _ (List.mem_append_right _ h)))))
theorem iwX5_inTheEnd_X3 : ∀ w ∈ wsX30, w ∈ wsX5_inTheEnd := fun w h => (List.mem_cons_of_mem _ (List.mem_append_left _ (List.mem_append_left _ (List.mem_append_right _ h))))
set_option maxHeartbeats 4000000 in
set_option maxRecDepth 100000 in
theorem w_X5_inTheEnd_18 {p : Program} {l : Launch} {e : Env} {s : State} {m : MethodId} {args : Array Value} {below : List Frame} {meth : Method} {c : Code} {A : Nat → Prop} {Q : State → Prop} (S : Ev p s m args meth c cX5_inTheEnd 3 (some .int) yX5_inTheEnd.cls wsX5_inTheEnd) {G : uG} (hK : kK G s) (hA : ∀ q, s.heap.size ≤ q → A q) (_ : uG) (a0 : Nat → Nat) (a1 : Nat → Nat) (a2 : Nat → Nat) (a3 : Nat → Nat) (a4 : Nat → Nat) (a5 : Nat → Nat) (a6 : Nat → Nat) (a7 : Nat → Nat → Nat) (a8 : Nat → Nat) (a9 : Nat → Nat) (a10 : Nat → Nat) (a11 : Nat → Nat) (v1 : StV) (p1 : Int32) : ∀ (n : Nat) (z : (Int32 × StV × RdV)) (e1 : (Int32 × StV × RdV)), lp (b_X5_inTheEnd_18 v1 p1) n z = some e1 → ∀ (H : Heap) (locs : List Loc) (ls : Array Slot), gP G [maW a0 (a1 0) (a2 0) (a3 0) (a4 0) (a7 0 0) (a8 0) (a9 0) (a9 1), stW G a1 v1, stW G a2 z.2.1, rdW G a3 z.2.2] H → gD A [maW a0 (a1 0) (a2 0) (a3 0) (a4 0) (a7 0 0) (a8 0) (a9 0) (a9 1), stW G a1 v1, stW G a2 z.2.1, rdW G a3 z.2.2] → va_S A s.heap H locs → lv_has ls 3 [(0, .ref (a0 0)), (1, .int p1), (2, .int z.1)] → (∀ (H : Heap) (locs : List Loc) (ls : Array Slot), gP G [maW a0 (a1 0) (a2 0) (a3 0) (a4 0) (a7 0 0) (a8 0) (a9 0) (a9 1), stW G a1 v1, stW G a2 e1.2.1, rdW G a3 e1.2.2] H → gD A [maW a0 (a1 0) (a2 0) (a3 0) (a4 0) (a7 0 0) (a8 0) (a9 0) (a9 1), stW G a1 v1, stW G a2 e1.2.1, rdW G a3 e1.2.2] → va_S A s.heap H locs → lv_has ls 3 [(0, .ref (a0 0)), (1, .int p1), (2, .int e1.1)] → W p l e ({ frames := 7, cells := 1, slots := 6, locals := 113 } : Room) s m args below meth c H locs 1 6 Q (F0 m 62 ls [])) → W p l e ({ frames := 7, cells := 1, slots := 6, locals := 113 } : Room) s m args below meth c H locs 1 6 Q (F0 m 18 ls []) := by
  obtain ⟨hx, hb, hml, hown, hts, hr, hlocks⟩ := id S
  intro n
  induction n with
  | zero => intro z e1 h; cases h
  | succ n ih =>
    intro z e1 hlp H locs ls hP hD hS hl K
    obtain ⟨z9, hf, hz⟩ := lp_s hlp
    unfold b_X5_inTheEnd_18 at hf
    refine lv_iload_n hx hb dX5_inTheEnd_18 rfl (lv_at hl 2 rfl) ?_
    refine lv_bipush (v := (20:Int32)) hx hb dX5_inTheEnd_19 (by decide) ?_
    refine lv_icmp_ge (tgt := 62) hx hb dX5_inTheEnd_21 (by decide) (fun c5 => ?_) (fun c5 => ?_)
    · rw [if_pos c5] at hf
      have he := lz_r hf hz
      subst he
      exact K H locs ls hP hD hS (lv_sub hl [0, 1, 2] rfl)
    · rw [if_neg c5] at hf
      refine lv_aload_n hx hb dX5_inTheEnd_24 rfl (lv_at hl 0 rfl) ?_
      refine g_get (C := RX5) (T := TX5) (N := 8) hx hb hts iwX5_inTheEnd_X5 hown hK hP 0 0 rfl rfl rfl 1 (Nat.le_of_ble_eq_true rfl) (hts _ kX5_inTheEnd_0) (fun _ h9 => h9) rfl dX5_inTheEnd_25 ?_
      obtain ⟨q6, hq6, hf⟩ := bd_some hf
      refine g_callVi S (As := []) (gs' := [maW a0 (a1 0) (a2 0) (a3 0) (a4 0) (a7 0 0) (a8 0) (a9 0) (a9 1), stW G a1 v1, stW G a2 z.2.1, rdW G a3 z.2.2]) (c_X3_countWaiting l G a2 z.2.1 hq6) (cwV 0 hts gX5_inTheEnd_X3_countWaiting rfl rfl rfl hd_X3_countWaiting ⟨Nat.le_of_ble_eq_true rfl, Nat.le_of_ble_eq_true rfl⟩) hK hP hD hS hA (is := [2]) rfl rfl 2 rfl rfl rfl rfl hl.1 rfl (Nat.le_of_ble_eq_true rfl) dX5_inTheEnd_28 ⟨Nat.le_of_ble_eq_true rfl, Nat.le_of_ble_eq_true rfl⟩ rfl (fun H locs hP hD hS => ?_)
      refine lv_if_le (tgt := 62) hx hb dX5_inTheEnd_31 (by decide) (fun c7 => ?_) (fun c7 => ?_)
      · rw [if_pos c7] at hf
        have he := lz_r hf hz
        subst he
        exact K H locs ls hP hD hS (lv_sub hl [0, 1, 2] rfl)
      · rw [if_neg c7] at hf
        refine lv_aload_n hx hb dX5_inTheEnd_34 rfl (lv_at hl 0 rfl) ?_
        refine g_get (C := RX5) (T := TX5) (N := 8) hx hb hts iwX5_inTheEnd_X5 hown hK hP 0 0 rfl rfl rfl 1 (Nat.le_of_ble_eq_true rfl) (hts _ kX5_inTheEnd_0) (fun _ h9 => h9) rfl dX5_inTheEnd_35 ?_
        obtain ⟨q8, hq8, hf⟩ := bd_some hf
        refine g_callVi S (As := []) (gs' := [maW a0 (a1 0) (a2 0) (a3 0) (a4 0) (a7 0 0) (a8 0) (a9 0) (a9 1), stW G a1 v1, stW G a2 z.2.1, rdW G a3 z.2.2]) (c_X3_mayPass l G a2 z.2.1 hq8) (cwV 0 hts gX5_inTheEnd_X3_mayPass rfl rfl rfl hd_X3_mayPass ⟨Nat.le_of_ble_eq_true rfl, Nat.le_of_ble_eq_true rfl⟩) hK hP hD hS hA (is := [2]) rfl rfl 2 rfl rfl rfl rfl hl.1 rfl (Nat.le_of_ble_eq_true rfl) dX5_inTheEnd_38 ⟨Nat.le_of_ble_eq_true rfl, Nat.le_of_ble_eq_true rfl⟩ rfl (fun H locs hP hD hS => ?_)
        refine lv_if_eq (tgt := 62) hx hb dX5_inTheEnd_41 (by decide) (fun c9 => ?_) (fun c9 => ?_)
        · rw [if_pos c9] at hf
          have he := lz_r hf hz
          subst he
          exact K H locs ls hP hD hS (lv_sub hl [0, 1, 2] rfl)
        · rw [if_neg c9] at hf
          refine lv_aload_n hx hb dX5_inTheEnd_44 rfl (lv_at hl 0 rfl) ?_
          refine g_get (C := RX5) (T := TX5) (N := 8) hx hb hts iwX5_inTheEnd_X5 hown hK hP 0 0 rfl rfl rfl 2 (Nat.le_of_ble_eq_true rfl) (hts _ kX5_inTheEnd_2) (fun _ h9 => h9) rfl dX5_inTheEnd_45 ?_
          refine lv_aload_n hx hb dX5_inTheEnd_48 rfl (lv_at hl 0 rfl) ?_
          refine g_get (C := RX5) (T := TX5) (N := 8) hx hb hts iwX5_inTheEnd_X5 hown hK hP 0 0 rfl rfl rfl 1 (Nat.le_of_ble_eq_true rfl) (hts _ kX5_inTheEnd_0) (fun _ h9 => h9) rfl dX5_inTheEnd_49 ?_
          obtain ⟨q10, hq10, hf⟩ := bd_some hf
          refine g_callVi S (As := [.ref (a2 0)]) (gs' := [maW a0 (a1 0) (a2 0) (a3 0) (a4 0) (a7 0 0) (a8 0) (a9 0) (a9 1), stW G a1 v1, stW G a2 q10.2.2, rdW G a3 q10.2.1]) (c_X1_pass l G a3 a2 z.2.2 z.2.1 hq10) (cwV 1 hts gX5_inTheEnd_X1_pass rfl rfl rfl hd_X1_pass ⟨Nat.le_of_ble_eq_true rfl, Nat.le_of_ble_eq_true rfl⟩) hK hP hD hS hA (is := [3, 2]) rfl rfl 3 rfl rfl rfl rfl hl.1 rfl (Nat.le_of_ble_eq_true rfl) dX5_inTheEnd_52 ⟨Nat.le_of_ble_eq_true rfl, Nat.le_of_ble_eq_true rfl⟩ rfl (fun H locs hP hD hS => ?_)
          refine lv_pop hx hb dX5_inTheEnd_55 rfl ?_
          obtain ⟨x11, ex11, hf⟩ := lt_some hf
          refine lv_iinc (v := x11) (lv' := [(2, .int x11), (0, .ref (a0 0)), (1, .int p1)]) hx hb dX5_inTheEnd_56 hl (k := 2) rfl (by rw [ex11]; rfl) (by decide) rfl (fun ls hl => ?_)
          refine lv_goto (tgt := 18) hx hb dX5_inTheEnd_59 (by decide) ?_
          exact ih _ e1 (lz_l hf hz) H locs ls hP hD hS (lv_sub hl [1, 2, 0] rfl) K
set_option maxHeartbeats 4000000 in
set_option maxRecDepth 100000 in
theorem c_X5_inTheEnd (l : Launch) (hl0 : l.stackTraces = false) (G : uG) (a0 : Nat → Nat) (a1 : Nat → Nat) (a2 : Nat → Nat) (a3 : Nat → Nat) (a4 : Nat → Nat) (a5 : Nat → Nat) (a6 : Nat → Nat) (a7 : Nat → Nat → Nat) (a8 : Nat → Nat) (a9 : Nat → Nat) (a10 : Nat → Nat) (a11 : Nat → Nat) (v1 : StV) (v2 : StV) (v3 : RdV) (i1 : Int32) {q : (Int32 × (StV × RdV)) ⊕ (String × (StV × RdV))} (hf : f_X5_inTheEnd v1 v2 v3 i1 = some q) : mX l yX5_inTheEnd wsX5_inTheEnd ({ frames := 7, cells := 1, slots := 6, locals := 113 } : Room) G [.ref (a0 0), .int i1] [maW a0 (a1 0) (a2 0) (a3 0) (a4 0) (a7 0 0) (a8 0) (a9 0) (a9 1), stW G a1 v1, stW G a2 v2, rdW G a3 v3] (om (fun (w9 : StV × RdV) => [maW a0 (a1 0) (a2 0) (a3 0) (a4 0) (a7 0 0) (a8 0) (a9 0) (a9 1), stW G a1 v1, stW G a2 w9.1, rdW G a3 w9.2]) q) (qIx G (om (fun (w9 : StV × RdV) => [maW a0 (a1 0) (a2 0) (a3 0) (a4 0) (a7 0 0) (a8 0) (a9 0) (a9 1), stW G a1 v1, stW G a2 w9.1, rdW G a3 w9.2]) q)) 1 6 := by
  unfold f_X5_inTheEnd at hf
  refine mX_of (cc := cX5_inTheEnd) (maxL := 3) (ret := (some .int)) (by decide) rfl (om_gad (fun _ => rfl)) (Nat.le_of_ble_eq_true rfl) ?_
  intro p e s m args below meth c A ls S hK hA hex hTH hP hD hS hl
  obtain ⟨hx, hb, hml, hown, hts, hr, hlocks⟩ := id S
  have hl : lv_has ls 3 [(0, .ref (a0 0)), (1, .int i1)] := hl
  refine lv_aload_n hx hb dX5_inTheEnd_0 rfl (lv_at hl 0 rfl) ?_
  refine lv_iload_n hx hb dX5_inTheEnd_1 rfl (lv_at hl 1 rfl) ?_
  obtain ⟨q1, hq1, hf⟩ := bx_some hf
  refine g_callXVv S (cells' := 1) (slots' := 6) (As := [.int i1]) (c_X5_requireMember l hl0 G a0 a1 a2 a3 a4 a5 a6 a7 a8 a9 a10 a11 v1 i1 hq1) (cwV 1 hts gX5_inTheEnd_X5_requireMember rfl rfl rfl hd_X5_requireMember ⟨Nat.le_of_ble_eq_true rfl, Nat.le_of_ble_eq_true rfl⟩) hTH hK hP hD hS hA (is := [0, 1]) rfl rfl 0 rfl rfl rfl rfl hl.1 rfl (Nat.le_of_ble_eq_true rfl) dX5_inTheEnd_2 ⟨Nat.le_of_ble_eq_true rfl, Nat.le_of_ble_eq_true rfl⟩ rfl rfl (fun u ho H locs hP hD hS => ?_) (fun E u ho ce q9 H locs hP hD hS hce hcv hcl => by obtain ⟨r9, rfl, rfl, rfl⟩ := om_r ho; have hf := bxe_r hf; subst hf; exact g_xout hex hlocks hce hcv hcl rfl (Nat.le_of_ble_eq_true rfl) (Nat.le_of_ble_eq_true rfl) hP hS)
  obtain ⟨r2, rfl, -, rfl⟩ := om_l ho
  have hf := bxe_l hf
  have hP : gP G [maW a0 (a1 0) (a2 0) (a3 0) (a4 0) (a7 0 0) (a8 0) (a9 0) (a9 1), stW G a1 v1, stW G a2 v2, rdW G a3 v3] H := hP
  have hD : gD A [maW a0 (a1 0) (a2 0) (a3 0) (a4 0) (a7 0 0) (a8 0) (a9 0) (a9 1), stW G a1 v1, stW G a2 v2, rdW G a3 v3] := hD
  refine lv_aload_n hx hb dX5_inTheEnd_5 rfl (lv_at hl 0 rfl) ?_
  refine g_get (C := RX5) (T := TX5) (N := 8) hx hb hts iwX5_inTheEnd_X5 hown hK hP 0 0 rfl rfl rfl 1 (Nat.le_of_ble_eq_true rfl) (hts _ kX5_inTheEnd_0) (fun _ h9 => h9) rfl dX5_inTheEnd_6 ?_
  refine lv_aload_n hx hb dX5_inTheEnd_9 rfl (lv_at hl 0 rfl) ?_
  refine g_get (C := RX5) (T := TX5) (N := 8) hx hb hts iwX5_inTheEnd_X5 hown hK hP 0 0 rfl rfl rfl 0 (Nat.le_of_ble_eq_true rfl) (hts _ kX5_inTheEnd_1) (fun _ h9 => h9) rfl dX5_inTheEnd_10 ?_
  obtain ⟨q4, hq4, hf⟩ := bd_some hf
  refine g_callVv S (As := [.ref (a1 0)]) (gs' := [maW a0 (a1 0) (a2 0) (a3 0) (a4 0) (a7 0 0) (a8 0) (a9 0) (a9 1), stW G a1 v1, stW G a2 q4.2, rdW G a3 v3]) (c_X3_copyFrom l G a2 a1 v2 v1 hq4) (cwV 1 hts gX5_inTheEnd_X3_copyFrom rfl rfl rfl hd_X3_copyFrom ⟨Nat.le_of_ble_eq_true rfl, Nat.le_of_ble_eq_true rfl⟩) hK hP hD hS hA (is := [2, 1]) rfl rfl 2 rfl rfl rfl rfl hl.1 rfl (Nat.le_of_ble_eq_true rfl) dX5_inTheEnd_13 ⟨Nat.le_of_ble_eq_true rfl, Nat.le_of_ble_eq_true rfl⟩ rfl (fun H locs hP hD hS => ?_)
  refine lv_iconst (v := (0:Int32)) hx hb dX5_inTheEnd_16 (by decide) ?_
  refine lv_istore_n (lv' := [(2, .int (0:Int32)), (0, .ref (a0 0)), (1, .int i1)]) hx hb dX5_inTheEnd_17 rfl hl (by decide) rfl (fun ls hl => ?_)
  obtain ⟨e12, he12, hf⟩ := bd_some hf
  refine w_X5_inTheEnd_18 (Q := _) S hK hA G a0 a1 a2 a3 a4 a5 a6 a7 a8 a9 a10 a11 v1 i1 FU _ e12 he12 _ _ _ hP hD hS (lv_sub hl [1, 2, 0] rfl) (fun H locs ls hP hD hS hl => ?_)
  refine lv_aload_n hx hb dX5_inTheEnd_62 rfl (lv_at hl 0 rfl) ?_
  refine g_get (C := RX5) (T := TX5) (N := 8) hx hb hts iwX5_inTheEnd_X5 hown hK hP 0 0 rfl rfl rfl 1 (Nat.le_of_ble_eq_true rfl) (hts _ kX5_inTheEnd_0) (fun _ h9 => h9) rfl dX5_inTheEnd_63 ?_
  refine g_get (C := RX3) (T := TX3) (N := 17) hx hb hts iwX5_inTheEnd_X3 hown hK hP 2 0 rfl rfl rfl 5 (Nat.le_of_ble_eq_true rfl) (hts _ kX5_inTheEnd_3) (fun _ h9 => h9) rfl dX5_inTheEnd_66 ?_
  refine lv_iload_n hx hb dX5_inTheEnd_69 rfl (lv_at hl 1 rfl) ?_
  obtain ⟨h13, hf⟩ := gi_some hf
  refine g_iald hx hb hK hP 2 1 0 rfl rfl rfl h13 dX5_inTheEnd_70 ?_
  cases hf
  exact g_xiret hx hb hr hlocks rfl (Nat.le_of_ble_eq_true rfl) (Nat.le_of_ble_eq_true rfl) hP hS dX5_inTheEnd_71
theorem kX5_withoutLowGroups_0 : Cond.constantLong RX5 259 (100000) ∈ wsX5_withoutLowGroups := (List.mem_cons_of_mem _ (List.mem_of_getElem? (i := 0) rfl))
set_option maxHeartbeats 4000000 in
set_option maxRecDepth 100000 in
theorem w_X5_withoutLowGroups_5 {p : Program} {l : Launch} {e : Env} {s : State} {m : MethodId} {args : Array Value} {below : List Frame} {meth : Method} {c : Code} {A : Nat → Prop} {Q : State → Prop} (S : Ev p s m args meth c cX5_withoutLowGroups 6 (some .long) yX5_withoutLowGroups.cls wsX5_withoutLowGroups) {G : uG} (hK : kK G s) (hA : ∀ q, s.heap.size ≤ q → A q) (_ : uG) (p2 : Int32) : ∀ (n : Nat) (z : (Int64 × Int32)) (e1 : (Int64 × Int32)), lp (b_X5_withoutLowGroups_5 p2) n z = some e1 → ∀ (H : Heap) (locs : List Loc) (ls : Array Slot), gP G [] H → gD A [] → va_S A s.heap H locs → lv_has ls 6 [(2, .int p2), (3, .long z.1), (5, .int z.2)] → (∀ (H : Heap) (locs : List Loc) (ls : Array Slot), gP G [] H → gD A [] → va_S A s.heap H locs → lv_has ls 6 [(2, .int p2), (3, .long e1.1), (5, .int e1.2)] → W p l e ({ frames := 0, cells := 0, slots := 0, locals := 0 } : Room) s m args below meth c H locs 0 0 Q (F0 m 23 ls [])) → W p l e ({ frames := 0, cells := 0, slots := 0, locals := 0 } : Room) s m args below meth c H locs 0 0 Q (F0 m 5 ls []) := by
  obtain ⟨hx, hb, hml, hown, hts, hr, hlocks⟩ := id S
  intro n
  induction n with
  | zero => intro z e1 h; cases h
  | succ n ih =>
    intro z e1 hlp H locs ls hP hD hS hl K
    obtain ⟨z9, hf, hz⟩ := lp_s hlp
    unfold b_X5_withoutLowGroups_5 at hf
    refine lv_iload hx hb dX5_withoutLowGroups_5 (lv_at hl 2 rfl) ?_
    refine lv_iload_n hx hb dX5_withoutLowGroups_7 rfl (lv_at hl 0 rfl) ?_
    refine lv_icmp_ge (tgt := 23) hx hb dX5_withoutLowGroups_8 (by decide) (fun c1 => ?_) (fun c1 => ?_)
    · rw [if_pos c1] at hf
      have he := lz_r hf hz
      subst he
      exact K H locs ls hP hD hS (lv_sub hl [0, 1, 2] rfl)
    · rw [if_neg c1] at hf
      refine lv_lload_n hx hb dX5_withoutLowGroups_11 rfl (lv_at hl 1 rfl) ?_
      refine lv_ldc2 (v := (100000:Int64)) hx hb hown (hts _ kX5_withoutLowGroups_0) dX5_withoutLowGroups_12 ?_
      obtain ⟨h2, hf⟩ := gzl_some hf
      refine lv_ldiv hx hb dX5_withoutLowGroups_15 h2 ?_
      obtain ⟨x3, ex3, hf⟩ := lt_some hf
      refine lv_nml ex3 ?_
      refine lv_lstore_n (lv' := [(3, .long x3), (2, .int p2), (5, .int z.2)]) hx hb dX5_withoutLowGroups_16 rfl hl (by decide) rfl (fun ls hl => ?_)
      obtain ⟨x4, ex4, hf⟩ := lt_some hf
      refine lv_iinc (v := x4) (lv' := [(5, .int x4), (3, .long x3), (2, .int p2)]) hx hb dX5_withoutLowGroups_17 hl (k := 2) rfl (by rw [ex4]; rfl) (by decide) rfl (fun ls hl => ?_)
      refine lv_goto (tgt := 5) hx hb dX5_withoutLowGroups_20 (by decide) ?_
      exact ih _ e1 (lz_l hf hz) H locs ls hP hD hS (lv_sub hl [2, 1, 0] rfl) K
set_option maxHeartbeats 4000000 in
set_option maxRecDepth 100000 in
theorem c_X5_withoutLowGroups (l : Launch) (G : uG) (i0 : Int64) (i2 : Int32) {q : Int64 × (Unit)} (hf : f_X5_withoutLowGroups i0 i2 = some q) : mQ l yX5_withoutLowGroups wsX5_withoutLowGroups ({ frames := 0, cells := 0, slots := 0, locals := 0 } : Room) G [.long i0, .int i2] [] [] (qL G [] q.1) := by
  unfold f_X5_withoutLowGroups at hf
  refine m_of (cc := cX5_withoutLowGroups) (maxL := 6) (ret := (some .long)) (by decide) rfl rfl (Nat.le_of_ble_eq_true rfl) ?_
  intro p e s m args below meth c A ls S hK hA hP hD hS hl
  obtain ⟨hx, hb, hml, hown, hts, hr, hlocks⟩ := id S
  have hl : lv_has ls 6 [(0, .long i0), (2, .int i2)] := hl
  refine lv_lload_n hx hb dX5_withoutLowGroups_0 rfl (lv_at hl 0 rfl) ?_
  refine lv_lstore_n (lv' := [(3, .long i0), (0, .long i0), (2, .int i2)]) hx hb dX5_withoutLowGroups_1 rfl hl (by decide) rfl (fun ls hl => ?_)
  refine lv_iconst (v := (0:Int32)) hx hb dX5_withoutLowGroups_2 (by decide) ?_
  refine lv_istore (lv' := [(5, .int (0:Int32)), (3, .long i0), (0, .long i0), (2, .int i2)]) hx hb dX5_withoutLowGroups_3 hl (by decide) rfl (fun ls hl => ?_)
  obtain ⟨e5, he5, hf⟩ := bd_some hf
  refine w_X5_withoutLowGroups_5 (Q := _) S hK hA G i2 FU _ e5 he5 _ _ _ hP hD hS (lv_sub hl [3, 1, 0] rfl) (fun H locs ls hP hD hS hl => ?_)
  refine lv_lload_n hx hb dX5_withoutLowGroups_23 rfl (lv_at hl 1 rfl) ?_
  cases hf
  exact g_lret hx hb hr hlocks hP hS dX5_withoutLowGroups_24
theorem kX5_runScript_0 : Cond.classLink RX5 116 "java/lang/IllegalArgumentException" ∈ wsX5_runScript := (List.mem_cons_of_mem _ (List.mem_append_left _ (List.mem_append_left _ (List.mem_append_left _ (List.mem_append_left _ (List.mem_append_left _ (List.mem_append_left _ (List.mem_of_getElem? (i := 0) rfl))))))))
theorem kX5_runScript_1 : Cond.initialized "java/lang/IllegalArgumentException" ∈ wsX5_runScript := (List.mem_cons_of_mem _ (List.mem_append_left _ (List.mem_append_left _ (List.mem_append_left _ (List.mem_append_left _ (List.mem_append_left _ (List.mem_append_left _ (List.mem_of_getElem? (i := 1) rfl))))))))
theorem kX5_runScript_2 : Cond.fieldLink RX5 29 "SavingsCircle" "commands" "LSavingsCircle$Script;" ∈ wsX5_runScript := (List.mem_cons_of_mem _ (List.mem_append_left _ (List.mem_append_left _ (List.mem_append_left _ (List.mem_append_left _ (List.mem_append_left _ (List.mem_append_left _ (List.mem_of_getElem? (i := 2) rfl))))))))
theorem kX5_runScript_3 : Cond.fieldLink RX5 256 "SavingsCircle$Script" "state" "LSavingsCircle$State;" ∈ wsX5_runScript := (List.mem_cons_of_mem _ (List.mem_append_left _ (List.mem_append_left _ (List.mem_append_left _ (List.mem_append_left _ (List.mem_append_left _ (List.mem_append_left _ (List.mem_of_getElem? (i := 3) rfl))))))))
theorem kX5_runScript_4 : Cond.fieldLink RX5 10 "SavingsCircle" "now" "LSavingsCircle$State;" ∈ wsX5_runScript := (List.mem_cons_of_mem _ (List.mem_append_left _ (List.mem_append_left _ (List.mem_append_left _ (List.mem_append_left _ (List.mem_append_left _ (List.mem_append_left _ (List.mem_of_getElem? (i := 4) rfl))))))))
theorem kX5_runScript_5 : Cond.constantLong RX5 259 (100000) ∈ wsX5_runScript := (List.mem_cons_of_mem _ (List.mem_append_left _ (List.mem_append_left _ (List.mem_append_left _ (List.mem_append_left _ (List.mem_append_left _ (List.mem_append_left _ (List.mem_of_getElem? (i := 5) rfl))))))))
theorem kX5_runScript_6 : Cond.constant RX5 78 (-99999) ∈ wsX5_runScript := (List.mem_cons_of_mem _ (List.mem_append_left _ (List.mem_append_left _ (List.mem_append_left _ (List.mem_append_left _ (List.mem_append_left _ (List.mem_append_left _ (List.mem_of_getElem? (i := 6) rfl))))))))
theorem iwX5_runScript_X5 : ∀ w ∈ wsX50, w ∈ wsX5_runScript := fun w h => (List.mem_cons_of_mem _ (List.mem_append_left _ (List.mem_append_left _ (List.mem_append_left _ (List.mem_append_left _ (List.mem_append_right _ h))))))
theorem iwX5_runScript_X2 : ∀ w ∈ wsX20, w ∈ wsX5_runScript := fun w h => (List.mem_cons_of_mem _ (List.mem_append_left _ (List.mem_append_left _ (List.mem_append_left _ (List.mem_append_right _ h)))))
theorem atX5_runScript_120 : ∀ w ∈ (vx_atS RX5 120 "java/lang/IllegalArgumentException" ["java/lang/RuntimeException", "java/lang/Exception"]).filter goodWord, w ∈ wsX5_runScript := fun w h => (List.mem_cons_of_mem _ (List.mem_append_right _ h))
set_option maxHeartbeats 4000000 in
set_option maxRecDepth 100000 in
theorem w_X5_runScript_49 {p : Program} {l : Launch} {e : Env} {s : State} {m : MethodId} {args : Array Value} {below : List Frame} {meth : Method} {c : Code} {A : Nat → Prop} {q : (Int32 × (StV × RdV)) ⊕ (String × (StV × RdV))} (S : Ev p s m args meth c cX5_runScript 6 (some .int) yX5_runScript.cls wsX5_runScript) {G : uG} (hK : kK G s) (hA : ∀ q, s.heap.size ≤ q → A q) (_ : uG) (a0 : Nat → Nat) (a1 : Nat → Nat) (a2 : Nat → Nat) (a3 : Nat → Nat) (a4 : Nat → Nat) (a5 : Nat → Nat) (a6 : Nat → Nat) (a7 : Nat → Nat → Nat) (a8 : Nat → Nat) (a9 : Nat → Nat) (a10 : Nat → Nat) (a11 : Nat → Nat) (v1 : StV) (p1 : Int32) (p2 : Int64) : ∀ (n : Nat) (z : (Int32 × StV × RdV)) (e1 : ((Int32 × StV × RdV) ⊕ (Int32 × (StV × RdV)))) (_ : ∀ r, e1 = Sum.inr r → Sum.inl r = q), lp (b_X5_runScript_49 v1 p1 p2) n z = some e1 → ∀ (H : Heap) (locs : List Loc) (ls : Array Slot), gP G [maW a0 (a1 0) (a2 0) (a3 0) (a4 0) (a7 0 0) (a8 0) (a9 0) (a9 1), stW G a1 v1, scW a4 (a5 0) (a6 0), stW G a5 z.2.1, rdW G a6 z.2.2] H → gD A [maW a0 (a1 0) (a2 0) (a3 0) (a4 0) (a7 0 0) (a8 0) (a9 0) (a9 1), stW G a1 v1, scW a4 (a5 0) (a6 0), stW G a5 z.2.1, rdW G a6 z.2.2] → va_S A s.heap H locs → lv_has ls 6 [(0, .ref (a0 0)), (1, .int p1), (2, .long p2), (4, .int z.1)] → (∀ (s1 : (Int32 × StV × RdV)), e1 = .inl s1 → ∀ (H : Heap) (locs : List Loc) (ls : Array Slot), gP G [maW a0 (a1 0) (a2 0) (a3 0) (a4 0) (a7 0 0) (a8 0) (a9 0) (a9 1), stW G a1 v1, scW a4 (a5 0) (a6 0), stW G a5 s1.2.1, rdW G a6 s1.2.2] H → gD A [maW a0 (a1 0) (a2 0) (a3 0) (a4 0) (a7 0 0) (a8 0) (a9 0) (a9 1), stW G a1 v1, scW a4 (a5 0) (a6 0), stW G a5 s1.2.1, rdW G a6 s1.2.2] → va_S A s.heap H locs → lv_has ls 6 [(0, .ref (a0 0)), (1, .int p1), (2, .long p2), (4, .int s1.1)] → W p l e ({ frames := 7, cells := 2, slots := 12, locals := 141 } : Room) s m args below meth c H locs 1 6 (vx_MQ below (qIx G (om (fun (w9 : StV × RdV) => [maW a0 (a1 0) (a2 0) (a3 0) (a4 0) (a7 0 0) (a8 0) (a9 0) (a9 1), stW G a1 v1, scW a4 (a5 0) (a6 0), stW G a5 w9.1, rdW G a6 w9.2]) q) A) (qXx G (om (fun (w9 : StV × RdV) => [maW a0 (a1 0) (a2 0) (a3 0) (a4 0) (a7 0 0) (a8 0) (a9 0) (a9 1), stW G a1 v1, scW a4 (a5 0) (a6 0), stW G a5 w9.1, rdW G a6 w9.2]) q) A) args s 2 12 A) (F0 m 93 ls [])) → W p l e ({ frames := 7, cells := 2, slots := 12, locals := 141 } : Room) s m args below meth c H locs 1 6 (vx_MQ below (qIx G (om (fun (w9 : StV × RdV) => [maW a0 (a1 0) (a2 0) (a3 0) (a4 0) (a7 0 0) (a8 0) (a9 0) (a9 1), stW G a1 v1, scW a4 (a5 0) (a6 0), stW G a5 w9.1, rdW G a6 w9.2]) q) A) (qXx G (om (fun (w9 : StV × RdV) => [maW a0 (a1 0) (a2 0) (a3 0) (a4 0) (a7 0 0) (a8 0) (a9 0) (a9 1), stW G a1 v1, scW a4 (a5 0) (a6 0), stW G a5 w9.1, rdW G a6 w9.2]) q) A) args s 2 12 A) (F0 m 49 ls []) := by
  obtain ⟨hx, hb, hml, hown, hts, hr, hlocks⟩ := id S
  intro n
  induction n with
  | zero => intro z e1 hE h; cases h
  | succ n ih =>
    intro z e1 hE hlp H locs ls hP hD hS hl K
    obtain ⟨z9, hf, hz⟩ := lp_s hlp
    unfold b_X5_runScript_49 at hf
    refine lv_iload hx hb dX5_runScript_49 (lv_at hl 3 rfl) ?_
    refine lv_iload_n hx hb dX5_runScript_51 rfl (lv_at hl 1 rfl) ?_
    refine lv_icmp_ge (tgt := 93) hx hb dX5_runScript_52 (by decide) (fun c8 => ?_) (fun c8 => ?_)
    · rw [if_pos c8] at hf
      have he := lz_r hf hz
      exact K _ he.symm H locs ls hP hD hS (lv_sub hl [0, 1, 2, 3] rfl)
    · rw [if_neg c8] at hf
      refine lv_lload_n hx hb dX5_runScript_55 rfl (lv_at hl 2 rfl) ?_
      refine lv_iload_n hx hb dX5_runScript_56 rfl (lv_at hl 1 rfl) ?_
      refine lv_iconst (v := (1:Int32)) hx hb dX5_runScript_57 (by decide) ?_
      refine lv_isub hx hb dX5_runScript_58 ?_
      refine lv_iload hx hb dX5_runScript_59 (lv_at hl 3 rfl) ?_
      refine lv_isub hx hb dX5_runScript_61 ?_
      obtain ⟨q9, hq9, hf⟩ := bd_some hf
      refine g_callSl S (As := [.long p2, .int ((p1 - (1:Int32)) - z.1)]) (gs' := [maW a0 (a1 0) (a2 0) (a3 0) (a4 0) (a7 0 0) (a8 0) (a9 0) (a9 1), stW G a1 v1, scW a4 (a5 0) (a6 0), stW G a5 z.2.1, rdW G a6 z.2.2]) (c_X5_withoutLowGroups l G p2 ((p1 - (1:Int32)) - z.1) hq9) (va_cwS 2 hts gX5_runScript_X5_withoutLowGroups rfl rfl rfl hd_X5_withoutLowGroups.2 ⟨Nat.le_of_ble_eq_true rfl, Nat.le_of_ble_eq_true rfl⟩) hK hP hD hS hA (is := []) rfl rfl rfl hl.1 rfl (Nat.le_of_ble_eq_true rfl) dX5_runScript_62 ⟨Nat.le_of_ble_eq_true rfl, Nat.le_of_ble_eq_true rfl⟩ rfl (fun H locs hP hD hS => ?_)
      refine lv_ldc2 (v := (100000:Int64)) hx hb hown (hts _ kX5_runScript_5) dX5_runScript_65 ?_
      obtain ⟨h10, hf⟩ := gzl_some hf
      refine lv_lrem hx hb dX5_runScript_68 h10 ?_
      obtain ⟨x11, ex11, hf⟩ := lt_some hf
      refine lv_nml ex11 ?_
      refine lv_l2i (v := x11.toInt32) hx hb dX5_runScript_69 rfl ?_
      obtain ⟨x12, ex12, hf⟩ := lt_some hf
      refine lv_nmi ex12 ?_
      refine lv_istore (lv' := [(5, .int x12), (0, .ref (a0 0)), (1, .int p1), (2, .long p2), (4, .int z.1)]) hx hb dX5_runScript_70 hl (by decide) rfl (fun ls hl => ?_)
      refine lv_aload_n hx hb dX5_runScript_72 rfl (lv_at hl 1 rfl) ?_
      refine g_get (C := RX5) (T := TX5) (N := 8) hx hb hts iwX5_runScript_X5 hown hK hP 0 0 rfl rfl rfl 3 (Nat.le_of_ble_eq_true rfl) (hts _ kX5_runScript_2) (fun _ h9 => h9) rfl dX5_runScript_73 ?_
      refine lv_iload hx hb dX5_runScript_76 (lv_at hl 0 rfl) ?_
      obtain ⟨q13, hq13, hf⟩ := bd_some hf
      refine g_callVi S (As := [.int x12]) (gs' := [maW a0 (a1 0) (a2 0) (a3 0) (a4 0) (a7 0 0) (a8 0) (a9 0) (a9 1), stW G a1 v1, scW a4 (a5 0) (a6 0), stW G a5 q13.2.1, rdW G a6 q13.2.2]) (c_X2_succeeds l G a4 a5 a6 z.2.1 z.2.2 x12 hq13) (cwV 1 hts gX5_runScript_X2_succeeds rfl rfl rfl hd_X2_succeeds ⟨Nat.le_of_ble_eq_true rfl, Nat.le_of_ble_eq_true rfl⟩) hK hP hD hS hA (is := [2, 3, 4]) rfl rfl 2 rfl rfl rfl rfl hl.1 rfl (Nat.le_of_ble_eq_true rfl) dX5_runScript_78 ⟨Nat.le_of_ble_eq_true rfl, Nat.le_of_ble_eq_true rfl⟩ rfl (fun H locs hP hD hS => ?_)
      refine lv_if_ne (tgt := 87) hx hb dX5_runScript_81 (by decide) (fun c14 => ?_) (fun c14 => ?_)
      · rw [if_neg c14] at hf
        obtain ⟨x15, ex15, hf⟩ := lt_some hf
        refine lv_iinc (v := x15) (lv' := [(4, .int x15), (5, .int x12), (0, .ref (a0 0)), (1, .int p1), (2, .long p2)]) hx hb dX5_runScript_87 hl (k := 4) rfl (by rw [ex15]; rfl) (by decide) rfl (fun ls hl => ?_)
        refine lv_goto (tgt := 49) hx hb dX5_runScript_90 (by decide) ?_
        exact ih _ e1 hE (lz_l hf hz) H locs ls hP hD hS (lv_sub hl [2, 3, 4, 0] rfl) K
      · rw [if_pos c14] at hf
        refine lv_iload hx hb dX5_runScript_84 (lv_at hl 4 rfl) ?_
        have he := lz_r hf hz
        have hq := hE _ he.symm
        subst hq
        exact g_xiret hx hb hr hlocks rfl (Nat.le_of_ble_eq_true rfl) (Nat.le_of_ble_eq_true rfl) hP hS dX5_runScript_86
set_option maxHeartbeats 4000000 in
set_option maxRecDepth 100000 in
theorem c_X5_runScript (l : Launch) (hl0 : l.stackTraces = false) (G : uG) (a0 : Nat → Nat) (a1 : Nat → Nat) (a2 : Nat → Nat) (a3 : Nat → Nat) (a4 : Nat → Nat) (a5 : Nat → Nat) (a6 : Nat → Nat) (a7 : Nat → Nat → Nat) (a8 : Nat → Nat) (a9 : Nat → Nat) (a10 : Nat → Nat) (a11 : Nat → Nat) (v1 : StV) (v5 : StV) (v6 : RdV) (i1 : Int32) (i2 : Int64) {q : (Int32 × (StV × RdV)) ⊕ (String × (StV × RdV))} (hf : f_X5_runScript v1 v5 v6 i1 i2 = some q) : mX l yX5_runScript wsX5_runScript ({ frames := 7, cells := 2, slots := 12, locals := 141 } : Room) G [.ref (a0 0), .int i1, .long i2] [maW a0 (a1 0) (a2 0) (a3 0) (a4 0) (a7 0 0) (a8 0) (a9 0) (a9 1), stW G a1 v1, scW a4 (a5 0) (a6 0), stW G a5 v5, rdW G a6 v6] (om (fun (w9 : StV × RdV) => [maW a0 (a1 0) (a2 0) (a3 0) (a4 0) (a7 0 0) (a8 0) (a9 0) (a9 1), stW G a1 v1, scW a4 (a5 0) (a6 0), stW G a5 w9.1, rdW G a6 w9.2]) q) (qIx G (om (fun (w9 : StV × RdV) => [maW a0 (a1 0) (a2 0) (a3 0) (a4 0) (a7 0 0) (a8 0) (a9 0) (a9 1), stW G a1 v1, scW a4 (a5 0) (a6 0), stW G a5 w9.1, rdW G a6 w9.2]) q)) 2 12 := by
  unfold f_X5_runScript at hf
  refine mX_of (cc := cX5_runScript) (maxL := 6) (ret := (some .int)) (by decide) rfl (om_gad (fun _ => rfl)) (Nat.le_of_ble_eq_true rfl) ?_
  intro p e s m args below meth c A ls S hK hA hex hTH hP hD hS hl
  obtain ⟨hx, hb, hml, hown, hts, hr, hlocks⟩ := id S
  have hl : lv_has ls 6 [(0, .ref (a0 0)), (1, .int i1), (2, .long i2)] := hl
  refine lv_iload_n hx hb dX5_runScript_0 rfl (lv_at hl 1 rfl) ?_
  refine lv_iconst (v := (1:Int32)) hx hb dX5_runScript_1 (by decide) ?_
  refine lv_iconst (v := (3:Int32)) hx hb dX5_runScript_2 (by decide) ?_
  obtain ⟨q1, hq1, hf⟩ := bx_some hf
  refine g_callXSv S (cells' := 1) (slots' := 6) (As := [.int i1, .int (1:Int32), .int (3:Int32)]) (c_X5_requireRange l hl0 G i1 (1:Int32) (3:Int32) hq1) (va_cwS 3 hts gX5_runScript_X5_requireRange rfl rfl rfl hd_X5_requireRange.2 ⟨Nat.le_of_ble_eq_true rfl, Nat.le_of_ble_eq_true rfl⟩) hTH hK hP hD hS hA (is := []) rfl rfl rfl hl.1 rfl (Nat.le_of_ble_eq_true rfl) dX5_runScript_3 ⟨Nat.le_of_ble_eq_true rfl, Nat.le_of_ble_eq_true rfl⟩ rfl rfl (fun u ho H locs hP hD hS => ?_) (fun E u ho ce q9 H locs hP hD hS hce hcv hcl => by obtain ⟨r9, rfl, rfl, rfl⟩ := om_r ho; have hf := bxe_r hf; subst hf; exact g_xout hex hlocks hce hcv hcl rfl (Nat.le_of_ble_eq_true rfl) (Nat.le_of_ble_eq_true rfl) hP hS)
  obtain ⟨r2, rfl, -, rfl⟩ := om_l ho
  have hf := bxe_l hf
  have hP : gP G [maW a0 (a1 0) (a2 0) (a3 0) (a4 0) (a7 0 0) (a8 0) (a9 0) (a9 1), stW G a1 v1, scW a4 (a5 0) (a6 0), stW G a5 v5, rdW G a6 v6] H := hP
  have hD : gD A [maW a0 (a1 0) (a2 0) (a3 0) (a4 0) (a7 0 0) (a8 0) (a9 0) (a9 1), stW G a1 v1, scW a4 (a5 0) (a6 0), stW G a5 v5, rdW G a6 v6] := hD
  refine lv_lload_n hx hb dX5_runScript_6 rfl (lv_at hl 2 rfl) ?_
  refine lv_lconst (v := (0:Int64)) hx hb dX5_runScript_7 (by decide) ?_
  refine W.lcmp hx hb dX5_runScript_8 ?_
  refine lv_if_lt (tgt := 22) hx hb dX5_runScript_9 (by decide) (fun c4 => ?_) (fun c4 => ?_)
  · rw [if_pos c4] at hf
    cases hf
    exact g_throw S (cls := "java/lang/IllegalArgumentException") (text := "the script is negative or too long") (names := ["java/lang/RuntimeException", "java/lang/Exception"]) rfl hex hl0 hTH vf_IllegalArgumentException vf_names (hts _ kX5_runScript_0) (hts _ kX5_runScript_1) (List.mem_of_getElem? (i := 10) rfl) atX5_runScript_120 vg_RX5_120 vh_RX5_120 dX5_runScript_22 dX5_runScript_25 dX5_runScript_26 dX5_runScript_28 dX5_runScript_31 (Nat.le_of_ble_eq_true rfl) (Nat.le_of_ble_eq_true rfl) (Nat.le_of_ble_eq_true rfl) (Nat.le_of_ble_eq_true rfl) (Nat.le_of_ble_eq_true rfl) (Nat.le_of_ble_eq_true rfl) hl.1 rfl hP hS
  · rw [if_neg c4] at hf
    refine lv_lload_n hx hb dX5_runScript_12 rfl (lv_at hl 2 rfl) ?_
    refine lv_iload_n hx hb dX5_runScript_13 rfl (lv_at hl 1 rfl) ?_
    obtain ⟨q5, hq5, hf⟩ := bd_some hf
    refine g_callSl S (As := [.long i2, .int i1]) (gs' := [maW a0 (a1 0) (a2 0) (a3 0) (a4 0) (a7 0 0) (a8 0) (a9 0) (a9 1), stW G a1 v1, scW a4 (a5 0) (a6 0), stW G a5 v5, rdW G a6 v6]) (c_X5_withoutLowGroups l G i2 i1 hq5) (va_cwS 2 hts gX5_runScript_X5_withoutLowGroups rfl rfl rfl hd_X5_withoutLowGroups.2 ⟨Nat.le_of_ble_eq_true rfl, Nat.le_of_ble_eq_true rfl⟩) hK hP hD hS hA (is := []) rfl rfl rfl hl.1 rfl (Nat.le_of_ble_eq_true rfl) dX5_runScript_14 ⟨Nat.le_of_ble_eq_true rfl, Nat.le_of_ble_eq_true rfl⟩ rfl (fun H locs hP hD hS => ?_)
    refine lv_lconst (v := (0:Int64)) hx hb dX5_runScript_17 (by decide) ?_
    refine W.lcmp hx hb dX5_runScript_18 ?_
    refine lv_if_eq (tgt := 32) hx hb dX5_runScript_19 (by decide) (fun c6 => ?_) (fun c6 => ?_)
    · rw [if_pos c6] at hf
      refine lv_aload_n hx hb dX5_runScript_32 rfl (lv_at hl 0 rfl) ?_
      refine g_get (C := RX5) (T := TX5) (N := 8) hx hb hts iwX5_runScript_X5 hown hK hP 0 0 rfl rfl rfl 3 (Nat.le_of_ble_eq_true rfl) (hts _ kX5_runScript_2) (fun _ h9 => h9) rfl dX5_runScript_33 ?_
      refine g_get (C := RX2) (T := TX2) (N := 2) hx hb hts iwX5_runScript_X2 hown hK hP 2 0 rfl rfl rfl 0 (Nat.le_of_ble_eq_true rfl) (hts _ kX5_runScript_3) (fun _ h9 => h9) rfl dX5_runScript_36 ?_
      refine lv_aload_n hx hb dX5_runScript_39 rfl (lv_at hl 0 rfl) ?_
      refine g_get (C := RX5) (T := TX5) (N := 8) hx hb hts iwX5_runScript_X5 hown hK hP 0 0 rfl rfl rfl 0 (Nat.le_of_ble_eq_true rfl) (hts _ kX5_runScript_4) (fun _ h9 => h9) rfl dX5_runScript_40 ?_
      obtain ⟨q7, hq7, hf⟩ := bd_some hf
      refine g_callVv S (As := [.ref (a1 0)]) (gs' := [maW a0 (a1 0) (a2 0) (a3 0) (a4 0) (a7 0 0) (a8 0) (a9 0) (a9 1), stW G a1 v1, scW a4 (a5 0) (a6 0), stW G a5 q7.2, rdW G a6 v6]) (c_X3_copyFrom l G a5 a1 v5 v1 hq7) (cwV 1 hts gX5_runScript_X3_copyFrom rfl rfl rfl hd_X3_copyFrom ⟨Nat.le_of_ble_eq_true rfl, Nat.le_of_ble_eq_true rfl⟩) hK hP hD hS hA (is := [3, 1]) rfl rfl 3 rfl rfl rfl rfl hl.1 rfl (Nat.le_of_ble_eq_true rfl) dX5_runScript_43 ⟨Nat.le_of_ble_eq_true rfl, Nat.le_of_ble_eq_true rfl⟩ rfl (fun H locs hP hD hS => ?_)
      refine lv_iconst (v := (0:Int32)) hx hb dX5_runScript_46 (by decide) ?_
      refine lv_istore (lv' := [(4, .int (0:Int32)), (0, .ref (a0 0)), (1, .int i1), (2, .long i2)]) hx hb dX5_runScript_47 hl (by decide) rfl (fun ls hl => ?_)
      obtain ⟨e16, he16, hf⟩ := bd_some hf
      refine w_X5_runScript_49 S hK hA G a0 a1 a2 a3 a4 a5 a6 a7 a8 a9 a10 a11 v1 i1 i2 FU _ e16 (fun r hr9 => by subst hr9; exact (Option.some.inj hf)) he16 _ _ _ hP hD hS (lv_sub hl [1, 2, 3, 0] rfl) (fun s17 hs9 H locs ls hP hD hS hl => ?_)
      subst hs9
      have hf := el_h hf
      refine lv_ldc (v := (-99999:Int32)) hx hb hown (hts _ kX5_runScript_6) dX5_runScript_93 ?_
      cases hf
      exact g_xiret hx hb hr hlocks rfl (Nat.le_of_ble_eq_true rfl) (Nat.le_of_ble_eq_true rfl) hP hS dX5_runScript_95
    · rw [if_neg c6] at hf
      cases hf
      exact g_throw S (cls := "java/lang/IllegalArgumentException") (text := "the script is negative or too long") (names := ["java/lang/RuntimeException", "java/lang/Exception"]) rfl hex hl0 hTH vf_IllegalArgumentException vf_names (hts _ kX5_runScript_0) (hts _ kX5_runScript_1) (List.mem_of_getElem? (i := 10) rfl) atX5_runScript_120 vg_RX5_120 vh_RX5_120 dX5_runScript_22 dX5_runScript_25 dX5_runScript_26 dX5_runScript_28 dX5_runScript_31 (Nat.le_of_ble_eq_true rfl) (Nat.le_of_ble_eq_true rfl) (Nat.le_of_ble_eq_true rfl) (Nat.le_of_ble_eq_true rfl) (Nat.le_of_ble_eq_true rfl) (Nat.le_of_ble_eq_true rfl) hl.1 rfl hP hS
theorem kX5_simulate_0 : Cond.fieldLink RX5 16 "SavingsCircle" "trial" "LSavingsCircle$State;" ∈ wsX5_simulate := (List.mem_cons_of_mem _ (List.mem_append_left _ (List.mem_append_left _ (List.mem_append_left _ (List.mem_append_left _ (List.mem_append_left _ (List.mem_of_getElem? (i := 0) rfl)))))))
theorem kX5_simulate_1 : Cond.fieldLink RX5 10 "SavingsCircle" "now" "LSavingsCircle$State;" ∈ wsX5_simulate := (List.mem_cons_of_mem _ (List.mem_append_left _ (List.mem_append_left _ (List.mem_append_left _ (List.mem_append_left _ (List.mem_append_left _ (List.mem_of_getElem? (i := 1) rfl)))))))
theorem kX5_simulate_2 : Cond.fieldLink RX5 88 "SavingsCircle$State" "count" "I" ∈ wsX5_simulate := (List.mem_cons_of_mem _ (List.mem_append_left _ (List.mem_append_left _ (List.mem_append_left _ (List.mem_append_left _ (List.mem_append_left _ (List.mem_of_getElem? (i := 2) rfl)))))))
theorem kX5_simulate_3 : Cond.constantLong RX5 267 (6364136223846793005) ∈ wsX5_simulate := (List.mem_cons_of_mem _ (List.mem_append_left _ (List.mem_append_left _ (List.mem_append_left _ (List.mem_append_left _ (List.mem_append_left _ (List.mem_of_getElem? (i := 3) rfl)))))))
theorem kX5_simulate_4 : Cond.constantLong RX5 269 (1442695040888963407) ∈ wsX5_simulate := (List.mem_cons_of_mem _ (List.mem_append_left _ (List.mem_append_left _ (List.mem_append_left _ (List.mem_append_left _ (List.mem_append_left _ (List.mem_of_getElem? (i := 4) rfl)))))))
theorem kX5_simulate_5 : Cond.fieldLink RX5 22 "SavingsCircle" "round" "LSavingsCircle$Round;" ∈ wsX5_simulate := (List.mem_cons_of_mem _ (List.mem_append_left _ (List.mem_append_left _ (List.mem_append_left _ (List.mem_append_left _ (List.mem_append_left _ (List.mem_of_getElem? (i := 5) rfl)))))))
theorem kX5_simulate_6 : Cond.methodLink RX5 277 Lib.Math.min.name ∈ wsX5_simulate := (List.mem_cons_of_mem _ (List.mem_append_left _ (List.mem_append_left _ (List.mem_append_left _ (List.mem_append_left _ (List.mem_append_left _ (List.mem_of_getElem? (i := 6) rfl)))))))
theorem kX5_simulate_7 : Cond.static Lib.Math.min.name ∈ wsX5_simulate := (List.mem_cons_of_mem _ (List.mem_append_left _ (List.mem_append_left _ (List.mem_append_left _ (List.mem_append_left _ (List.mem_append_left _ (List.mem_of_getElem? (i := 7) rfl)))))))
theorem kX5_simulate_8 : Cond.initialized "java/lang/Math" ∈ wsX5_simulate := (List.mem_cons_of_mem _ (List.mem_append_left _ (List.mem_append_left _ (List.mem_append_left _ (List.mem_append_left _ (List.mem_append_left _ (List.mem_of_getElem? (i := 8) rfl)))))))
theorem kX5_simulate_9 : Cond.code Lib.Math.min.name Lib.Math.min.code 2 (some .int) ∈ wsX5_simulate := (List.mem_cons_of_mem _ (List.mem_append_left _ (List.mem_append_left _ (List.mem_append_left _ (List.mem_append_left _ (List.mem_append_left _ (List.mem_of_getElem? (i := 9) rfl)))))))
theorem iwX5_simulate_X5 : ∀ w ∈ wsX50, w ∈ wsX5_simulate := fun w h => (List.mem_cons_of_mem _ (List.mem_append_left _ (List.mem_append_left _ (List.mem_append_left _ (List.mem_append_right _ h)))))
theorem iwX5_simulate_X3 : ∀ w ∈ wsX30, w ∈ wsX5_simulate := fun w h => (List.mem_cons_of_mem _ (List.mem_append_left _ (List.mem_append_left _ (List.mem_append_right _ h))))
set_option maxHeartbeats 4000000 in
set_option maxRecDepth 100000 in
theorem w_X5_simulate_42 {p : Program} {l : Launch} {e : Env} {s : State} {m : MethodId} {args : Array Value} {below : List Frame} {meth : Method} {c : Code} {A : Nat → Prop} {Q : State → Prop} (S : Ev p s m args meth c cX5_simulate 9 (some .int) yX5_simulate.cls wsX5_simulate) {G : uG} (hK : kK G s) (hA : ∀ q, s.heap.size ≤ q → A q) (_ : uG) (a0 : Nat → Nat) (a1 : Nat → Nat) (a2 : Nat → Nat) (a3 : Nat → Nat) (a4 : Nat → Nat) (a5 : Nat → Nat) (a6 : Nat → Nat) (a7 : Nat → Nat → Nat) (a8 : Nat → Nat) (a9 : Nat → Nat) (a10 : Nat → Nat) (a11 : Nat → Nat) (v1 : StV) (v3 : RdV) (p3 : Int32) (p4 : Int32) (p7 : Int32) : ∀ (n : Nat) (z : (Int64 × Int32 × StV)) (e1 : (Int64 × Int32 × StV)), lp (b_X5_simulate_42 v1 v3 p3 p4 p7) n z = some e1 → ∀ (H : Heap) (locs : List Loc) (ls : Array Slot), gP G [maW a0 (a1 0) (a2 0) (a3 0) (a4 0) (a7 0 0) (a8 0) (a9 0) (a9 1), stW G a1 v1, stW G a2 z.2.2, rdW G a3 v3] H → gD A [maW a0 (a1 0) (a2 0) (a3 0) (a4 0) (a7 0 0) (a8 0) (a9 0) (a9 1), stW G a1 v1, stW G a2 z.2.2, rdW G a3 v3] → va_S A s.heap H locs → lv_has ls 9 [(0, .ref (a0 0)), (3, .int p3), (4, .int p4), (5, .long z.1), (7, .int p7), (8, .int z.2.1)] → (∀ (H : Heap) (locs : List Loc) (ls : Array Slot), gP G [maW a0 (a1 0) (a2 0) (a3 0) (a4 0) (a7 0 0) (a8 0) (a9 0) (a9 1), stW G a1 v1, stW G a2 e1.2.2, rdW G a3 v3] H → gD A [maW a0 (a1 0) (a2 0) (a3 0) (a4 0) (a7 0 0) (a8 0) (a9 0) (a9 1), stW G a1 v1, stW G a2 e1.2.2, rdW G a3 v3] → va_S A s.heap H locs → lv_has ls 9 [(0, .ref (a0 0)), (3, .int p3), (4, .int p4), (5, .long e1.1), (7, .int p7), (8, .int e1.2.1)] → W p l e ({ frames := 7, cells := 1, slots := 6, locals := 114 } : Room) s m args below meth c H locs 1 6 Q (F0 m 87 ls [])) → W p l e ({ frames := 7, cells := 1, slots := 6, locals := 114 } : Room) s m args below meth c H locs 1 6 Q (F0 m 42 ls []) := by
  obtain ⟨hx, hb, hml, hown, hts, hr, hlocks⟩ := id S
  intro n
  induction n with
  | zero => intro z e1 h; cases h
  | succ n ih =>
    intro z e1 hlp H locs ls hP hD hS hl K
    obtain ⟨z9, hf, hz⟩ := lp_s hlp
    unfold b_X5_simulate_42 at hf
    refine lv_iload hx hb dX5_simulate_42 (lv_at hl 5 rfl) ?_
    refine lv_aload_n hx hb dX5_simulate_44 rfl (lv_at hl 0 rfl) ?_
    refine g_get (C := RX5) (T := TX5) (N := 8) hx hb hts iwX5_simulate_X5 hown hK hP 0 0 rfl rfl rfl 1 (Nat.le_of_ble_eq_true rfl) (hts _ kX5_simulate_0) (fun _ h9 => h9) rfl dX5_simulate_45 ?_
    refine g_get (C := RX3) (T := TX3) (N := 17) hx hb hts iwX5_simulate_X3 hown hK hP 2 0 rfl rfl rfl 0 (Nat.le_of_ble_eq_true rfl) (hts _ kX5_simulate_2) (fun _ h9 => h9) rfl dX5_simulate_48 ?_
    refine lv_icmp_ge (tgt := 87) hx hb dX5_simulate_51 (by decide) (fun c7 => ?_) (fun c7 => ?_)
    · rw [if_pos c7] at hf
      have he := lz_r hf hz
      subst he
      exact K H locs ls hP hD hS (lv_sub hl [0, 1, 2, 3, 4, 5] rfl)
    · rw [if_neg c7] at hf
      refine lv_lload hx hb dX5_simulate_54 (lv_at hl 3 rfl) ?_
      refine lv_ldc2 (v := (6364136223846793005:Int64)) hx hb hown (hts _ kX5_simulate_3) dX5_simulate_56 ?_
      refine lv_lmul hx hb dX5_simulate_59 ?_
      refine lv_ldc2 (v := (1442695040888963407:Int64)) hx hb hown (hts _ kX5_simulate_4) dX5_simulate_60 ?_
      refine lv_ladd hx hb dX5_simulate_63 ?_
      obtain ⟨x8, ex8, hf⟩ := lt_some hf
      refine lv_nml ex8 ?_
      refine lv_lstore (lv' := [(5, .long x8), (0, .ref (a0 0)), (3, .int p3), (4, .int p4), (7, .int p7), (8, .int z.2.1)]) hx hb dX5_simulate_64 hl (by decide) rfl (fun ls hl => ?_)
      refine lv_aload_n hx hb dX5_simulate_66 rfl (lv_at hl 1 rfl) ?_
      refine g_get (C := RX5) (T := TX5) (N := 8) hx hb hts iwX5_simulate_X5 hown hK hP 0 0 rfl rfl rfl 1 (Nat.le_of_ble_eq_true rfl) (hts _ kX5_simulate_0) (fun _ h9 => h9) rfl dX5_simulate_67 ?_
      refine lv_iload hx hb dX5_simulate_70 (lv_at hl 5 rfl) ?_
      refine lv_lload hx hb dX5_simulate_72 (lv_at hl 0 rfl) ?_
      refine lv_bipush (v := (33:Int32)) hx hb dX5_simulate_74 (by decide) ?_
      refine lv_lushr (v := (x8.toUInt64 >>> ((33:Int32).toInt64.toUInt64 &&& Int64.toUInt64 63)).toInt64) hx hb dX5_simulate_76 rfl ?_
      obtain ⟨x9, ex9, hf⟩ := lt_some hf
      refine lv_nml ex9 ?_
      refine lv_l2i (v := x9.toInt32) hx hb dX5_simulate_77 rfl ?_
      obtain ⟨q10, hq10, hf⟩ := bd_some hf
      refine g_callVv S (As := [.int z.2.1, .int x9.toInt32]) (gs' := [maW a0 (a1 0) (a2 0) (a3 0) (a4 0) (a7 0 0) (a8 0) (a9 0) (a9 1), stW G a1 v1, stW G a2 q10.2, rdW G a3 v3]) (c_X3_decide l G a2 z.2.2 z.2.1 x9.toInt32 hq10) (cwV 2 hts gX5_simulate_X3_decide rfl rfl rfl hd_X3_decide ⟨Nat.le_of_ble_eq_true rfl, Nat.le_of_ble_eq_true rfl⟩) hK hP hD hS hA (is := [2]) rfl rfl 2 rfl rfl rfl rfl hl.1 rfl (Nat.le_of_ble_eq_true rfl) dX5_simulate_78 ⟨Nat.le_of_ble_eq_true rfl, Nat.le_of_ble_eq_true rfl⟩ rfl (fun H locs hP hD hS => ?_)
      obtain ⟨x11, ex11, hf⟩ := lt_some hf
      refine lv_iinc (v := x11) (lv' := [(8, .int x11), (5, .long x8), (0, .ref (a0 0)), (3, .int p3), (4, .int p4), (7, .int p7)]) hx hb dX5_simulate_81 hl (k := 5) rfl (by rw [ex11]; rfl) (by decide) rfl (fun ls hl => ?_)
      refine lv_goto (tgt := 42) hx hb dX5_simulate_84 (by decide) ?_
      exact ih _ e1 (lz_l hf hz) H locs ls hP hD hS (lv_sub hl [2, 3, 4, 1, 5, 0] rfl) K
set_option maxHeartbeats 4000000 in
set_option maxRecDepth 100000 in
theorem w_X5_simulate_33 {p : Program} {l : Launch} {e : Env} {s : State} {m : MethodId} {args : Array Value} {below : List Frame} {meth : Method} {c : Code} {A : Nat → Prop} {Q : State → Prop} (S : Ev p s m args meth c cX5_simulate 9 (some .int) yX5_simulate.cls wsX5_simulate) {G : uG} (hK : kK G s) (hA : ∀ q, s.heap.size ≤ q → A q) (_ : uG) (a0 : Nat → Nat) (a1 : Nat → Nat) (a2 : Nat → Nat) (a3 : Nat → Nat) (a4 : Nat → Nat) (a5 : Nat → Nat) (a6 : Nat → Nat) (a7 : Nat → Nat → Nat) (a8 : Nat → Nat) (a9 : Nat → Nat) (a10 : Nat → Nat) (a11 : Nat → Nat) (v1 : StV) (p3 : Int32) (p4 : Int32) : ∀ (n : Nat) (z : (Int64 × Int32 × StV × RdV)) (e1 : (Int64 × Int32 × StV × RdV)), lp (b_X5_simulate_33 v1 p3 p4) n z = some e1 → ∀ (H : Heap) (locs : List Loc) (ls : Array Slot), gP G [maW a0 (a1 0) (a2 0) (a3 0) (a4 0) (a7 0 0) (a8 0) (a9 0) (a9 1), stW G a1 v1, stW G a2 z.2.2.1, rdW G a3 z.2.2.2] H → gD A [maW a0 (a1 0) (a2 0) (a3 0) (a4 0) (a7 0 0) (a8 0) (a9 0) (a9 1), stW G a1 v1, stW G a2 z.2.2.1, rdW G a3 z.2.2.2] → va_S A s.heap H locs → lv_has ls 9 [(0, .ref (a0 0)), (3, .int p3), (4, .int p4), (5, .long z.1), (7, .int z.2.1)] → (∀ (H : Heap) (locs : List Loc) (ls : Array Slot), gP G [maW a0 (a1 0) (a2 0) (a3 0) (a4 0) (a7 0 0) (a8 0) (a9 0) (a9 1), stW G a1 v1, stW G a2 e1.2.2.1, rdW G a3 e1.2.2.2] H → gD A [maW a0 (a1 0) (a2 0) (a3 0) (a4 0) (a7 0 0) (a8 0) (a9 0) (a9 1), stW G a1 v1, stW G a2 e1.2.2.1, rdW G a3 e1.2.2.2] → va_S A s.heap H locs → lv_has ls 9 [(0, .ref (a0 0)), (3, .int p3), (4, .int p4), (5, .long e1.1), (7, .int e1.2.1)] → W p l e ({ frames := 7, cells := 1, slots := 6, locals := 114 } : Room) s m args below meth c H locs 1 6 Q (F0 m 115 ls [])) → W p l e ({ frames := 7, cells := 1, slots := 6, locals := 114 } : Room) s m args below meth c H locs 1 6 Q (F0 m 33 ls []) := by
  obtain ⟨hx, hb, hml, hown, hts, hr, hlocks⟩ := id S
  intro n
  induction n with
  | zero => intro z e1 h; cases h
  | succ n ih =>
    intro z e1 hlp H locs ls hP hD hS hl K
    obtain ⟨z9, hf, hz⟩ := lp_s hlp
    unfold b_X5_simulate_33 at hf
    refine lv_iload hx hb dX5_simulate_33 (lv_at hl 4 rfl) ?_
    refine lv_iload_n hx hb dX5_simulate_35 rfl (lv_at hl 1 rfl) ?_
    refine lv_icmp_ge (tgt := 115) hx hb dX5_simulate_36 (by decide) (fun c6 => ?_) (fun c6 => ?_)
    · rw [if_pos c6] at hf
      have he := lz_r hf hz
      subst he
      exact K H locs ls hP hD hS (lv_sub hl [0, 1, 2, 3, 4] rfl)
    · rw [if_neg c6] at hf
      refine lv_iconst (v := (0:Int32)) hx hb dX5_simulate_39 (by decide) ?_
      refine lv_istore (lv' := [(8, .int (0:Int32)), (0, .ref (a0 0)), (3, .int p3), (4, .int p4), (5, .long z.1), (7, .int z.2.1)]) hx hb dX5_simulate_40 hl (by decide) rfl (fun ls hl => ?_)
      obtain ⟨e12, he12, hf⟩ := bd_some hf
      refine w_X5_simulate_42 (Q := _) S hK hA G a0 a1 a2 a3 a4 a5 a6 a7 a8 a9 a10 a11 v1 z.2.2.2 p3 p4 z.2.1 FU _ e12 he12 _ _ _ hP hD hS (lv_sub hl [1, 2, 3, 4, 5, 0] rfl) (fun H locs ls hP hD hS hl => ?_)
      refine lv_aload_n hx hb dX5_simulate_87 rfl (lv_at hl 0 rfl) ?_
      refine g_get (C := RX5) (T := TX5) (N := 8) hx hb hts iwX5_simulate_X5 hown hK hP 0 0 rfl rfl rfl 1 (Nat.le_of_ble_eq_true rfl) (hts _ kX5_simulate_0) (fun _ h9 => h9) rfl dX5_simulate_88 ?_
      obtain ⟨q13, hq13, hf⟩ := bd_some hf
      refine g_callVi S (As := []) (gs' := [maW a0 (a1 0) (a2 0) (a3 0) (a4 0) (a7 0 0) (a8 0) (a9 0) (a9 1), stW G a1 v1, stW G a2 e12.2.2, rdW G a3 z.2.2.2]) (c_X3_mayPass l G a2 e12.2.2 hq13) (cwV 0 hts gX5_simulate_X3_mayPass rfl rfl rfl hd_X3_mayPass ⟨Nat.le_of_ble_eq_true rfl, Nat.le_of_ble_eq_true rfl⟩) hK hP hD hS hA (is := [2]) rfl rfl 2 rfl rfl rfl rfl hl.1 rfl (Nat.le_of_ble_eq_true rfl) dX5_simulate_91 ⟨Nat.le_of_ble_eq_true rfl, Nat.le_of_ble_eq_true rfl⟩ rfl (fun H locs hP hD hS => ?_)
      refine lv_if_eq (tgt := 109) hx hb dX5_simulate_94 (by decide) (fun c14 => ?_) (fun c14 => ?_)
      · rw [if_pos c14] at hf
        obtain ⟨x15, ex15, hf⟩ := lt_some hf
        refine lv_iinc (v := x15) (lv' := [(7, .int x15), (0, .ref (a0 0)), (3, .int p3), (4, .int p4), (5, .long e12.1), (8, .int e12.2.1)]) hx hb dX5_simulate_109 hl (k := 4) rfl (by rw [ex15]; rfl) (by decide) rfl (fun ls hl => ?_)
        refine lv_goto (tgt := 33) hx hb dX5_simulate_112 (by decide) ?_
        exact ih _ e1 (lz_l hf hz) H locs ls hP hD hS (lv_sub hl [1, 2, 3, 4, 0] rfl) K
      · rw [if_neg c14] at hf
        refine lv_aload_n hx hb dX5_simulate_97 rfl (lv_at hl 0 rfl) ?_
        refine g_get (C := RX5) (T := TX5) (N := 8) hx hb hts iwX5_simulate_X5 hown hK hP 0 0 rfl rfl rfl 2 (Nat.le_of_ble_eq_true rfl) (hts _ kX5_simulate_5) (fun _ h9 => h9) rfl dX5_simulate_98 ?_
        refine lv_aload_n hx hb dX5_simulate_101 rfl (lv_at hl 0 rfl) ?_
        refine g_get (C := RX5) (T := TX5) (N := 8) hx hb hts iwX5_simulate_X5 hown hK hP 0 0 rfl rfl rfl 1 (Nat.le_of_ble_eq_true rfl) (hts _ kX5_simulate_0) (fun _ h9 => h9) rfl dX5_simulate_102 ?_
        obtain ⟨q16, hq16, hf⟩ := bd_some hf
        refine g_callVi S (As := [.ref (a2 0)]) (gs' := [maW a0 (a1 0) (a2 0) (a3 0) (a4 0) (a7 0 0) (a8 0) (a9 0) (a9 1), stW G a1 v1, stW G a2 q16.2.2, rdW G a3 q16.2.1]) (c_X1_pass l G a3 a2 z.2.2.2 e12.2.2 hq16) (cwV 1 hts gX5_simulate_X1_pass rfl rfl rfl hd_X1_pass ⟨Nat.le_of_ble_eq_true rfl, Nat.le_of_ble_eq_true rfl⟩) hK hP hD hS hA (is := [3, 2]) rfl rfl 3 rfl rfl rfl rfl hl.1 rfl (Nat.le_of_ble_eq_true rfl) dX5_simulate_105 ⟨Nat.le_of_ble_eq_true rfl, Nat.le_of_ble_eq_true rfl⟩ rfl (fun H locs hP hD hS => ?_)
        refine lv_pop hx hb dX5_simulate_108 rfl ?_
        obtain ⟨x17, ex17, hf⟩ := lt_some hf
        refine lv_iinc (v := x17) (lv' := [(7, .int x17), (0, .ref (a0 0)), (3, .int p3), (4, .int p4), (5, .long e12.1), (8, .int e12.2.1)]) hx hb dX5_simulate_109 hl (k := 4) rfl (by rw [ex17]; rfl) (by decide) rfl (fun ls hl => ?_)
        refine lv_goto (tgt := 33) hx hb dX5_simulate_112 (by decide) ?_
        exact ih _ e1 (lz_l hf hz) H locs ls hP hD hS (lv_sub hl [1, 2, 3, 4, 0] rfl) K
set_option maxHeartbeats 4000000 in
set_option maxRecDepth 100000 in
theorem c_X5_simulate (l : Launch) (hl0 : l.stackTraces = false) (G : uG) (a0 : Nat → Nat) (a1 : Nat → Nat) (a2 : Nat → Nat) (a3 : Nat → Nat) (a4 : Nat → Nat) (a5 : Nat → Nat) (a6 : Nat → Nat) (a7 : Nat → Nat → Nat) (a8 : Nat → Nat) (a9 : Nat → Nat) (a10 : Nat → Nat) (a11 : Nat → Nat) (v1 : StV) (v2 : StV) (v3 : RdV) (i1 : Int64) (i3 : Int32) {q : (Int32 × (StV × RdV)) ⊕ (String × (StV × RdV))} (hf : f_X5_simulate v1 v2 v3 i1 i3 = some q) : mX l yX5_simulate wsX5_simulate ({ frames := 7, cells := 1, slots := 6, locals := 114 } : Room) G [.ref (a0 0), .long i1, .int i3] [maW a0 (a1 0) (a2 0) (a3 0) (a4 0) (a7 0 0) (a8 0) (a9 0) (a9 1), stW G a1 v1, stW G a2 v2, rdW G a3 v3] (om (fun (w9 : StV × RdV) => [maW a0 (a1 0) (a2 0) (a3 0) (a4 0) (a7 0 0) (a8 0) (a9 0) (a9 1), stW G a1 v1, stW G a2 w9.1, rdW G a3 w9.2]) q) (qIx G (om (fun (w9 : StV × RdV) => [maW a0 (a1 0) (a2 0) (a3 0) (a4 0) (a7 0 0) (a8 0) (a9 0) (a9 1), stW G a1 v1, stW G a2 w9.1, rdW G a3 w9.2]) q)) 1 6 := by
  unfold f_X5_simulate at hf
  refine mX_of (cc := cX5_simulate) (maxL := 9) (ret := (some .int)) (by decide) rfl (om_gad (fun _ => rfl)) (Nat.le_of_ble_eq_true rfl) ?_
  intro p e s m args below meth c A ls S hK hA hex hTH hP hD hS hl
  obtain ⟨hx, hb, hml, hown, hts, hr, hlocks⟩ := id S
  have hl : lv_has ls 9 [(0, .ref (a0 0)), (1, .long i1), (3, .int i3)] := hl
  refine lv_iload_n hx hb dX5_simulate_0 rfl (lv_at hl 2 rfl) ?_
  refine lv_iconst (v := (1:Int32)) hx hb dX5_simulate_1 (by decide) ?_
  refine lv_bipush (v := (40:Int32)) hx hb dX5_simulate_2 (by decide) ?_
  obtain ⟨q1, hq1, hf⟩ := bx_some hf
  refine g_callXSv S (cells' := 1) (slots' := 6) (As := [.int i3, .int (1:Int32), .int (40:Int32)]) (c_X5_requireRange l hl0 G i3 (1:Int32) (40:Int32) hq1) (va_cwS 3 hts gX5_simulate_X5_requireRange rfl rfl rfl hd_X5_requireRange.2 ⟨Nat.le_of_ble_eq_true rfl, Nat.le_of_ble_eq_true rfl⟩) hTH hK hP hD hS hA (is := []) rfl rfl rfl hl.1 rfl (Nat.le_of_ble_eq_true rfl) dX5_simulate_4 ⟨Nat.le_of_ble_eq_true rfl, Nat.le_of_ble_eq_true rfl⟩ rfl rfl (fun u ho H locs hP hD hS => ?_) (fun E u ho ce q9 H locs hP hD hS hce hcv hcl => by obtain ⟨r9, rfl, rfl, rfl⟩ := om_r ho; have hf := bxe_r hf; subst hf; exact g_xout hex hlocks hce hcv hcl rfl (Nat.le_of_ble_eq_true rfl) (Nat.le_of_ble_eq_true rfl) hP hS)
  obtain ⟨r2, rfl, -, rfl⟩ := om_l ho
  have hf := bxe_l hf
  have hP : gP G [maW a0 (a1 0) (a2 0) (a3 0) (a4 0) (a7 0 0) (a8 0) (a9 0) (a9 1), stW G a1 v1, stW G a2 v2, rdW G a3 v3] H := hP
  have hD : gD A [maW a0 (a1 0) (a2 0) (a3 0) (a4 0) (a7 0 0) (a8 0) (a9 0) (a9 1), stW G a1 v1, stW G a2 v2, rdW G a3 v3] := hD
  refine lv_aload_n hx hb dX5_simulate_7 rfl (lv_at hl 0 rfl) ?_
  refine g_get (C := RX5) (T := TX5) (N := 8) hx hb hts iwX5_simulate_X5 hown hK hP 0 0 rfl rfl rfl 1 (Nat.le_of_ble_eq_true rfl) (hts _ kX5_simulate_0) (fun _ h9 => h9) rfl dX5_simulate_8 ?_
  refine lv_aload_n hx hb dX5_simulate_11 rfl (lv_at hl 0 rfl) ?_
  refine g_get (C := RX5) (T := TX5) (N := 8) hx hb hts iwX5_simulate_X5 hown hK hP 0 0 rfl rfl rfl 0 (Nat.le_of_ble_eq_true rfl) (hts _ kX5_simulate_1) (fun _ h9 => h9) rfl dX5_simulate_12 ?_
  obtain ⟨q4, hq4, hf⟩ := bd_some hf
  refine g_callVv S (As := [.ref (a1 0)]) (gs' := [maW a0 (a1 0) (a2 0) (a3 0) (a4 0) (a7 0 0) (a8 0) (a9 0) (a9 1), stW G a1 v1, stW G a2 q4.2, rdW G a3 v3]) (c_X3_copyFrom l G a2 a1 v2 v1 hq4) (cwV 1 hts gX5_simulate_X3_copyFrom rfl rfl rfl hd_X3_copyFrom ⟨Nat.le_of_ble_eq_true rfl, Nat.le_of_ble_eq_true rfl⟩) hK hP hD hS hA (is := [2, 1]) rfl rfl 2 rfl rfl rfl rfl hl.1 rfl (Nat.le_of_ble_eq_true rfl) dX5_simulate_15 ⟨Nat.le_of_ble_eq_true rfl, Nat.le_of_ble_eq_true rfl⟩ rfl (fun H locs hP hD hS => ?_)
  refine lv_aload_n hx hb dX5_simulate_18 rfl (lv_at hl 0 rfl) ?_
  refine g_get (C := RX5) (T := TX5) (N := 8) hx hb hts iwX5_simulate_X5 hown hK hP 0 0 rfl rfl rfl 1 (Nat.le_of_ble_eq_true rfl) (hts _ kX5_simulate_0) (fun _ h9 => h9) rfl dX5_simulate_19 ?_
  obtain ⟨q5, hq5, hf⟩ := bd_some hf
  refine g_callVi S (As := []) (gs' := [maW a0 (a1 0) (a2 0) (a3 0) (a4 0) (a7 0 0) (a8 0) (a9 0) (a9 1), stW G a1 v1, stW G a2 q4.2, rdW G a3 v3]) (c_X3_sumOfMisses l G a2 q4.2 hq5) (cwV 0 hts gX5_simulate_X3_sumOfMisses rfl rfl rfl hd_X3_sumOfMisses ⟨Nat.le_of_ble_eq_true rfl, Nat.le_of_ble_eq_true rfl⟩) hK hP hD hS hA (is := [2]) rfl rfl 2 rfl rfl rfl rfl hl.1 rfl (Nat.le_of_ble_eq_true rfl) dX5_simulate_22 ⟨Nat.le_of_ble_eq_true rfl, Nat.le_of_ble_eq_true rfl⟩ rfl (fun H locs hP hD hS => ?_)
  refine lv_istore (lv' := [(4, .int q5.1), (0, .ref (a0 0)), (1, .long i1), (3, .int i3)]) hx hb dX5_simulate_25 hl (by decide) rfl (fun ls hl => ?_)
  refine lv_lload_n hx hb dX5_simulate_27 rfl (lv_at hl 2 rfl) ?_
  refine lv_lstore (lv' := [(5, .long i1), (4, .int q5.1), (0, .ref (a0 0)), (1, .long i1), (3, .int i3)]) hx hb dX5_simulate_28 hl (by decide) rfl (fun ls hl => ?_)
  refine lv_iconst (v := (0:Int32)) hx hb dX5_simulate_30 (by decide) ?_
  refine lv_istore (lv' := [(7, .int (0:Int32)), (5, .long i1), (4, .int q5.1), (0, .ref (a0 0)), (1, .long i1), (3, .int i3)]) hx hb dX5_simulate_31 hl (by decide) rfl (fun ls hl => ?_)
  obtain ⟨e18, he18, hf⟩ := bd_some hf
  refine w_X5_simulate_33 (Q := _) S hK hA G a0 a1 a2 a3 a4 a5 a6 a7 a8 a9 a10 a11 v1 i3 q5.1 FU _ e18 he18 _ _ _ hP hD hS (lv_sub hl [3, 5, 2, 1, 0] rfl) (fun H locs ls hP hD hS hl => ?_)
  refine lv_aload_n hx hb dX5_simulate_115 rfl (lv_at hl 0 rfl) ?_
  refine g_get (C := RX5) (T := TX5) (N := 8) hx hb hts iwX5_simulate_X5 hown hK hP 0 0 rfl rfl rfl 1 (Nat.le_of_ble_eq_true rfl) (hts _ kX5_simulate_0) (fun _ h9 => h9) rfl dX5_simulate_116 ?_
  obtain ⟨q19, hq19, hf⟩ := bd_some hf
  refine g_callVi S (As := []) (gs' := [maW a0 (a1 0) (a2 0) (a3 0) (a4 0) (a7 0 0) (a8 0) (a9 0) (a9 1), stW G a1 v1, stW G a2 e18.2.2.1, rdW G a3 e18.2.2.2]) (c_X3_sumOfMisses l G a2 e18.2.2.1 hq19) (cwV 0 hts gX5_simulate_X3_sumOfMisses rfl rfl rfl hd_X3_sumOfMisses ⟨Nat.le_of_ble_eq_true rfl, Nat.le_of_ble_eq_true rfl⟩) hK hP hD hS hA (is := [2]) rfl rfl 2 rfl rfl rfl rfl hl.1 rfl (Nat.le_of_ble_eq_true rfl) dX5_simulate_119 ⟨Nat.le_of_ble_eq_true rfl, Nat.le_of_ble_eq_true rfl⟩ rfl (fun H locs hP hD hS => ?_)
  refine lv_iload hx hb dX5_simulate_122 (lv_at hl 2 rfl) ?_
  refine lv_isub hx hb dX5_simulate_124 ?_
  obtain ⟨x20, ex20, hf⟩ := lt_some hf
  refine lv_nmi ex20 ?_
  refine lv_istore (lv' := [(7, .int x20), (0, .ref (a0 0)), (3, .int i3), (4, .int q5.1), (5, .long e18.1)]) hx hb dX5_simulate_125 hl (by decide) rfl (fun ls hl => ?_)
  refine lv_sipush (v := (1000:Int32)) hx hb dX5_simulate_127 (by decide) ?_
  refine lv_aload_n hx hb dX5_simulate_130 rfl (lv_at hl 1 rfl) ?_
  refine g_get (C := RX5) (T := TX5) (N := 8) hx hb hts iwX5_simulate_X5 hown hK hP 0 0 rfl rfl rfl 1 (Nat.le_of_ble_eq_true rfl) (hts _ kX5_simulate_0) (fun _ h9 => h9) rfl dX5_simulate_131 ?_
  obtain ⟨q21, hq21, hf⟩ := bd_some hf
  refine g_callVi S (As := []) (gs' := [maW a0 (a1 0) (a2 0) (a3 0) (a4 0) (a7 0 0) (a8 0) (a9 0) (a9 1), stW G a1 v1, stW G a2 e18.2.2.1, rdW G a3 e18.2.2.2]) (c_X3_countTaken l G a2 e18.2.2.1 hq21) (cwV 0 hts gX5_simulate_X3_countTaken rfl rfl rfl hd_X3_countTaken ⟨Nat.le_of_ble_eq_true rfl, Nat.le_of_ble_eq_true rfl⟩) hK hP hD hS hA (is := [2]) rfl rfl 2 rfl rfl rfl rfl hl.1 rfl (Nat.le_of_ble_eq_true rfl) dX5_simulate_134 ⟨Nat.le_of_ble_eq_true rfl, Nat.le_of_ble_eq_true rfl⟩ rfl (fun H locs hP hD hS => ?_)
  refine lv_imul hx hb dX5_simulate_137 ?_
  refine lv_iload hx hb dX5_simulate_138 (lv_at hl 0 rfl) ?_
  refine lv_sipush (v := (999:Int32)) hx hb dX5_simulate_140 (by decide) ?_
  refine va_mmin hx hb (hml.trans hl.1.symm) hown (hts _ kX5_simulate_6) (hts _ kX5_simulate_7) (hts _ kX5_simulate_8) (hts _ kX5_simulate_9) (Nat.le_of_ble_eq_true rfl) (Nat.le_of_ble_eq_true rfl) (Nat.le_of_ble_eq_true rfl) (Nat.le_of_ble_eq_true rfl) dX5_simulate_143 ?_
  obtain ⟨x22, ex22, hf⟩ := lt_some hf
  refine lv_nmi ex22 ?_
  refine lv_iadd hx hb dX5_simulate_146 ?_
  cases hf
  exact g_xiret hx hb hr hlocks rfl (Nat.le_of_ble_eq_true rfl) (Nat.le_of_ble_eq_true rfl) hP hS dX5_simulate_147
theorem kX5_requireSlot_0 : Cond.classLink RX5 290 "java/lang/IndexOutOfBoundsException" ∈ wsX5_requireSlot := (List.mem_cons_of_mem _ (List.mem_append_left _ (List.mem_of_getElem? (i := 0) rfl)))
theorem kX5_requireSlot_1 : Cond.initialized "java/lang/IndexOutOfBoundsException" ∈ wsX5_requireSlot := (List.mem_cons_of_mem _ (List.mem_append_left _ (List.mem_of_getElem? (i := 1) rfl)))
theorem atX5_requireSlot_294 : ∀ w ∈ (vx_atS RX5 294 "java/lang/IndexOutOfBoundsException" ["java/lang/RuntimeException", "java/lang/Exception"]).filter goodWord, w ∈ wsX5_requireSlot := fun w h => (List.mem_cons_of_mem _ (List.mem_append_right _ h))
set_option maxHeartbeats 4000000 in
set_option maxRecDepth 100000 in
theorem c_X5_requireSlot (l : Launch) (hl0 : l.stackTraces = false) (G : uG) (i0 : Int32) {q : (Unit × (Unit)) ⊕ (String × (Unit))} (hf : f_X5_requireSlot i0 = some q) : mX l yX5_requireSlot wsX5_requireSlot ({ frames := 6, cells := 1, slots := 6, locals := 92 } : Room) G [.int i0] [] (om (fun (w9 : Unit) => []) q) (qVx G (om (fun (w9 : Unit) => []) q)) 1 6 := by
  unfold f_X5_requireSlot at hf
  refine mX_of (cc := cX5_requireSlot) (maxL := 1) (ret := none) (by decide) rfl (om_gad (fun _ => rfl)) (Nat.le_of_ble_eq_true rfl) ?_
  intro p e s m args below meth c A ls S hK hA hex hTH hP hD hS hl
  obtain ⟨hx, hb, hml, hown, hts, hr, hlocks⟩ := id S
  have hl : lv_has ls 1 [(0, .int i0)] := hl
  refine lv_iload_n hx hb dX5_requireSlot_0 rfl (lv_at hl 0 rfl) ?_
  refine lv_if_lt (tgt := 9) hx hb dX5_requireSlot_1 (by decide) (fun c1 => ?_) (fun c1 => ?_)
  · rw [if_pos c1] at hf
    cases hf
    exact g_throwW S (cls := "java/lang/IndexOutOfBoundsException") (text := "there is no such save slot") (names := ["java/lang/RuntimeException", "java/lang/Exception"]) rfl hex hl0 hTH vf_IndexOutOfBoundsException vf_names (hts _ kX5_requireSlot_0) (hts _ kX5_requireSlot_1) (List.mem_of_getElem? (i := 15) rfl) atX5_requireSlot_294 vg_RX5_294 vh_RX5_294 dX5_requireSlot_9 dX5_requireSlot_12 dX5_requireSlot_13 dX5_requireSlot_16 dX5_requireSlot_19 (Nat.le_of_ble_eq_true rfl) (Nat.le_of_ble_eq_true rfl) (Nat.le_of_ble_eq_true rfl) (Nat.le_of_ble_eq_true rfl) (Nat.le_of_ble_eq_true rfl) (Nat.le_of_ble_eq_true rfl) hl.1 rfl hP hS
  · rw [if_neg c1] at hf
    refine lv_iload_n hx hb dX5_requireSlot_4 rfl (lv_at hl 0 rfl) ?_
    refine lv_iconst (v := (2:Int32)) hx hb dX5_requireSlot_5 (by decide) ?_
    refine lv_icmp_lt (tgt := 20) hx hb dX5_requireSlot_6 (by decide) (fun c2 => ?_) (fun c2 => ?_)
    · rw [if_pos c2] at hf
      cases hf
      exact g_xvret hx hb hr hlocks rfl (Nat.le_of_ble_eq_true rfl) (Nat.le_of_ble_eq_true rfl) hP hS dX5_requireSlot_20
    · rw [if_neg c2] at hf
      cases hf
      exact g_throwW S (cls := "java/lang/IndexOutOfBoundsException") (text := "there is no such save slot") (names := ["java/lang/RuntimeException", "java/lang/Exception"]) rfl hex hl0 hTH vf_IndexOutOfBoundsException vf_names (hts _ kX5_requireSlot_0) (hts _ kX5_requireSlot_1) (List.mem_of_getElem? (i := 15) rfl) atX5_requireSlot_294 vg_RX5_294 vh_RX5_294 dX5_requireSlot_9 dX5_requireSlot_12 dX5_requireSlot_13 dX5_requireSlot_16 dX5_requireSlot_19 (Nat.le_of_ble_eq_true rfl) (Nat.le_of_ble_eq_true rfl) (Nat.le_of_ble_eq_true rfl) (Nat.le_of_ble_eq_true rfl) (Nat.le_of_ble_eq_true rfl) (Nat.le_of_ble_eq_true rfl) hl.1 rfl hP hS
theorem kX5_save_0 : Cond.fieldLink RX5 47 "SavingsCircle" "slots" "[LSavingsCircle$State;" ∈ wsX5_save := (List.mem_cons_of_mem _ (List.mem_append_left _ (List.mem_append_left _ (List.mem_append_left _ (List.mem_append_left _ (List.mem_of_getElem? (i := 0) rfl))))))
theorem kX5_save_1 : Cond.fieldLink RX5 10 "SavingsCircle" "now" "LSavingsCircle$State;" ∈ wsX5_save := (List.mem_cons_of_mem _ (List.mem_append_left _ (List.mem_append_left _ (List.mem_append_left _ (List.mem_append_left _ (List.mem_of_getElem? (i := 1) rfl))))))
theorem kX5_save_2 : Cond.fieldLink RX5 51 "SavingsCircle" "slotUsed" "[Z" ∈ wsX5_save := (List.mem_cons_of_mem _ (List.mem_append_left _ (List.mem_append_left _ (List.mem_append_left _ (List.mem_append_left _ (List.mem_of_getElem? (i := 2) rfl))))))
theorem kX5_save_3 : Cond.fieldLink RX5 95 "SavingsCircle$State" "month" "I" ∈ wsX5_save := (List.mem_cons_of_mem _ (List.mem_append_left _ (List.mem_append_left _ (List.mem_append_left _ (List.mem_append_left _ (List.mem_of_getElem? (i := 3) rfl))))))
theorem iwX5_save_X5 : ∀ w ∈ wsX50, w ∈ wsX5_save := fun w h => (List.mem_cons_of_mem _ (List.mem_append_left _ (List.mem_append_left _ (List.mem_append_right _ h))))
theorem iwX5_save_X3 : ∀ w ∈ wsX30, w ∈ wsX5_save := fun w h => (List.mem_cons_of_mem _ (List.mem_append_left _ (List.mem_append_right _ h)))
set_option maxHeartbeats 4000000 in
set_option maxRecDepth 100000 in
theorem c_X5_save (l : Launch) (hl0 : l.stackTraces = false) (G : uG) (a0 : Nat → Nat) (a1 : Nat → Nat) (a2 : Nat → Nat) (a3 : Nat → Nat) (a4 : Nat → Nat) (a5 : Nat → Nat) (a6 : Nat → Nat) (a7 : Nat → Nat → Nat) (a8 : Nat → Nat) (a9 : Nat → Nat) (a10 : Nat → Nat) (a11 : Nat → Nat) (v1 : StV) (v9 : SlV) (v10 : StV) (v11 : StV) (i1 : Int32) {q : (Int32 × (SlV × StV × StV)) ⊕ (String × (SlV × StV × StV))} (hf : f_X5_save v1 v9 v10 v11 i1 = some q) : mX l yX5_save wsX5_save ({ frames := 7, cells := 1, slots := 6, locals := 112 } : Room) G [.ref (a0 0), .int i1] [maW a0 (a1 0) (a2 0) (a3 0) (a4 0) (a7 0 0) (a8 0) (a9 0) (a9 1), stW G a1 v1, slW G a9 (a10 0) (a11 0) v9, stW G a10 v10, stW G a11 v11] (om (fun (w9 : SlV × StV × StV) => [maW a0 (a1 0) (a2 0) (a3 0) (a4 0) (a7 0 0) (a8 0) (a9 0) (a9 1), stW G a1 v1, slW G a9 (a10 0) (a11 0) w9.1, stW G a10 w9.2.1, stW G a11 w9.2.2]) q) (qIx G (om (fun (w9 : SlV × StV × StV) => [maW a0 (a1 0) (a2 0) (a3 0) (a4 0) (a7 0 0) (a8 0) (a9 0) (a9 1), stW G a1 v1, slW G a9 (a10 0) (a11 0) w9.1, stW G a10 w9.2.1, stW G a11 w9.2.2]) q)) 1 6 := by
  unfold f_X5_save at hf
  refine mX_of (cc := cX5_save) (maxL := 2) (ret := (some .int)) (by decide) rfl (om_gad (fun _ => rfl)) (Nat.le_of_ble_eq_true rfl) ?_
  intro p e s m args below meth c A ls S hK hA hex hTH hP hD hS hl
  obtain ⟨hx, hb, hml, hown, hts, hr, hlocks⟩ := id S
  have hl : lv_has ls 2 [(0, .ref (a0 0)), (1, .int i1)] := hl
  refine lv_iload_n hx hb dX5_save_0 rfl (lv_at hl 1 rfl) ?_
  obtain ⟨q1, hq1, hf⟩ := bx_some hf
  refine g_callXSv S (cells' := 1) (slots' := 6) (As := [.int i1]) (c_X5_requireSlot l hl0 G i1 hq1) (va_cwS 1 hts gX5_save_X5_requireSlot rfl rfl rfl hd_X5_requireSlot.2 ⟨Nat.le_of_ble_eq_true rfl, Nat.le_of_ble_eq_true rfl⟩) hTH hK hP hD hS hA (is := []) rfl rfl rfl hl.1 rfl (Nat.le_of_ble_eq_true rfl) dX5_save_1 ⟨Nat.le_of_ble_eq_true rfl, Nat.le_of_ble_eq_true rfl⟩ rfl rfl (fun u ho H locs hP hD hS => ?_) (fun E u ho ce q9 H locs hP hD hS hce hcv hcl => by obtain ⟨r9, rfl, rfl, rfl⟩ := om_r ho; have hf := bxe_r hf; subst hf; exact g_xout hex hlocks hce hcv hcl rfl (Nat.le_of_ble_eq_true rfl) (Nat.le_of_ble_eq_true rfl) hP hS)
  obtain ⟨r2, rfl, -, rfl⟩ := om_l ho
  have hf := bxe_l hf
  have hP : gP G [maW a0 (a1 0) (a2 0) (a3 0) (a4 0) (a7 0 0) (a8 0) (a9 0) (a9 1), stW G a1 v1, slW G a9 (a10 0) (a11 0) v9, stW G a10 v10, stW G a11 v11] H := hP
  have hD : gD A [maW a0 (a1 0) (a2 0) (a3 0) (a4 0) (a7 0 0) (a8 0) (a9 0) (a9 1), stW G a1 v1, slW G a9 (a10 0) (a11 0) v9, stW G a10 v10, stW G a11 v11] := hD
  refine lv_aload_n hx hb dX5_save_4 rfl (lv_at hl 0 rfl) ?_
  refine g_get (C := RX5) (T := TX5) (N := 8) hx hb hts iwX5_save_X5 hown hK hP 0 0 rfl rfl rfl 6 (Nat.le_of_ble_eq_true rfl) (hts _ kX5_save_0) (fun _ h9 => h9) rfl dX5_save_5 ?_
  refine lv_iload_n hx hb dX5_save_8 rfl (lv_at hl 1 rfl) ?_
  obtain ⟨h4, hf⟩ := gi_some hf
  refine g_aldSl hx hb hK hP 2 rfl h4 dX5_save_9 (fun c5 => ?_) (fun c5 => ?_)
  · rw [if_pos c5] at hf
    refine lv_aload_n hx hb dX5_save_10 rfl (lv_at hl 0 rfl) ?_
    refine g_get (C := RX5) (T := TX5) (N := 8) hx hb hts iwX5_save_X5 hown hK hP 0 0 rfl rfl rfl 0 (Nat.le_of_ble_eq_true rfl) (hts _ kX5_save_1) (fun _ h9 => h9) rfl dX5_save_11 ?_
    obtain ⟨q6, hq6, hf⟩ := bd_some hf
    refine g_callVv S (As := [.ref (a1 0)]) (gs' := [maW a0 (a1 0) (a2 0) (a3 0) (a4 0) (a7 0 0) (a8 0) (a9 0) (a9 1), stW G a1 v1, slW G a9 (a10 0) (a11 0) v9, stW G a10 q6.2, stW G a11 v11]) (c_X3_copyFrom l G a10 a1 v10 v1 hq6) (cwV 1 hts gX5_save_X3_copyFrom rfl rfl rfl hd_X3_copyFrom ⟨Nat.le_of_ble_eq_true rfl, Nat.le_of_ble_eq_true rfl⟩) hK hP hD hS hA (is := [3, 1]) rfl rfl 3 rfl rfl rfl rfl hl.1 rfl (Nat.le_of_ble_eq_true rfl) dX5_save_14 ⟨Nat.le_of_ble_eq_true rfl, Nat.le_of_ble_eq_true rfl⟩ rfl (fun H locs hP hD hS => ?_)
    refine lv_aload_n hx hb dX5_save_17 rfl (lv_at hl 0 rfl) ?_
    refine g_get (C := RX5) (T := TX5) (N := 8) hx hb hts iwX5_save_X5 hown hK hP 0 0 rfl rfl rfl 7 (Nat.le_of_ble_eq_true rfl) (hts _ kX5_save_2) (fun _ h9 => h9) rfl dX5_save_18 ?_
    refine lv_iload_n hx hb dX5_save_21 rfl (lv_at hl 1 rfl) ?_
    refine lv_iconst (v := (1:Int32)) hx hb dX5_save_22 (by decide) ?_
    obtain ⟨h7, hf⟩ := gi_some hf
    obtain ⟨u8, eu8, hf⟩ := lt_some hf
    refine g_zast (gs' := [maW a0 (a1 0) (a2 0) (a3 0) (a4 0) (a7 0 0) (a8 0) (a9 0) (a9 1), stW G a1 v1, slW G a9 (a10 0) (a11 0) u8, stW G a10 q6.2, stW G a11 v11]) hx hb hK hP hD hS 2 1 1 rfl rfl rfl h7 dX5_save_23 (by rw [eu8]; rfl) (fun H locs hP hD hS => ?_)
    refine lv_aload_n hx hb dX5_save_24 rfl (lv_at hl 0 rfl) ?_
    refine g_get (C := RX5) (T := TX5) (N := 8) hx hb hts iwX5_save_X5 hown hK hP 0 0 rfl rfl rfl 0 (Nat.le_of_ble_eq_true rfl) (hts _ kX5_save_1) (fun _ h9 => h9) rfl dX5_save_25 ?_
    refine g_get (C := RX3) (T := TX3) (N := 17) hx hb hts iwX5_save_X3 hown hK hP 1 0 rfl rfl rfl 1 (Nat.le_of_ble_eq_true rfl) (hts _ kX5_save_3) (fun _ h9 => h9) rfl dX5_save_28 ?_
    cases hf
    exact g_xiret hx hb hr hlocks rfl (Nat.le_of_ble_eq_true rfl) (Nat.le_of_ble_eq_true rfl) hP hS dX5_save_31
  · rw [if_neg c5] at hf
    refine lv_aload_n hx hb dX5_save_10 rfl (lv_at hl 0 rfl) ?_
    refine g_get (C := RX5) (T := TX5) (N := 8) hx hb hts iwX5_save_X5 hown hK hP 0 0 rfl rfl rfl 0 (Nat.le_of_ble_eq_true rfl) (hts _ kX5_save_1) (fun _ h9 => h9) rfl dX5_save_11 ?_
    obtain ⟨q9, hq9, hf⟩ := bd_some hf
    refine g_callVv S (As := [.ref (a1 0)]) (gs' := [maW a0 (a1 0) (a2 0) (a3 0) (a4 0) (a7 0 0) (a8 0) (a9 0) (a9 1), stW G a1 v1, slW G a9 (a10 0) (a11 0) v9, stW G a10 v10, stW G a11 q9.2]) (c_X3_copyFrom l G a11 a1 v11 v1 hq9) (cwV 1 hts gX5_save_X3_copyFrom rfl rfl rfl hd_X3_copyFrom ⟨Nat.le_of_ble_eq_true rfl, Nat.le_of_ble_eq_true rfl⟩) hK hP hD hS hA (is := [4, 1]) rfl rfl 4 rfl rfl rfl rfl hl.1 rfl (Nat.le_of_ble_eq_true rfl) dX5_save_14 ⟨Nat.le_of_ble_eq_true rfl, Nat.le_of_ble_eq_true rfl⟩ rfl (fun H locs hP hD hS => ?_)
    refine lv_aload_n hx hb dX5_save_17 rfl (lv_at hl 0 rfl) ?_
    refine g_get (C := RX5) (T := TX5) (N := 8) hx hb hts iwX5_save_X5 hown hK hP 0 0 rfl rfl rfl 7 (Nat.le_of_ble_eq_true rfl) (hts _ kX5_save_2) (fun _ h9 => h9) rfl dX5_save_18 ?_
    refine lv_iload_n hx hb dX5_save_21 rfl (lv_at hl 1 rfl) ?_
    refine lv_iconst (v := (1:Int32)) hx hb dX5_save_22 (by decide) ?_
    obtain ⟨h10, hf⟩ := gi_some hf
    obtain ⟨u11, eu11, hf⟩ := lt_some hf
    refine g_zast (gs' := [maW a0 (a1 0) (a2 0) (a3 0) (a4 0) (a7 0 0) (a8 0) (a9 0) (a9 1), stW G a1 v1, slW G a9 (a10 0) (a11 0) u11, stW G a10 v10, stW G a11 q9.2]) hx hb hK hP hD hS 2 1 1 rfl rfl rfl h10 dX5_save_23 (by rw [eu11]; rfl) (fun H locs hP hD hS => ?_)
    refine lv_aload_n hx hb dX5_save_24 rfl (lv_at hl 0 rfl) ?_
    refine g_get (C := RX5) (T := TX5) (N := 8) hx hb hts iwX5_save_X5 hown hK hP 0 0 rfl rfl rfl 0 (Nat.le_of_ble_eq_true rfl) (hts _ kX5_save_1) (fun _ h9 => h9) rfl dX5_save_25 ?_
    refine g_get (C := RX3) (T := TX3) (N := 17) hx hb hts iwX5_save_X3 hown hK hP 1 0 rfl rfl rfl 1 (Nat.le_of_ble_eq_true rfl) (hts _ kX5_save_3) (fun _ h9 => h9) rfl dX5_save_28 ?_
    cases hf
    exact g_xiret hx hb hr hlocks rfl (Nat.le_of_ble_eq_true rfl) (Nat.le_of_ble_eq_true rfl) hP hS dX5_save_31
theorem kX5_restore_0 : Cond.fieldLink RX5 51 "SavingsCircle" "slotUsed" "[Z" ∈ wsX5_restore := (List.mem_cons_of_mem _ (List.mem_append_left _ (List.mem_append_left _ (List.mem_append_left _ (List.mem_append_left _ (List.mem_append_left _ (List.mem_append_left _ (List.mem_of_getElem? (i := 2) rfl))))))))
theorem kX5_restore_1 : Cond.fieldLink RX5 10 "SavingsCircle" "now" "LSavingsCircle$State;" ∈ wsX5_restore := (List.mem_cons_of_mem _ (List.mem_append_left _ (List.mem_append_left _ (List.mem_append_left _ (List.mem_append_left _ (List.mem_append_left _ (List.mem_append_left _ (List.mem_of_getElem? (i := 3) rfl))))))))
theorem kX5_restore_2 : Cond.fieldLink RX5 47 "SavingsCircle" "slots" "[LSavingsCircle$State;" ∈ wsX5_restore := (List.mem_cons_of_mem _ (List.mem_append_left _ (List.mem_append_left _ (List.mem_append_left _ (List.mem_append_left _ (List.mem_append_left _ (List.mem_append_left _ (List.mem_of_getElem? (i := 4) rfl))))))))
theorem kX5_restore_3 : Cond.fieldLink RX5 36 "SavingsCircle" "past" "LSavingsCircle$Past;" ∈ wsX5_restore := (List.mem_cons_of_mem _ (List.mem_append_left _ (List.mem_append_left _ (List.mem_append_left _ (List.mem_append_left _ (List.mem_append_left _ (List.mem_append_left _ (List.mem_of_getElem? (i := 5) rfl))))))))
theorem kX5_restore_4 : Cond.fieldLink RX5 95 "SavingsCircle$State" "month" "I" ∈ wsX5_restore := (List.mem_cons_of_mem _ (List.mem_append_left _ (List.mem_append_left _ (List.mem_append_left _ (List.mem_append_left _ (List.mem_append_left _ (List.mem_append_left _ (List.mem_of_getElem? (i := 6) rfl))))))))
theorem kX5_restore_5 : Cond.classLink RX5 63 "java/lang/IllegalStateException" ∈ wsX5_restore := (List.mem_cons_of_mem _ (List.mem_append_left _ (List.mem_append_left _ (List.mem_append_left _ (List.mem_append_left _ (List.mem_append_left _ (List.mem_append_left _ (List.mem_of_getElem? (i := 0) rfl))))))))
theorem kX5_restore_6 : Cond.initialized "java/lang/IllegalStateException" ∈ wsX5_restore := (List.mem_cons_of_mem _ (List.mem_append_left _ (List.mem_append_left _ (List.mem_append_left _ (List.mem_append_left _ (List.mem_append_left _ (List.mem_append_left _ (List.mem_of_getElem? (i := 1) rfl))))))))
theorem iwX5_restore_X5 : ∀ w ∈ wsX50, w ∈ wsX5_restore := fun w h => (List.mem_cons_of_mem _ (List.mem_append_left _ (List.mem_append_left _ (List.mem_append_left _ (List.mem_append_left _ (List.mem_append_right _ h))))))
theorem iwX5_restore_X3 : ∀ w ∈ wsX30, w ∈ wsX5_restore := fun w h => (List.mem_cons_of_mem _ (List.mem_append_left _ (List.mem_append_left _ (List.mem_append_left _ (List.mem_append_right _ h)))))
theorem atX5_restore_67 : ∀ w ∈ (vx_atS RX5 67 "java/lang/IllegalStateException" ["java/lang/RuntimeException", "java/lang/Exception"]).filter goodWord, w ∈ wsX5_restore := fun w h => (List.mem_cons_of_mem _ (List.mem_append_left _ (List.mem_append_right _ h)))
set_option maxHeartbeats 4000000 in
set_option maxRecDepth 100000 in
theorem c_X5_restore (l : Launch) (hl0 : l.stackTraces = false) (G : uG) (a0 : Nat → Nat) (a1 : Nat → Nat) (a2 : Nat → Nat) (a3 : Nat → Nat) (a4 : Nat → Nat) (a5 : Nat → Nat) (a6 : Nat → Nat) (a7 : Nat → Nat → Nat) (a8 : Nat → Nat) (a9 : Nat → Nat) (a10 : Nat → Nat) (a11 : Nat → Nat) (v1 : StV) (v7 : PaV) (v9 : SlV) (v10 : StV) (v11 : StV) (i1 : Int32) {q : (Int32 × (StV × PaV)) ⊕ (String × (StV × PaV))} (hf : f_X5_restore v1 v7 v9 v10 v11 i1 = some q) : mX l yX5_restore wsX5_restore ({ frames := 7, cells := 2, slots := 12, locals := 112 } : Room) G [.ref (a0 0), .int i1] [maW a0 (a1 0) (a2 0) (a3 0) (a4 0) (a7 0 0) (a8 0) (a9 0) (a9 1), stW G a1 v1, paW G a7 v7, slW G a9 (a10 0) (a11 0) v9, stW G a10 v10, stW G a11 v11] (om (fun (w9 : StV × PaV) => [maW a0 (a1 0) (a2 0) (a3 0) (a4 0) (a7 0 0) (a8 0) (a9 0) (a9 1), stW G a1 w9.1, paW G a7 w9.2, slW G a9 (a10 0) (a11 0) v9, stW G a10 v10, stW G a11 v11]) q) (qIx G (om (fun (w9 : StV × PaV) => [maW a0 (a1 0) (a2 0) (a3 0) (a4 0) (a7 0 0) (a8 0) (a9 0) (a9 1), stW G a1 w9.1, paW G a7 w9.2, slW G a9 (a10 0) (a11 0) v9, stW G a10 v10, stW G a11 v11]) q)) 2 12 := by
  unfold f_X5_restore at hf
  refine mX_of (cc := cX5_restore) (maxL := 2) (ret := (some .int)) (by decide) rfl (om_gad (fun _ => rfl)) (Nat.le_of_ble_eq_true rfl) ?_
  intro p e s m args below meth c A ls S hK hA hex hTH hP hD hS hl
  obtain ⟨hx, hb, hml, hown, hts, hr, hlocks⟩ := id S
  have hl : lv_has ls 2 [(0, .ref (a0 0)), (1, .int i1)] := hl
  refine lv_iload_n hx hb dX5_restore_0 rfl (lv_at hl 1 rfl) ?_
  obtain ⟨q1, hq1, hf⟩ := bx_some hf
  refine g_callXSv S (cells' := 1) (slots' := 6) (As := [.int i1]) (c_X5_requireSlot l hl0 G i1 hq1) (va_cwS 1 hts gX5_restore_X5_requireSlot rfl rfl rfl hd_X5_requireSlot.2 ⟨Nat.le_of_ble_eq_true rfl, Nat.le_of_ble_eq_true rfl⟩) hTH hK hP hD hS hA (is := []) rfl rfl rfl hl.1 rfl (Nat.le_of_ble_eq_true rfl) dX5_restore_1 ⟨Nat.le_of_ble_eq_true rfl, Nat.le_of_ble_eq_true rfl⟩ rfl rfl (fun u ho H locs hP hD hS => ?_) (fun E u ho ce q9 H locs hP hD hS hce hcv hcl => by obtain ⟨r9, rfl, rfl, rfl⟩ := om_r ho; have hf := bxe_r hf; subst hf; exact g_xout hex hlocks hce hcv hcl rfl (Nat.le_of_ble_eq_true rfl) (Nat.le_of_ble_eq_true rfl) hP hS)
  obtain ⟨r2, rfl, -, rfl⟩ := om_l ho
  have hf := bxe_l hf
  have hP : gP G [maW a0 (a1 0) (a2 0) (a3 0) (a4 0) (a7 0 0) (a8 0) (a9 0) (a9 1), stW G a1 v1, paW G a7 v7, slW G a9 (a10 0) (a11 0) v9, stW G a10 v10, stW G a11 v11] H := hP
  have hD : gD A [maW a0 (a1 0) (a2 0) (a3 0) (a4 0) (a7 0 0) (a8 0) (a9 0) (a9 1), stW G a1 v1, paW G a7 v7, slW G a9 (a10 0) (a11 0) v9, stW G a10 v10, stW G a11 v11] := hD
  refine lv_aload_n hx hb dX5_restore_4 rfl (lv_at hl 0 rfl) ?_
  refine g_get (C := RX5) (T := TX5) (N := 8) hx hb hts iwX5_restore_X5 hown hK hP 0 0 rfl rfl rfl 7 (Nat.le_of_ble_eq_true rfl) (hts _ kX5_restore_0) (fun _ h9 => h9) rfl dX5_restore_5 ?_
  refine lv_iload_n hx hb dX5_restore_8 rfl (lv_at hl 1 rfl) ?_
  obtain ⟨h4, hf⟩ := gi_some hf
  refine g_zald hx hb hK hP 3 1 1 rfl rfl rfl h4 dX5_restore_9 ?_
  refine lv_if_ne (tgt := 24) hx hb dX5_restore_10 (by decide) (fun c5 => ?_) (fun c5 => ?_)
  · rw [if_neg c5] at hf
    refine lv_aload_n hx hb dX5_restore_24 rfl (lv_at hl 0 rfl) ?_
    refine g_get (C := RX5) (T := TX5) (N := 8) hx hb hts iwX5_restore_X5 hown hK hP 0 0 rfl rfl rfl 0 (Nat.le_of_ble_eq_true rfl) (hts _ kX5_restore_1) (fun _ h9 => h9) rfl dX5_restore_25 ?_
    refine lv_aload_n hx hb dX5_restore_28 rfl (lv_at hl 0 rfl) ?_
    refine g_get (C := RX5) (T := TX5) (N := 8) hx hb hts iwX5_restore_X5 hown hK hP 0 0 rfl rfl rfl 6 (Nat.le_of_ble_eq_true rfl) (hts _ kX5_restore_2) (fun _ h9 => h9) rfl dX5_restore_29 ?_
    refine lv_iload_n hx hb dX5_restore_32 rfl (lv_at hl 1 rfl) ?_
    obtain ⟨h6, hf⟩ := gi_some hf
    refine g_aldSl hx hb hK hP 3 rfl h6 dX5_restore_33 (fun c7 => ?_) (fun c7 => ?_)
    · rw [if_pos c7] at hf
      obtain ⟨q8, hq8, hf⟩ := bd_some hf
      refine g_callVv S (As := [.ref (a10 0)]) (gs' := [maW a0 (a1 0) (a2 0) (a3 0) (a4 0) (a7 0 0) (a8 0) (a9 0) (a9 1), stW G a1 q8.2, paW G a7 v7, slW G a9 (a10 0) (a11 0) v9, stW G a10 v10, stW G a11 v11]) (c_X3_copyFrom l G a1 a10 v1 v10 hq8) (cwV 1 hts gX5_restore_X3_copyFrom rfl rfl rfl hd_X3_copyFrom ⟨Nat.le_of_ble_eq_true rfl, Nat.le_of_ble_eq_true rfl⟩) hK hP hD hS hA (is := [1, 4]) rfl rfl 1 rfl rfl rfl rfl hl.1 rfl (Nat.le_of_ble_eq_true rfl) dX5_restore_34 ⟨Nat.le_of_ble_eq_true rfl, Nat.le_of_ble_eq_true rfl⟩ rfl (fun H locs hP hD hS => ?_)
      refine lv_aload_n hx hb dX5_restore_37 rfl (lv_at hl 0 rfl) ?_
      refine g_get (C := RX5) (T := TX5) (N := 8) hx hb hts iwX5_restore_X5 hown hK hP 0 0 rfl rfl rfl 4 (Nat.le_of_ble_eq_true rfl) (hts _ kX5_restore_3) (fun _ h9 => h9) rfl dX5_restore_38 ?_
      obtain ⟨q9, hq9, hf⟩ := bd_some hf
      refine g_callVv S (As := []) (gs' := [maW a0 (a1 0) (a2 0) (a3 0) (a4 0) (a7 0 0) (a8 0) (a9 0) (a9 1), stW G a1 q8.2, paW G a7 q9.2, slW G a9 (a10 0) (a11 0) v9, stW G a10 v10, stW G a11 v11]) (c_X0_forgetAll l G a7 v7 hq9) (cwV 0 hts gX5_restore_X0_forgetAll rfl rfl rfl hd_X0_forgetAll ⟨Nat.le_of_ble_eq_true rfl, Nat.le_of_ble_eq_true rfl⟩) hK hP hD hS hA (is := [2]) rfl rfl 2 rfl rfl rfl rfl hl.1 rfl (Nat.le_of_ble_eq_true rfl) dX5_restore_41 ⟨Nat.le_of_ble_eq_true rfl, Nat.le_of_ble_eq_true rfl⟩ rfl (fun H locs hP hD hS => ?_)
      refine lv_aload_n hx hb dX5_restore_44 rfl (lv_at hl 0 rfl) ?_
      refine g_get (C := RX5) (T := TX5) (N := 8) hx hb hts iwX5_restore_X5 hown hK hP 0 0 rfl rfl rfl 0 (Nat.le_of_ble_eq_true rfl) (hts _ kX5_restore_1) (fun _ h9 => h9) rfl dX5_restore_45 ?_
      refine g_get (C := RX3) (T := TX3) (N := 17) hx hb hts iwX5_restore_X3 hown hK hP 1 0 rfl rfl rfl 1 (Nat.le_of_ble_eq_true rfl) (hts _ kX5_restore_4) (fun _ h9 => h9) rfl dX5_restore_48 ?_
      cases hf
      exact g_xiret hx hb hr hlocks rfl (Nat.le_of_ble_eq_true rfl) (Nat.le_of_ble_eq_true rfl) hP hS dX5_restore_51
    · rw [if_neg c7] at hf
      obtain ⟨q10, hq10, hf⟩ := bd_some hf
      refine g_callVv S (As := [.ref (a11 0)]) (gs' := [maW a0 (a1 0) (a2 0) (a3 0) (a4 0) (a7 0 0) (a8 0) (a9 0) (a9 1), stW G a1 q10.2, paW G a7 v7, slW G a9 (a10 0) (a11 0) v9, stW G a10 v10, stW G a11 v11]) (c_X3_copyFrom l G a1 a11 v1 v11 hq10) (cwV 1 hts gX5_restore_X3_copyFrom rfl rfl rfl hd_X3_copyFrom ⟨Nat.le_of_ble_eq_true rfl, Nat.le_of_ble_eq_true rfl⟩) hK hP hD hS hA (is := [1, 5]) rfl rfl 1 rfl rfl rfl rfl hl.1 rfl (Nat.le_of_ble_eq_true rfl) dX5_restore_34 ⟨Nat.le_of_ble_eq_true rfl, Nat.le_of_ble_eq_true rfl⟩ rfl (fun H locs hP hD hS => ?_)
      refine lv_aload_n hx hb dX5_restore_37 rfl (lv_at hl 0 rfl) ?_
      refine g_get (C := RX5) (T := TX5) (N := 8) hx hb hts iwX5_restore_X5 hown hK hP 0 0 rfl rfl rfl 4 (Nat.le_of_ble_eq_true rfl) (hts _ kX5_restore_3) (fun _ h9 => h9) rfl dX5_restore_38 ?_
      obtain ⟨q11, hq11, hf⟩ := bd_some hf
      refine g_callVv S (As := []) (gs' := [maW a0 (a1 0) (a2 0) (a3 0) (a4 0) (a7 0 0) (a8 0) (a9 0) (a9 1), stW G a1 q10.2, paW G a7 q11.2, slW G a9 (a10 0) (a11 0) v9, stW G a10 v10, stW G a11 v11]) (c_X0_forgetAll l G a7 v7 hq11) (cwV 0 hts gX5_restore_X0_forgetAll rfl rfl rfl hd_X0_forgetAll ⟨Nat.le_of_ble_eq_true rfl, Nat.le_of_ble_eq_true rfl⟩) hK hP hD hS hA (is := [2]) rfl rfl 2 rfl rfl rfl rfl hl.1 rfl (Nat.le_of_ble_eq_true rfl) dX5_restore_41 ⟨Nat.le_of_ble_eq_true rfl, Nat.le_of_ble_eq_true rfl⟩ rfl (fun H locs hP hD hS => ?_)
      refine lv_aload_n hx hb dX5_restore_44 rfl (lv_at hl 0 rfl) ?_
      refine g_get (C := RX5) (T := TX5) (N := 8) hx hb hts iwX5_restore_X5 hown hK hP 0 0 rfl rfl rfl 0 (Nat.le_of_ble_eq_true rfl) (hts _ kX5_restore_1) (fun _ h9 => h9) rfl dX5_restore_45 ?_
      refine g_get (C := RX3) (T := TX3) (N := 17) hx hb hts iwX5_restore_X3 hown hK hP 1 0 rfl rfl rfl 1 (Nat.le_of_ble_eq_true rfl) (hts _ kX5_restore_4) (fun _ h9 => h9) rfl dX5_restore_48 ?_
      cases hf
      exact g_xiret hx hb hr hlocks rfl (Nat.le_of_ble_eq_true rfl) (Nat.le_of_ble_eq_true rfl) hP hS dX5_restore_51
  · rw [if_pos c5] at hf
    cases hf
    exact g_throwW S (cls := "java/lang/IllegalStateException") (text := "nothing has been saved there") (names := ["java/lang/RuntimeException", "java/lang/Exception"]) rfl hex hl0 hTH vf_IllegalStateException vf_names (hts _ kX5_restore_5) (hts _ kX5_restore_6) (List.mem_of_getElem? (i := 11) rfl) atX5_restore_67 vg_RX5_67 vh_RX5_67 dX5_restore_13 dX5_restore_16 dX5_restore_17 dX5_restore_20 dX5_restore_23 (Nat.le_of_ble_eq_true rfl) (Nat.le_of_ble_eq_true rfl) (Nat.le_of_ble_eq_true rfl) (Nat.le_of_ble_eq_true rfl) (Nat.le_of_ble_eq_true rfl) (Nat.le_of_ble_eq_true rfl) hl.1 rfl hP hS
