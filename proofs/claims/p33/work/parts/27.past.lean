theorem hd_X3_copyFrom : yX3_copyFrom.cls = RX3 ∧ yX3_copyFrom.cls ≠ "java/lang/invoke/MethodHandle" ∧ yX3_copyFrom.cls ≠ "java/lang/invoke/VarHandle" ∧ (parseMethodDescriptor yX3_copyFrom.desc).map (fun d => d.parameters.length) = some 1 := by decide +kernel
theorem kX0_remember_0 : Cond.fieldLink RX0 11 "SavingsCircle$Past" "states" "[LSavingsCircle$State;" ∈ wsX0_remember := (List.mem_cons_of_mem _ (List.mem_append_left _ (List.mem_append_left _ (List.mem_append_left _ (List.mem_of_getElem? (i := 0) rfl)))))
theorem kX0_remember_1 : Cond.fieldLink RX0 22 "SavingsCircle$Past" "next" "I" ∈ wsX0_remember := (List.mem_cons_of_mem _ (List.mem_append_left _ (List.mem_append_left _ (List.mem_append_left _ (List.mem_of_getElem? (i := 1) rfl)))))
theorem kX0_remember_2 : Cond.fieldLink RX0 18 "SavingsCircle$Past" "size" "I" ∈ wsX0_remember := (List.mem_cons_of_mem _ (List.mem_append_left _ (List.mem_append_left _ (List.mem_append_left _ (List.mem_of_getElem? (i := 2) rfl)))))
theorem kX0_remember_3 : Cond.methodLink RX0 29 Lib.Math.min.name ∈ wsX0_remember := (List.mem_cons_of_mem _ (List.mem_append_left _ (List.mem_append_left _ (List.mem_append_left _ (List.mem_of_getElem? (i := 3) rfl)))))
theorem kX0_remember_4 : Cond.static Lib.Math.min.name ∈ wsX0_remember := (List.mem_cons_of_mem _ (List.mem_append_left _ (List.mem_append_left _ (List.mem_append_left _ (List.mem_of_getElem? (i := 4) rfl)))))
theorem kX0_remember_5 : Cond.initialized "java/lang/Math" ∈ wsX0_remember := (List.mem_cons_of_mem _ (List.mem_append_left _ (List.mem_append_left _ (List.mem_append_left _ (List.mem_of_getElem? (i := 5) rfl)))))
theorem kX0_remember_6 : Cond.code Lib.Math.min.name Lib.Math.min.code 2 (some .int) ∈ wsX0_remember := (List.mem_cons_of_mem _ (List.mem_append_left _ (List.mem_append_left _ (List.mem_append_left _ (List.mem_of_getElem? (i := 6) rfl)))))
theorem iwX0_remember_X0 : ∀ w ∈ wsX00, w ∈ wsX0_remember := fun w h => (List.mem_cons_of_mem _ (List.mem_append_left _ (List.mem_append_right _ h)))
set_option maxHeartbeats 4000000 in
set_option maxRecDepth 100000 in
theorem c_X0_remember (l : Launch) (G : uG) (a0 : Nat → Nat → Nat) (a1 : Nat → Nat) (v0 : PaV) (v1 : StV) {q : Unit × (PaV)} (hf : f_X0_remember v0 v1 = some q) : mQ l yX0_remember wsX0_remember ({ frames := 1, cells := 0, slots := 0, locals := 22 } : Room) G [.ref (a0 0 0), .ref (a1 0)] [paW G a0 v0, stW G a1 v1] [paW G a0 q.2, stW G a1 v1] (qV G [paW G a0 q.2, stW G a1 v1] q.1) := by
  unfold f_X0_remember at hf
  refine m_of (cc := cX0_remember) (maxL := 2) (ret := none) (by decide) rfl rfl (Nat.le_of_ble_eq_true rfl) ?_
  intro p e s m args below meth c A ls S hK hA hP hD hS hl
  obtain ⟨hx, hb, hml, hown, hts, hr, hlocks⟩ := id S
  have hl : lv_has ls 2 [(0, .ref (a0 0 0)), (1, .ref (a1 0))] := hl
  refine lv_aload_n hx hb dX0_remember_0 rfl (lv_at hl 0 rfl) ?_
  refine g_get (C := RX0) (T := TX0) (N := 3) hx hb hts iwX0_remember_X0 hown hK hP 0 0 rfl rfl rfl 0 (Nat.le_of_ble_eq_true rfl) (hts _ kX0_remember_0) (fun _ h9 => h9) rfl dX0_remember_1 ?_
  refine lv_aload_n hx hb dX0_remember_4 rfl (lv_at hl 0 rfl) ?_
  refine g_get (C := RX0) (T := TX0) (N := 3) hx hb hts iwX0_remember_X0 hown hK hP 0 0 rfl rfl rfl 2 (Nat.le_of_ble_eq_true rfl) (hts _ kX0_remember_1) (fun _ h9 => h9) rfl dX0_remember_5 ?_
  obtain ⟨h1, hf⟩ := gi_some hf
  refine g_aldPa hx hb hK hP 0 rfl h1 dX0_remember_8 ?_
  refine lv_aload_n hx hb dX0_remember_9 rfl (lv_at hl 1 rfl) ?_
  obtain ⟨q2, hq2, hf⟩ := bd_some hf
  refine g_callVv S (As := [.ref (a1 0)]) (c_X3_copyFrom l G (a0 ((Pa_next v0).toNatClampNeg + 1)) a1 (Pa_states v0 (Pa_next v0).toNatClampNeg) v1 hq2) (cwV 1 hts gX0_remember_X3_copyFrom rfl rfl rfl hd_X3_copyFrom ⟨Nat.le_of_ble_eq_true rfl, Nat.le_of_ble_eq_true rfl⟩) hK (gP_pa.mp hP) (gD_pa.mp hD) hS hA (pa_hC1 (pa_lt h1)) (pa_nd1 (pa_lt h1)) ((Pa_next v0).toNatClampNeg + 1) (pa_at (pa_lt h1)) rfl rfl rfl hl.1 rfl (Nat.le_of_ble_eq_true rfl) dX0_remember_10 ⟨Nat.le_of_ble_eq_true rfl, Nat.le_of_ble_eq_true rfl⟩ (pa_set1 (pa_lt h1)) (fun H locs hP hD hS => ?_)
  obtain ⟨u3, eu3, hf⟩ := lt_some hf
  have hP : gP G [paW G a0 u3, stW G a1 v1] H := by rw [eu3]; exact gP_pa.mpr hP
  have hD : gD A [paW G a0 u3, stW G a1 v1] := by rw [eu3]; exact gD_pa.mpr hD
  refine lv_aload_n hx hb dX0_remember_13 rfl (lv_at hl 0 rfl) ?_
  refine lv_aload_n hx hb dX0_remember_14 rfl (lv_at hl 0 rfl) ?_
  refine g_get (C := RX0) (T := TX0) (N := 3) hx hb hts iwX0_remember_X0 hown hK hP 0 0 rfl rfl rfl 2 (Nat.le_of_ble_eq_true rfl) (hts _ kX0_remember_1) (fun _ h9 => h9) rfl dX0_remember_15 ?_
  refine lv_iconst (v := (1:Int32)) hx hb dX0_remember_18 (by decide) ?_
  refine lv_iadd hx hb dX0_remember_19 ?_
  refine lv_bipush (v := (14:Int32)) hx hb dX0_remember_20 (by decide) ?_
  refine lv_icmp_ge (tgt := 34) hx hb dX0_remember_22 (by decide) (fun c4 => ?_) (fun c4 => ?_)
  · rw [if_pos c4] at hf
    refine lv_iconst (v := (0:Int32)) hx hb dX0_remember_34 (by decide) ?_
    obtain ⟨u5, eu5, hf⟩ := lt_some hf
    refine g_put (ty := .int) (C := RX0) (T := TX0) (N := 3) (gs' := [paW G a0 u5, stW G a1 v1]) hx hb hts iwX0_remember_X0 tyX0 tyX0_ok nmX0 hown hK hP hD hS 0 0 rfl rfl rfl 2 (Nat.le_of_ble_eq_true rfl) (hts _ kX0_remember_1) (fun _ h9 => h9) rfl (by decide +kernel) rfl rfl (Nat.le_of_ble_eq_true rfl) dX0_remember_35 (by rw [eu5]; rfl) (fun H locs hP hD hS => ?_)
    refine lv_aload_n hx hb dX0_remember_38 rfl (lv_at hl 0 rfl) ?_
    refine lv_aload_n hx hb dX0_remember_39 rfl (lv_at hl 0 rfl) ?_
    refine g_get (C := RX0) (T := TX0) (N := 3) hx hb hts iwX0_remember_X0 hown hK hP 0 0 rfl rfl rfl 1 (Nat.le_of_ble_eq_true rfl) (hts _ kX0_remember_2) (fun _ h9 => h9) rfl dX0_remember_40 ?_
    refine lv_iconst (v := (1:Int32)) hx hb dX0_remember_43 (by decide) ?_
    refine lv_iadd hx hb dX0_remember_44 ?_
    refine lv_bipush (v := (14:Int32)) hx hb dX0_remember_45 (by decide) ?_
    refine va_mmin hx hb (hml.trans hl.1.symm) hown (hts _ kX0_remember_3) (hts _ kX0_remember_4) (hts _ kX0_remember_5) (hts _ kX0_remember_6) (Nat.le_of_ble_eq_true rfl) (Nat.le_of_ble_eq_true rfl) (Nat.le_of_ble_eq_true rfl) (Nat.le_of_ble_eq_true rfl) dX0_remember_47 ?_
    obtain ⟨x6, ex6, hf⟩ := lt_some hf
    refine lv_nmi ex6 ?_
    obtain ⟨u7, eu7, hf⟩ := lt_some hf
    refine g_put (ty := .int) (C := RX0) (T := TX0) (N := 3) (gs' := [paW G a0 u7, stW G a1 v1]) hx hb hts iwX0_remember_X0 tyX0 tyX0_ok nmX0 hown hK hP hD hS 0 0 rfl rfl rfl 1 (Nat.le_of_ble_eq_true rfl) (hts _ kX0_remember_2) (fun _ h9 => h9) rfl (by decide +kernel) rfl rfl (Nat.le_of_ble_eq_true rfl) dX0_remember_50 (by rw [eu7]; rfl) (fun H locs hP hD hS => ?_)
    cases hf
    exact g_vret hx hb hr hlocks hP hS dX0_remember_53
  · rw [if_neg c4] at hf
    refine lv_aload_n hx hb dX0_remember_25 rfl (lv_at hl 0 rfl) ?_
    refine g_get (C := RX0) (T := TX0) (N := 3) hx hb hts iwX0_remember_X0 hown hK hP 0 0 rfl rfl rfl 2 (Nat.le_of_ble_eq_true rfl) (hts _ kX0_remember_1) (fun _ h9 => h9) rfl dX0_remember_26 ?_
    refine lv_iconst (v := (1:Int32)) hx hb dX0_remember_29 (by decide) ?_
    refine lv_iadd hx hb dX0_remember_30 ?_
    refine lv_goto (tgt := 35) hx hb dX0_remember_31 (by decide) ?_
    obtain ⟨u8, eu8, hf⟩ := lt_some hf
    refine g_put (ty := .int) (C := RX0) (T := TX0) (N := 3) (gs' := [paW G a0 u8, stW G a1 v1]) hx hb hts iwX0_remember_X0 tyX0 tyX0_ok nmX0 hown hK hP hD hS 0 0 rfl rfl rfl 2 (Nat.le_of_ble_eq_true rfl) (hts _ kX0_remember_1) (fun _ h9 => h9) rfl (by decide +kernel) rfl rfl (Nat.le_of_ble_eq_true rfl) dX0_remember_35 (by rw [eu8]; rfl) (fun H locs hP hD hS => ?_)
    refine lv_aload_n hx hb dX0_remember_38 rfl (lv_at hl 0 rfl) ?_
    refine lv_aload_n hx hb dX0_remember_39 rfl (lv_at hl 0 rfl) ?_
    refine g_get (C := RX0) (T := TX0) (N := 3) hx hb hts iwX0_remember_X0 hown hK hP 0 0 rfl rfl rfl 1 (Nat.le_of_ble_eq_true rfl) (hts _ kX0_remember_2) (fun _ h9 => h9) rfl dX0_remember_40 ?_
    refine lv_iconst (v := (1:Int32)) hx hb dX0_remember_43 (by decide) ?_
    refine lv_iadd hx hb dX0_remember_44 ?_
    refine lv_bipush (v := (14:Int32)) hx hb dX0_remember_45 (by decide) ?_
    refine va_mmin hx hb (hml.trans hl.1.symm) hown (hts _ kX0_remember_3) (hts _ kX0_remember_4) (hts _ kX0_remember_5) (hts _ kX0_remember_6) (Nat.le_of_ble_eq_true rfl) (Nat.le_of_ble_eq_true rfl) (Nat.le_of_ble_eq_true rfl) (Nat.le_of_ble_eq_true rfl) dX0_remember_47 ?_
    obtain ⟨x9, ex9, hf⟩ := lt_some hf
    refine lv_nmi ex9 ?_
    obtain ⟨u10, eu10, hf⟩ := lt_some hf
    refine g_put (ty := .int) (C := RX0) (T := TX0) (N := 3) (gs' := [paW G a0 u10, stW G a1 v1]) hx hb hts iwX0_remember_X0 tyX0 tyX0_ok nmX0 hown hK hP hD hS 0 0 rfl rfl rfl 1 (Nat.le_of_ble_eq_true rfl) (hts _ kX0_remember_2) (fun _ h9 => h9) rfl (by decide +kernel) rfl rfl (Nat.le_of_ble_eq_true rfl) dX0_remember_50 (by rw [eu10]; rfl) (fun H locs hP hD hS => ?_)
    cases hf
    exact g_vret hx hb hr hlocks hP hS dX0_remember_53
theorem kX0_takeBack_0 : Cond.fieldLink RX0 22 "SavingsCircle$Past" "next" "I" ∈ wsX0_takeBack := (List.mem_cons_of_mem _ (List.mem_append_left _ (List.mem_append_left _ (List.mem_append_left _ (List.mem_of_getElem? (i := 0) rfl)))))
theorem kX0_takeBack_1 : Cond.fieldLink RX0 18 "SavingsCircle$Past" "size" "I" ∈ wsX0_takeBack := (List.mem_cons_of_mem _ (List.mem_append_left _ (List.mem_append_left _ (List.mem_append_left _ (List.mem_of_getElem? (i := 1) rfl)))))
theorem kX0_takeBack_2 : Cond.fieldLink RX0 11 "SavingsCircle$Past" "states" "[LSavingsCircle$State;" ∈ wsX0_takeBack := (List.mem_cons_of_mem _ (List.mem_append_left _ (List.mem_append_left _ (List.mem_append_left _ (List.mem_of_getElem? (i := 2) rfl)))))
theorem iwX0_takeBack_X0 : ∀ w ∈ wsX00, w ∈ wsX0_takeBack := fun w h => (List.mem_cons_of_mem _ (List.mem_append_left _ (List.mem_append_right _ h)))
set_option maxHeartbeats 4000000 in
set_option maxRecDepth 100000 in
theorem c_X0_takeBack (l : Launch) (G : uG) (a0 : Nat → Nat → Nat) (a1 : Nat → Nat) (v0 : PaV) (v1 : StV) {q : Int32 × (PaV × StV)} (hf : f_X0_takeBack v0 v1 = some q) : mQ l yX0_takeBack wsX0_takeBack ({ frames := 1, cells := 0, slots := 0, locals := 22 } : Room) G [.ref (a0 0 0), .ref (a1 0)] [paW G a0 v0, stW G a1 v1] [paW G a0 q.2.1, stW G a1 q.2.2] (qI G [paW G a0 q.2.1, stW G a1 q.2.2] q.1) := by
  unfold f_X0_takeBack at hf
  refine m_of (cc := cX0_takeBack) (maxL := 2) (ret := (some .int)) (by decide) rfl rfl (Nat.le_of_ble_eq_true rfl) ?_
  intro p e s m args below meth c A ls S hK hA hP hD hS hl
  obtain ⟨hx, hb, hml, hown, hts, hr, hlocks⟩ := id S
  have hl : lv_has ls 2 [(0, .ref (a0 0 0)), (1, .ref (a1 0))] := hl
  refine lv_aload_n hx hb dX0_takeBack_0 rfl (lv_at hl 0 rfl) ?_
  refine lv_aload_n hx hb dX0_takeBack_1 rfl (lv_at hl 0 rfl) ?_
  refine g_get (C := RX0) (T := TX0) (N := 3) hx hb hts iwX0_takeBack_X0 hown hK hP 0 0 rfl rfl rfl 2 (Nat.le_of_ble_eq_true rfl) (hts _ kX0_takeBack_0) (fun _ h9 => h9) rfl dX0_takeBack_2 ?_
  refine lv_if_le (tgt := 17) hx hb dX0_takeBack_5 (by decide) (fun c1 => ?_) (fun c1 => ?_)
  · rw [if_pos c1] at hf
    refine lv_bipush (v := (13:Int32)) hx hb dX0_takeBack_17 (by decide) ?_
    obtain ⟨u2, eu2, hf⟩ := lt_some hf
    refine g_put (ty := .int) (C := RX0) (T := TX0) (N := 3) (gs' := [paW G a0 u2, stW G a1 v1]) hx hb hts iwX0_takeBack_X0 tyX0 tyX0_ok nmX0 hown hK hP hD hS 0 0 rfl rfl rfl 2 (Nat.le_of_ble_eq_true rfl) (hts _ kX0_takeBack_0) (fun _ h9 => h9) rfl (by decide +kernel) rfl rfl (Nat.le_of_ble_eq_true rfl) dX0_takeBack_19 (by rw [eu2]; rfl) (fun H locs hP hD hS => ?_)
    refine lv_aload_n hx hb dX0_takeBack_22 rfl (lv_at hl 0 rfl) ?_
    refine lv_dup hx hb dX0_takeBack_23 rfl ?_
    refine g_get (C := RX0) (T := TX0) (N := 3) hx hb hts iwX0_takeBack_X0 hown hK hP 0 0 rfl rfl rfl 1 (Nat.le_of_ble_eq_true rfl) (hts _ kX0_takeBack_1) (fun _ h9 => h9) rfl dX0_takeBack_24 ?_
    refine lv_iconst (v := (1:Int32)) hx hb dX0_takeBack_27 (by decide) ?_
    refine lv_isub hx hb dX0_takeBack_28 ?_
    obtain ⟨u3, eu3, hf⟩ := lt_some hf
    refine g_put (ty := .int) (C := RX0) (T := TX0) (N := 3) (gs' := [paW G a0 u3, stW G a1 v1]) hx hb hts iwX0_takeBack_X0 tyX0 tyX0_ok nmX0 hown hK hP hD hS 0 0 rfl rfl rfl 1 (Nat.le_of_ble_eq_true rfl) (hts _ kX0_takeBack_1) (fun _ h9 => h9) rfl (by decide +kernel) rfl rfl (Nat.le_of_ble_eq_true rfl) dX0_takeBack_29 (by rw [eu3]; rfl) (fun H locs hP hD hS => ?_)
    refine lv_aload_n hx hb dX0_takeBack_32 rfl (lv_at hl 1 rfl) ?_
    refine lv_aload_n hx hb dX0_takeBack_33 rfl (lv_at hl 0 rfl) ?_
    refine g_get (C := RX0) (T := TX0) (N := 3) hx hb hts iwX0_takeBack_X0 hown hK hP 0 0 rfl rfl rfl 0 (Nat.le_of_ble_eq_true rfl) (hts _ kX0_takeBack_2) (fun _ h9 => h9) rfl dX0_takeBack_34 ?_
    refine lv_aload_n hx hb dX0_takeBack_37 rfl (lv_at hl 0 rfl) ?_
    refine g_get (C := RX0) (T := TX0) (N := 3) hx hb hts iwX0_takeBack_X0 hown hK hP 0 0 rfl rfl rfl 2 (Nat.le_of_ble_eq_true rfl) (hts _ kX0_takeBack_0) (fun _ h9 => h9) rfl dX0_takeBack_38 ?_
    obtain ⟨h4, hf⟩ := gi_some hf
    refine g_aldPa hx hb hK hP 0 rfl h4 dX0_takeBack_41 ?_
    obtain ⟨q5, hq5, hf⟩ := bd_some hf
    refine g_callVv S (As := [.ref (a0 ((Pa_next u3).toNatClampNeg + 1) 0)]) (c_X3_copyFrom l G a1 (a0 ((Pa_next u3).toNatClampNeg + 1)) v1 (Pa_states u3 (Pa_next u3).toNatClampNeg) hq5) (cwV 1 hts gX0_takeBack_X3_copyFrom rfl rfl rfl hd_X3_copyFrom ⟨Nat.le_of_ble_eq_true rfl, Nat.le_of_ble_eq_true rfl⟩) hK (gP_pa.mp hP) (gD_pa.mp hD) hS hA (pa_hC2 (pa_lt h4)) (pa_nd2 (pa_lt h4)) 15 pa_at15 rfl rfl rfl hl.1 rfl (Nat.le_of_ble_eq_true rfl) dX0_takeBack_42 ⟨Nat.le_of_ble_eq_true rfl, Nat.le_of_ble_eq_true rfl⟩ (pa_set2 (pa_lt h4)) (fun H locs hP hD hS => ?_)
    have hP : gP G [paW G a0 u3, stW G a1 q5.2] H := gP_pa.mpr hP
    have hD : gD A [paW G a0 u3, stW G a1 q5.2] := gD_pa.mpr hD
    refine lv_aload_n hx hb dX0_takeBack_45 rfl (lv_at hl 0 rfl) ?_
    refine g_get (C := RX0) (T := TX0) (N := 3) hx hb hts iwX0_takeBack_X0 hown hK hP 0 0 rfl rfl rfl 1 (Nat.le_of_ble_eq_true rfl) (hts _ kX0_takeBack_1) (fun _ h9 => h9) rfl dX0_takeBack_46 ?_
    cases hf
    exact g_iret hx hb hr hlocks hP hS dX0_takeBack_49
  · rw [if_neg c1] at hf
    refine lv_aload_n hx hb dX0_takeBack_8 rfl (lv_at hl 0 rfl) ?_
    refine g_get (C := RX0) (T := TX0) (N := 3) hx hb hts iwX0_takeBack_X0 hown hK hP 0 0 rfl rfl rfl 2 (Nat.le_of_ble_eq_true rfl) (hts _ kX0_takeBack_0) (fun _ h9 => h9) rfl dX0_takeBack_9 ?_
    refine lv_iconst (v := (1:Int32)) hx hb dX0_takeBack_12 (by decide) ?_
    refine lv_isub hx hb dX0_takeBack_13 ?_
    refine lv_goto (tgt := 19) hx hb dX0_takeBack_14 (by decide) ?_
    obtain ⟨u6, eu6, hf⟩ := lt_some hf
    refine g_put (ty := .int) (C := RX0) (T := TX0) (N := 3) (gs' := [paW G a0 u6, stW G a1 v1]) hx hb hts iwX0_takeBack_X0 tyX0 tyX0_ok nmX0 hown hK hP hD hS 0 0 rfl rfl rfl 2 (Nat.le_of_ble_eq_true rfl) (hts _ kX0_takeBack_0) (fun _ h9 => h9) rfl (by decide +kernel) rfl rfl (Nat.le_of_ble_eq_true rfl) dX0_takeBack_19 (by rw [eu6]; rfl) (fun H locs hP hD hS => ?_)
    refine lv_aload_n hx hb dX0_takeBack_22 rfl (lv_at hl 0 rfl) ?_
    refine lv_dup hx hb dX0_takeBack_23 rfl ?_
    refine g_get (C := RX0) (T := TX0) (N := 3) hx hb hts iwX0_takeBack_X0 hown hK hP 0 0 rfl rfl rfl 1 (Nat.le_of_ble_eq_true rfl) (hts _ kX0_takeBack_1) (fun _ h9 => h9) rfl dX0_takeBack_24 ?_
    refine lv_iconst (v := (1:Int32)) hx hb dX0_takeBack_27 (by decide) ?_
    refine lv_isub hx hb dX0_takeBack_28 ?_
    obtain ⟨u7, eu7, hf⟩ := lt_some hf
    refine g_put (ty := .int) (C := RX0) (T := TX0) (N := 3) (gs' := [paW G a0 u7, stW G a1 v1]) hx hb hts iwX0_takeBack_X0 tyX0 tyX0_ok nmX0 hown hK hP hD hS 0 0 rfl rfl rfl 1 (Nat.le_of_ble_eq_true rfl) (hts _ kX0_takeBack_1) (fun _ h9 => h9) rfl (by decide +kernel) rfl rfl (Nat.le_of_ble_eq_true rfl) dX0_takeBack_29 (by rw [eu7]; rfl) (fun H locs hP hD hS => ?_)
    refine lv_aload_n hx hb dX0_takeBack_32 rfl (lv_at hl 1 rfl) ?_
    refine lv_aload_n hx hb dX0_takeBack_33 rfl (lv_at hl 0 rfl) ?_
    refine g_get (C := RX0) (T := TX0) (N := 3) hx hb hts iwX0_takeBack_X0 hown hK hP 0 0 rfl rfl rfl 0 (Nat.le_of_ble_eq_true rfl) (hts _ kX0_takeBack_2) (fun _ h9 => h9) rfl dX0_takeBack_34 ?_
    refine lv_aload_n hx hb dX0_takeBack_37 rfl (lv_at hl 0 rfl) ?_
    refine g_get (C := RX0) (T := TX0) (N := 3) hx hb hts iwX0_takeBack_X0 hown hK hP 0 0 rfl rfl rfl 2 (Nat.le_of_ble_eq_true rfl) (hts _ kX0_takeBack_0) (fun _ h9 => h9) rfl dX0_takeBack_38 ?_
    obtain ⟨h8, hf⟩ := gi_some hf
    refine g_aldPa hx hb hK hP 0 rfl h8 dX0_takeBack_41 ?_
    obtain ⟨q9, hq9, hf⟩ := bd_some hf
    refine g_callVv S (As := [.ref (a0 ((Pa_next u7).toNatClampNeg + 1) 0)]) (c_X3_copyFrom l G a1 (a0 ((Pa_next u7).toNatClampNeg + 1)) v1 (Pa_states u7 (Pa_next u7).toNatClampNeg) hq9) (cwV 1 hts gX0_takeBack_X3_copyFrom rfl rfl rfl hd_X3_copyFrom ⟨Nat.le_of_ble_eq_true rfl, Nat.le_of_ble_eq_true rfl⟩) hK (gP_pa.mp hP) (gD_pa.mp hD) hS hA (pa_hC2 (pa_lt h8)) (pa_nd2 (pa_lt h8)) 15 pa_at15 rfl rfl rfl hl.1 rfl (Nat.le_of_ble_eq_true rfl) dX0_takeBack_42 ⟨Nat.le_of_ble_eq_true rfl, Nat.le_of_ble_eq_true rfl⟩ (pa_set2 (pa_lt h8)) (fun H locs hP hD hS => ?_)
    have hP : gP G [paW G a0 u7, stW G a1 q9.2] H := gP_pa.mpr hP
    have hD : gD A [paW G a0 u7, stW G a1 q9.2] := gD_pa.mpr hD
    refine lv_aload_n hx hb dX0_takeBack_45 rfl (lv_at hl 0 rfl) ?_
    refine g_get (C := RX0) (T := TX0) (N := 3) hx hb hts iwX0_takeBack_X0 hown hK hP 0 0 rfl rfl rfl 1 (Nat.le_of_ble_eq_true rfl) (hts _ kX0_takeBack_1) (fun _ h9 => h9) rfl dX0_takeBack_46 ?_
    cases hf
    exact g_iret hx hb hr hlocks hP hS dX0_takeBack_49
