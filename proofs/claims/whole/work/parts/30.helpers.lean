theorem hd_X5_about : yX5_about.cls = RX5 ∧ yX5_about.cls ≠ "java/lang/invoke/MethodHandle" ∧ yX5_about.cls ≠ "java/lang/invoke/VarHandle" ∧ (parseMethodDescriptor yX5_about.desc).map (fun d => d.parameters.length) = some 1 := by decide +kernel
theorem hd_X5_addMember : yX5_addMember.cls = RX5 ∧ yX5_addMember.cls ≠ "java/lang/invoke/MethodHandle" ∧ yX5_addMember.cls ≠ "java/lang/invoke/VarHandle" ∧ (parseMethodDescriptor yX5_addMember.desc).map (fun d => d.parameters.length) = some 1 := by decide +kernel
theorem hd_X5_append : yX5_append.cls = RX5 ∧ yX5_append.cls ≠ "java/lang/invoke/MethodHandle" ∧ yX5_append.cls ≠ "java/lang/invoke/VarHandle" ∧ (parseMethodDescriptor yX5_append.desc).map (fun d => d.parameters.length) = some 1 := by decide +kernel
theorem hd_X5_bid : yX5_bid.cls = RX5 ∧ yX5_bid.cls ≠ "java/lang/invoke/MethodHandle" ∧ yX5_bid.cls ≠ "java/lang/invoke/VarHandle" ∧ (parseMethodDescriptor yX5_bid.desc).map (fun d => d.parameters.length) = some 2 := by decide +kernel
theorem hd_X5_chain : yX5_chain.cls = RX5 ∧ yX5_chain.cls ≠ "java/lang/invoke/MethodHandle" ∧ yX5_chain.cls ≠ "java/lang/invoke/VarHandle" ∧ (parseMethodDescriptor yX5_chain.desc).map (fun d => d.parameters.length) = some 1 := by decide +kernel
theorem hd_X5_change : yX5_change.cls = RX5 ∧ yX5_change.cls ≠ "java/lang/invoke/MethodHandle" ∧ yX5_change.cls ≠ "java/lang/invoke/VarHandle" ∧ (parseMethodDescriptor yX5_change.desc).map (fun d => d.parameters.length) = some 1 := by decide +kernel
theorem hd_X5_give : yX5_give.cls = RX5 ∧ yX5_give.cls ≠ "java/lang/invoke/MethodHandle" ∧ yX5_give.cls ≠ "java/lang/invoke/VarHandle" ∧ (parseMethodDescriptor yX5_give.desc).map (fun d => d.parameters.length) = some 2 := by decide +kernel
theorem hd_X5_inTheEnd : yX5_inTheEnd.cls = RX5 ∧ yX5_inTheEnd.cls ≠ "java/lang/invoke/MethodHandle" ∧ yX5_inTheEnd.cls ≠ "java/lang/invoke/VarHandle" ∧ (parseMethodDescriptor yX5_inTheEnd.desc).map (fun d => d.parameters.length) = some 1 := by decide +kernel
theorem hd_X5_leastBid : yX5_leastBid.cls = RX5 ∧ yX5_leastBid.cls ≠ "java/lang/invoke/MethodHandle" ∧ yX5_leastBid.cls ≠ "java/lang/invoke/VarHandle" ∧ (parseMethodDescriptor yX5_leastBid.desc).map (fun d => d.parameters.length) = some 1 := by decide +kernel
theorem hd_X5_leave : yX5_leave.cls = RX5 ∧ yX5_leave.cls ≠ "java/lang/invoke/MethodHandle" ∧ yX5_leave.cls ≠ "java/lang/invoke/VarHandle" ∧ (parseMethodDescriptor yX5_leave.desc).map (fun d => d.parameters.length) = some 1 := by decide +kernel
theorem hd_X5_load : yX5_load.cls = RX5 ∧ yX5_load.cls ≠ "java/lang/invoke/MethodHandle" ∧ yX5_load.cls ≠ "java/lang/invoke/VarHandle" ∧ (parseMethodDescriptor yX5_load.desc).map (fun d => d.parameters.length) = some 0 := by decide +kernel
theorem hd_X5_member : yX5_member.cls = RX5 ∧ yX5_member.cls ≠ "java/lang/invoke/MethodHandle" ∧ yX5_member.cls ≠ "java/lang/invoke/VarHandle" ∧ (parseMethodDescriptor yX5_member.desc).map (fun d => d.parameters.length) = some 2 := by decide +kernel
theorem hd_X5_month : yX5_month.cls = RX5 ∧ yX5_month.cls ≠ "java/lang/invoke/MethodHandle" ∧ yX5_month.cls ≠ "java/lang/invoke/VarHandle" ∧ (parseMethodDescriptor yX5_month.desc).map (fun d => d.parameters.length) = some 0 := by decide +kernel
theorem hd_X5_owes : yX5_owes.cls = RX5 ∧ yX5_owes.cls ≠ "java/lang/invoke/MethodHandle" ∧ yX5_owes.cls ≠ "java/lang/invoke/VarHandle" ∧ (parseMethodDescriptor yX5_owes.desc).map (fun d => d.parameters.length) = some 2 := by decide +kernel
theorem hd_X5_rate : yX5_rate.cls = RX5 ∧ yX5_rate.cls ≠ "java/lang/invoke/MethodHandle" ∧ yX5_rate.cls ≠ "java/lang/invoke/VarHandle" ∧ (parseMethodDescriptor yX5_rate.desc).map (fun d => d.parameters.length) = some 1 := by decide +kernel
theorem hd_X5_repay : yX5_repay.cls = RX5 ∧ yX5_repay.cls ≠ "java/lang/invoke/MethodHandle" ∧ yX5_repay.cls ≠ "java/lang/invoke/VarHandle" ∧ (parseMethodDescriptor yX5_repay.desc).map (fun d => d.parameters.length) = some 2 := by decide +kernel
theorem hd_X5_restore : yX5_restore.cls = RX5 ∧ yX5_restore.cls ≠ "java/lang/invoke/MethodHandle" ∧ yX5_restore.cls ≠ "java/lang/invoke/VarHandle" ∧ (parseMethodDescriptor yX5_restore.desc).map (fun d => d.parameters.length) = some 1 := by decide +kernel
theorem hd_X5_runScript : yX5_runScript.cls = RX5 ∧ yX5_runScript.cls ≠ "java/lang/invoke/MethodHandle" ∧ yX5_runScript.cls ≠ "java/lang/invoke/VarHandle" ∧ (parseMethodDescriptor yX5_runScript.desc).map (fun d => d.parameters.length) = some 2 := by decide +kernel
theorem hd_X5_save : yX5_save.cls = RX5 ∧ yX5_save.cls ≠ "java/lang/invoke/MethodHandle" ∧ yX5_save.cls ≠ "java/lang/invoke/VarHandle" ∧ (parseMethodDescriptor yX5_save.desc).map (fun d => d.parameters.length) = some 1 := by decide +kernel
theorem hd_X5_setContribution : yX5_setContribution.cls = RX5 ∧ yX5_setContribution.cls ≠ "java/lang/invoke/MethodHandle" ∧ yX5_setContribution.cls ≠ "java/lang/invoke/VarHandle" ∧ (parseMethodDescriptor yX5_setContribution.desc).map (fun d => d.parameters.length) = some 1 := by decide +kernel
theorem hd_X5_setGuarantor : yX5_setGuarantor.cls = RX5 ∧ yX5_setGuarantor.cls ≠ "java/lang/invoke/MethodHandle" ∧ yX5_setGuarantor.cls ≠ "java/lang/invoke/VarHandle" ∧ (parseMethodDescriptor yX5_setGuarantor.desc).map (fun d => d.parameters.length) = some 2 := by decide +kernel
theorem hd_X5_simulate : yX5_simulate.cls = RX5 ∧ yX5_simulate.cls ≠ "java/lang/invoke/MethodHandle" ∧ yX5_simulate.cls ≠ "java/lang/invoke/VarHandle" ∧ (parseMethodDescriptor yX5_simulate.desc).map (fun d => d.parameters.length) = some 2 := by decide +kernel
theorem hd_X5_stayAway : yX5_stayAway.cls = RX5 ∧ yX5_stayAway.cls ≠ "java/lang/invoke/MethodHandle" ∧ yX5_stayAway.cls ≠ "java/lang/invoke/VarHandle" ∧ (parseMethodDescriptor yX5_stayAway.desc).map (fun d => d.parameters.length) = some 2 := by decide +kernel
theorem hd_X5_undo : yX5_undo.cls = RX5 ∧ yX5_undo.cls ≠ "java/lang/invoke/MethodHandle" ∧ yX5_undo.cls ≠ "java/lang/invoke/VarHandle" ∧ (parseMethodDescriptor yX5_undo.desc).map (fun d => d.parameters.length) = some 0 := by decide +kernel
theorem hd_X5_when : yX5_when.cls = RX5 ∧ yX5_when.cls ≠ "java/lang/invoke/MethodHandle" ∧ yX5_when.cls ≠ "java/lang/invoke/VarHandle" ∧ (parseMethodDescriptor yX5_when.desc).map (fun d => d.parameters.length) = some 1 := by decide +kernel
theorem kL_append_0 : Cond.classLink RL 13 "java/lang/IllegalArgumentException" ∈ wsL_append := (List.mem_cons_of_mem _ (List.mem_append_left _ (List.mem_append_left _ (List.mem_append_left _ (List.mem_append_left _ (List.mem_of_getElem? (i := 0) rfl))))))
theorem kL_append_1 : Cond.classLink RL 15 "java/lang/IllegalStateException" ∈ wsL_append := (List.mem_cons_of_mem _ (List.mem_append_left _ (List.mem_append_left _ (List.mem_append_left _ (List.mem_append_left _ (List.mem_of_getElem? (i := 1) rfl))))))
set_option maxHeartbeats 4000000 in
set_option maxRecDepth 100000 in
theorem c_L_append (l : Launch) (hl0 : l.stackTraces = false) (G : uG) (a0 : Nat → Nat) (a1 : Nat → Nat) (a2 : Nat → Nat) (a3 : Nat → Nat) (a4 : Nat → Nat) (a5 : Nat → Nat) (a6 : Nat → Nat) (a7 : Nat → Nat → Nat) (a8 : Nat → Nat) (a9 : Nat → Nat) (a10 : Nat → Nat) (a11 : Nat → Nat) (a12 : Nat → Nat) (v8 : TxV) (v12 : OuV) (i1 : Int32) {q : Int32 × (TxV × OuV)} (hf : f_L_append v8 v12 i1 = some q) : mH l yL_append wsL_append ({ frames := 8, cells := 2, slots := 12, locals := 135 } : Room) G [.ref (a0 0), .int i1, .ref (a12 0)] [maW a0 (a1 0) (a2 0) (a3 0) (a4 0) (a7 0 0) (a8 0) (a9 0) (a9 1), txW G a8 v8, ouW G a12 v12] [maW a0 (a1 0) (a2 0) (a3 0) (a4 0) (a7 0 0) (a8 0) (a9 0) (a9 1), txW G a8 q.2.1, ouW G a12 q.2.2] (qI G [maW a0 (a1 0) (a2 0) (a3 0) (a4 0) (a7 0 0) (a8 0) (a9 0) (a9 1), txW G a8 q.2.1, ouW G a12 q.2.2] q.1) 2 12 := by
  unfold f_L_append at hf
  refine mH_of (cc := cL_append) (maxL := 4) (ret := (some .int)) (hh := [(0, 9, 12, 13), (0, 9, 15, 15)]) (by decide) rfl rfl (Nat.le_of_ble_eq_true rfl) ?_
  intro p e s m args below meth c A ls S hK hA hex hTH hP hD hS hl
  obtain ⟨hx, hb, hml, hown, hts, hr, hlocks⟩ := id S
  have hl : lv_has ls 4 [(0, .ref (a0 0)), (1, .int i1), (2, .ref (a12 0))] := hl
  refine lv_aload_n hx hb dL_append_0 rfl (lv_at hl 2 rfl) ?_
  refine lv_iconst (v := (0:Int32)) hx hb dL_append_1 (by decide) ?_
  refine lv_aload_n hx hb dL_append_2 rfl (lv_at hl 0 rfl) ?_
  refine lv_iload_n hx hb dL_append_3 rfl (lv_at hl 1 rfl) ?_
  obtain ⟨q1, hq1, hf⟩ := bh_some hf
  refine g_callXVi S (cells' := 2) (slots' := 12) (As := [.int i1]) (c_X5_append l hl0 G a0 a1 a2 a3 a4 a5 a6 a7 a8 a9 a10 a11 v8 i1 hq1) (cwV 1 hts gL_append_X5_append rfl rfl rfl hd_X5_append ⟨Nat.le_of_ble_eq_true rfl, Nat.le_of_ble_eq_true rfl⟩) hTH hK hP hD hS hA (is := [0, 1]) rfl rfl 0 rfl rfl rfl rfl hl.1 rfl (Nat.le_of_ble_eq_true rfl) dL_append_4 ⟨Nat.le_of_ble_eq_true rfl, Nat.le_of_ble_eq_true rfl⟩ rfl rfl (fun x u ho H locs hP hD hS => ?_) (fun E u ho ce q9 H locs hP hD hS hce hcv hcl => ?_)
  · obtain ⟨r2, rfl, rfl, rfl⟩ := om_l ho
    have hf := bhe_l hf
    have hP : gP G [maW a0 (a1 0) (a2 0) (a3 0) (a4 0) (a7 0 0) (a8 0) (a9 0) (a9 1), txW G a8 r2.2, ouW G a12 v12] H := hP
    have hD : gD A [maW a0 (a1 0) (a2 0) (a3 0) (a4 0) (a7 0 0) (a8 0) (a9 0) (a9 1), txW G a8 r2.2, ouW G a12 v12] := hD
    refine lv_i2l (v := r2.1.toInt64) hx hb dL_append_7 rfl ?_
    obtain ⟨h4, hf⟩ := gi_some hf
    obtain ⟨u5, eu5, hf⟩ := lt_some hf
    refine g_last (gs' := [maW a0 (a1 0) (a2 0) (a3 0) (a4 0) (a7 0 0) (a8 0) (a9 0) (a9 1), txW G a8 r2.2, ouW G a12 u5]) hx hb hK hP hD hS 2 0 3 rfl rfl rfl h4 dL_append_8 (by rw [eu5]; rfl) (fun H locs hP hD hS => ?_)
    refine lv_goto (tgt := 18) hx hb dL_append_9 (by decide) ?_
    refine lv_iconst (v := (0:Int32)) hx hb dL_append_18 (by decide) ?_
    cases hf
    exact g_hret hx hb hr hlocks (Nat.le_of_ble_eq_true rfl) (Nat.le_of_ble_eq_true rfl) hP hS dL_append_19
  · obtain ⟨r3, rfl, rfl, rfl⟩ := om_r ho
    have hf := bhe_r hf
    have hP : gP G [maW a0 (a1 0) (a2 0) (a3 0) (a4 0) (a7 0 0) (a8 0) (a9 0) (a9 1), txW G a8 r3.2, ouW G a12 v12] H := hP
    have hD : gD A [maW a0 (a1 0) (a2 0) (a3 0) (a4 0) (a7 0 0) (a8 0) (a9 0) (a9 1), txW G a8 r3.2, ouW G a12 v12] := hD
    by_cases c6 : r3.1 = "java/lang/IllegalArgumentException"
    · rw [if_pos c6] at hf
      rw [c6] at hcl
      refine vx_catch (name := "java/lang/IllegalArgumentException") hown [] ⟨0, 9, 12, 13⟩ [⟨0, 9, 15, 15⟩] (by rw [hex]; rfl) (fun z hz => absurd hz List.not_mem_nil) (by decide) (by decide) (hts _ kL_append_0) (ng_use rfl (hTH.2.2.2.2 _ vc_IllegalArgumentException)) hce hcv hcl ?_
      refine lv_astore_n (lv' := [(3, .ref q9), (0, .ref (a0 0)), (1, .int i1), (2, .ref (a12 0))]) hx hb dL_append_12 rfl hl (by decide) rfl (fun ls hl => ?_)
      refine lv_iconst (v := (1:Int32)) hx hb dL_append_13 (by decide) ?_
      cases hf
      exact g_hret hx hb hr hlocks (Nat.le_of_ble_eq_true rfl) (Nat.le_of_ble_eq_true rfl) hP hS dL_append_14
    · rw [if_neg c6] at hf
      by_cases c7 : r3.1 = "java/lang/IllegalStateException"
      · rw [if_pos c7] at hf
        rw [c7] at hcl
        refine vx_catch (name := "java/lang/IllegalStateException") hown [⟨0, 9, 12, 13⟩] ⟨0, 9, 15, 15⟩ [] (by rw [hex]; rfl) (List.forall_mem_cons.mpr ⟨Or.inr ⟨by decide, "java/lang/IllegalArgumentException", (hts _ kL_append_0), hTH.2.2.2.1 _ (List.mem_of_getElem? (i := 0) rfl)⟩, (fun z hz => absurd hz List.not_mem_nil)⟩) (by decide) (by decide) (hts _ kL_append_1) (ng_use rfl (hTH.2.2.2.2 _ vc_IllegalStateException)) hce hcv hcl ?_
        refine lv_astore_n (lv' := [(3, .ref q9), (0, .ref (a0 0)), (1, .int i1), (2, .ref (a12 0))]) hx hb dL_append_15 rfl hl (by decide) rfl (fun ls hl => ?_)
        refine lv_iconst (v := (2:Int32)) hx hb dL_append_16 (by decide) ?_
        cases hf
        exact g_hret hx hb hr hlocks (Nat.le_of_ble_eq_true rfl) (Nat.le_of_ble_eq_true rfl) hP hS dL_append_17
      · rw [if_neg c7] at hf
        cases hf
theorem kL_load_0 : Cond.classLink RL 15 "java/lang/IllegalStateException" ∈ wsL_load := (List.mem_cons_of_mem _ (List.mem_append_left _ (List.mem_append_left _ (List.mem_append_left _ (List.mem_append_left _ (List.mem_append_left _ (List.mem_append_left _ (List.mem_of_getElem? (i := 0) rfl))))))))
set_option maxHeartbeats 4000000 in
set_option maxRecDepth 100000 in
theorem c_L_load (l : Launch) (hl0 : l.stackTraces = false) (G : uG) (a0 : Nat → Nat) (a1 : Nat → Nat) (a2 : Nat → Nat) (a3 : Nat → Nat) (a4 : Nat → Nat) (a5 : Nat → Nat) (a6 : Nat → Nat) (a7 : Nat → Nat → Nat) (a8 : Nat → Nat) (a9 : Nat → Nat) (a10 : Nat → Nat) (a11 : Nat → Nat) (a12 : Nat → Nat) (v1 : StV) (v2 : StV) (v7 : PaV) (v8 : TxV) (v9 : SlV) (v12 : OuV) {q : Int32 × (StV × StV × PaV × TxV × SlV × OuV)} (hf : f_L_load v1 v2 v7 v8 v9 v12 = some q) : mH l yL_load wsL_load ({ frames := 7, cells := 1, slots := 6, locals := 156 } : Room) G [.ref (a0 0), .ref (a12 0)] [maW a0 (a1 0) (a2 0) (a3 0) (a4 0) (a7 0 0) (a8 0) (a9 0) (a9 1), stW G a1 v1, stW G a2 v2, paW G a7 v7, txW G a8 v8, slW G a9 (a10 0) (a11 0) v9, ouW G a12 v12] [maW a0 (a1 0) (a2 0) (a3 0) (a4 0) (a7 0 0) (a8 0) (a9 0) (a9 1), stW G a1 q.2.1, stW G a2 q.2.2.1, paW G a7 q.2.2.2.1, txW G a8 q.2.2.2.2.1, slW G a9 (a10 0) (a11 0) q.2.2.2.2.2.1, ouW G a12 q.2.2.2.2.2.2] (qI G [maW a0 (a1 0) (a2 0) (a3 0) (a4 0) (a7 0 0) (a8 0) (a9 0) (a9 1), stW G a1 q.2.1, stW G a2 q.2.2.1, paW G a7 q.2.2.2.1, txW G a8 q.2.2.2.2.1, slW G a9 (a10 0) (a11 0) q.2.2.2.2.2.1, ouW G a12 q.2.2.2.2.2.2] q.1) 1 6 := by
  unfold f_L_load at hf
  refine mH_of (cc := cL_load) (maxL := 3) (ret := (some .int)) (hh := [(0, 8, 11, 15)]) (by decide) rfl rfl (Nat.le_of_ble_eq_true rfl) ?_
  intro p e s m args below meth c A ls S hK hA hex hTH hP hD hS hl
  obtain ⟨hx, hb, hml, hown, hts, hr, hlocks⟩ := id S
  have hl : lv_has ls 3 [(0, .ref (a0 0)), (1, .ref (a12 0))] := hl
  refine lv_aload_n hx hb dL_load_0 rfl (lv_at hl 1 rfl) ?_
  refine lv_iconst (v := (0:Int32)) hx hb dL_load_1 (by decide) ?_
  refine lv_aload_n hx hb dL_load_2 rfl (lv_at hl 0 rfl) ?_
  obtain ⟨q1, hq1, hf⟩ := bh_some hf
  refine g_callXVi S (cells' := 1) (slots' := 6) (As := []) (c_X5_load l hl0 G a0 a1 a2 a3 a4 a5 a6 a7 a8 a9 a10 a11 v1 v2 v7 v8 v9 hq1) (cwV 0 hts gL_load_X5_load rfl rfl rfl hd_X5_load ⟨Nat.le_of_ble_eq_true rfl, Nat.le_of_ble_eq_true rfl⟩) hTH hK hP hD hS hA (is := [0, 1, 2, 3, 4, 5]) rfl rfl 0 rfl rfl rfl rfl hl.1 rfl (Nat.le_of_ble_eq_true rfl) dL_load_3 ⟨Nat.le_of_ble_eq_true rfl, Nat.le_of_ble_eq_true rfl⟩ rfl rfl (fun x u ho H locs hP hD hS => ?_) (fun E u ho ce q9 H locs hP hD hS hce hcv hcl => ?_)
  · obtain ⟨r2, rfl, rfl, rfl⟩ := om_l ho
    have hf := bhe_l hf
    have hP : gP G [maW a0 (a1 0) (a2 0) (a3 0) (a4 0) (a7 0 0) (a8 0) (a9 0) (a9 1), stW G a1 r2.2.1, stW G a2 r2.2.2.1, paW G a7 r2.2.2.2.1, txW G a8 r2.2.2.2.2.1, slW G a9 (a10 0) (a11 0) r2.2.2.2.2.2, ouW G a12 v12] H := hP
    have hD : gD A [maW a0 (a1 0) (a2 0) (a3 0) (a4 0) (a7 0 0) (a8 0) (a9 0) (a9 1), stW G a1 r2.2.1, stW G a2 r2.2.2.1, paW G a7 r2.2.2.2.1, txW G a8 r2.2.2.2.2.1, slW G a9 (a10 0) (a11 0) r2.2.2.2.2.2, ouW G a12 v12] := hD
    refine lv_i2l (v := r2.1.toInt64) hx hb dL_load_6 rfl ?_
    obtain ⟨h4, hf⟩ := gi_some hf
    obtain ⟨u5, eu5, hf⟩ := lt_some hf
    refine g_last (gs' := [maW a0 (a1 0) (a2 0) (a3 0) (a4 0) (a7 0 0) (a8 0) (a9 0) (a9 1), stW G a1 r2.2.1, stW G a2 r2.2.2.1, paW G a7 r2.2.2.2.1, txW G a8 r2.2.2.2.2.1, slW G a9 (a10 0) (a11 0) r2.2.2.2.2.2, ouW G a12 u5]) hx hb hK hP hD hS 6 0 3 rfl rfl rfl h4 dL_load_7 (by rw [eu5]; rfl) (fun H locs hP hD hS => ?_)
    refine lv_goto (tgt := 14) hx hb dL_load_8 (by decide) ?_
    refine lv_iconst (v := (0:Int32)) hx hb dL_load_14 (by decide) ?_
    cases hf
    exact g_hret hx hb hr hlocks (Nat.le_of_ble_eq_true rfl) (Nat.le_of_ble_eq_true rfl) hP hS dL_load_15
  · obtain ⟨r3, rfl, rfl, rfl⟩ := om_r ho
    have hf := bhe_r hf
    have hP : gP G [maW a0 (a1 0) (a2 0) (a3 0) (a4 0) (a7 0 0) (a8 0) (a9 0) (a9 1), stW G a1 r3.2.1, stW G a2 r3.2.2.1, paW G a7 r3.2.2.2.1, txW G a8 r3.2.2.2.2.1, slW G a9 (a10 0) (a11 0) r3.2.2.2.2.2, ouW G a12 v12] H := hP
    have hD : gD A [maW a0 (a1 0) (a2 0) (a3 0) (a4 0) (a7 0 0) (a8 0) (a9 0) (a9 1), stW G a1 r3.2.1, stW G a2 r3.2.2.1, paW G a7 r3.2.2.2.1, txW G a8 r3.2.2.2.2.1, slW G a9 (a10 0) (a11 0) r3.2.2.2.2.2, ouW G a12 v12] := hD
    by_cases c6 : r3.1 = "java/lang/IllegalStateException"
    · rw [if_pos c6] at hf
      rw [c6] at hcl
      refine vx_catch (name := "java/lang/IllegalStateException") hown [] ⟨0, 8, 11, 15⟩ [] (by rw [hex]; rfl) (fun z hz => absurd hz List.not_mem_nil) (by decide) (by decide) (hts _ kL_load_0) (ng_use rfl (hTH.2.2.2.2 _ vc_IllegalStateException)) hce hcv hcl ?_
      refine lv_astore_n (lv' := [(2, .ref q9), (0, .ref (a0 0)), (1, .ref (a12 0))]) hx hb dL_load_11 rfl hl (by decide) rfl (fun ls hl => ?_)
      refine lv_iconst (v := (1:Int32)) hx hb dL_load_12 (by decide) ?_
      cases hf
      exact g_hret hx hb hr hlocks (Nat.le_of_ble_eq_true rfl) (Nat.le_of_ble_eq_true rfl) hP hS dL_load_13
    · rw [if_neg c6] at hf
      cases hf
theorem kL_about_0 : Cond.classLink RL 13 "java/lang/IllegalArgumentException" ∈ wsL_about := (List.mem_cons_of_mem _ (List.mem_append_left _ (List.mem_append_left _ (List.mem_append_left _ (List.mem_append_left _ (List.mem_of_getElem? (i := 0) rfl))))))
set_option maxHeartbeats 4000000 in
set_option maxRecDepth 100000 in
theorem c_L_about (l : Launch) (hl0 : l.stackTraces = false) (G : uG) (a0 : Nat → Nat) (a1 : Nat → Nat) (a2 : Nat → Nat) (a3 : Nat → Nat) (a4 : Nat → Nat) (a5 : Nat → Nat) (a6 : Nat → Nat) (a7 : Nat → Nat → Nat) (a8 : Nat → Nat) (a9 : Nat → Nat) (a10 : Nat → Nat) (a11 : Nat → Nat) (a12 : Nat → Nat) (v1 : StV) (v12 : OuV) (i1 : Int32) {q : Int32 × (OuV)} (hf : f_L_about v1 v12 i1 = some q) : mH l yL_about wsL_about ({ frames := 7, cells := 1, slots := 6, locals := 113 } : Room) G [.ref (a0 0), .int i1, .ref (a12 0)] [maW a0 (a1 0) (a2 0) (a3 0) (a4 0) (a7 0 0) (a8 0) (a9 0) (a9 1), stW G a1 v1, ouW G a12 v12] [maW a0 (a1 0) (a2 0) (a3 0) (a4 0) (a7 0 0) (a8 0) (a9 0) (a9 1), stW G a1 v1, ouW G a12 q.2] (qI G [maW a0 (a1 0) (a2 0) (a3 0) (a4 0) (a7 0 0) (a8 0) (a9 0) (a9 1), stW G a1 v1, ouW G a12 q.2] q.1) 1 6 := by
  unfold f_L_about at hf
  refine mH_of (cc := cL_about) (maxL := 4) (ret := (some .int)) (hh := [(0, 9, 12, 13)]) (by decide) rfl rfl (Nat.le_of_ble_eq_true rfl) ?_
  intro p e s m args below meth c A ls S hK hA hex hTH hP hD hS hl
  obtain ⟨hx, hb, hml, hown, hts, hr, hlocks⟩ := id S
  have hl : lv_has ls 4 [(0, .ref (a0 0)), (1, .int i1), (2, .ref (a12 0))] := hl
  refine lv_aload_n hx hb dL_about_0 rfl (lv_at hl 2 rfl) ?_
  refine lv_iconst (v := (0:Int32)) hx hb dL_about_1 (by decide) ?_
  refine lv_aload_n hx hb dL_about_2 rfl (lv_at hl 0 rfl) ?_
  refine lv_iload_n hx hb dL_about_3 rfl (lv_at hl 1 rfl) ?_
  obtain ⟨q1, hq1, hf⟩ := bh_some hf
  refine g_callXVi S (cells' := 1) (slots' := 6) (As := [.int i1]) (c_X5_about l hl0 G a0 a1 a2 a3 a4 a5 a6 a7 a8 a9 a10 a11 v1 i1 hq1) (cwV 1 hts gL_about_X5_about rfl rfl rfl hd_X5_about ⟨Nat.le_of_ble_eq_true rfl, Nat.le_of_ble_eq_true rfl⟩) hTH hK hP hD hS hA (is := [0, 1]) rfl rfl 0 rfl rfl rfl rfl hl.1 rfl (Nat.le_of_ble_eq_true rfl) dL_about_4 ⟨Nat.le_of_ble_eq_true rfl, Nat.le_of_ble_eq_true rfl⟩ rfl rfl (fun x u ho H locs hP hD hS => ?_) (fun E u ho ce q9 H locs hP hD hS hce hcv hcl => ?_)
  · obtain ⟨r2, rfl, rfl, rfl⟩ := om_l ho
    have hf := bhe_l hf
    have hP : gP G [maW a0 (a1 0) (a2 0) (a3 0) (a4 0) (a7 0 0) (a8 0) (a9 0) (a9 1), stW G a1 v1, ouW G a12 v12] H := hP
    have hD : gD A [maW a0 (a1 0) (a2 0) (a3 0) (a4 0) (a7 0 0) (a8 0) (a9 0) (a9 1), stW G a1 v1, ouW G a12 v12] := hD
    refine lv_i2l (v := r2.1.toInt64) hx hb dL_about_7 rfl ?_
    obtain ⟨h4, hf⟩ := gi_some hf
    obtain ⟨u5, eu5, hf⟩ := lt_some hf
    refine g_last (gs' := [maW a0 (a1 0) (a2 0) (a3 0) (a4 0) (a7 0 0) (a8 0) (a9 0) (a9 1), stW G a1 v1, ouW G a12 u5]) hx hb hK hP hD hS 2 0 3 rfl rfl rfl h4 dL_about_8 (by rw [eu5]; rfl) (fun H locs hP hD hS => ?_)
    refine lv_goto (tgt := 15) hx hb dL_about_9 (by decide) ?_
    refine lv_iconst (v := (0:Int32)) hx hb dL_about_15 (by decide) ?_
    cases hf
    exact g_hret hx hb hr hlocks (Nat.le_of_ble_eq_true rfl) (Nat.le_of_ble_eq_true rfl) hP hS dL_about_16
  · obtain ⟨r3, rfl, rfl, rfl⟩ := om_r ho
    have hf := bhe_r hf
    have hP : gP G [maW a0 (a1 0) (a2 0) (a3 0) (a4 0) (a7 0 0) (a8 0) (a9 0) (a9 1), stW G a1 v1, ouW G a12 v12] H := hP
    have hD : gD A [maW a0 (a1 0) (a2 0) (a3 0) (a4 0) (a7 0 0) (a8 0) (a9 0) (a9 1), stW G a1 v1, ouW G a12 v12] := hD
    by_cases c6 : r3.1 = "java/lang/IllegalArgumentException"
    · rw [if_pos c6] at hf
      rw [c6] at hcl
      refine vx_catch (name := "java/lang/IllegalArgumentException") hown [] ⟨0, 9, 12, 13⟩ [] (by rw [hex]; rfl) (fun z hz => absurd hz List.not_mem_nil) (by decide) (by decide) (hts _ kL_about_0) (ng_use rfl (hTH.2.2.2.2 _ vc_IllegalArgumentException)) hce hcv hcl ?_
      refine lv_astore_n (lv' := [(3, .ref q9), (0, .ref (a0 0)), (1, .int i1), (2, .ref (a12 0))]) hx hb dL_about_12 rfl hl (by decide) rfl (fun ls hl => ?_)
      refine lv_iconst (v := (1:Int32)) hx hb dL_about_13 (by decide) ?_
      cases hf
      exact g_hret hx hb hr hlocks (Nat.le_of_ble_eq_true rfl) (Nat.le_of_ble_eq_true rfl) hP hS dL_about_14
    · rw [if_neg c6] at hf
      cases hf
theorem kL_member_0 : Cond.classLink RL 28 "java/lang/IndexOutOfBoundsException" ∈ wsL_member := (List.mem_cons_of_mem _ (List.mem_append_left _ (List.mem_append_left _ (List.mem_append_left _ (List.mem_append_left _ (List.mem_append_left _ (List.mem_of_getElem? (i := 0) rfl)))))))
theorem kL_member_1 : Cond.classLink RL 13 "java/lang/IllegalArgumentException" ∈ wsL_member := (List.mem_cons_of_mem _ (List.mem_append_left _ (List.mem_append_left _ (List.mem_append_left _ (List.mem_append_left _ (List.mem_append_left _ (List.mem_of_getElem? (i := 1) rfl)))))))
set_option maxHeartbeats 4000000 in
set_option maxRecDepth 100000 in
theorem c_L_member (l : Launch) (hl0 : l.stackTraces = false) (G : uG) (a0 : Nat → Nat) (a1 : Nat → Nat) (a2 : Nat → Nat) (a3 : Nat → Nat) (a4 : Nat → Nat) (a5 : Nat → Nat) (a6 : Nat → Nat) (a7 : Nat → Nat → Nat) (a8 : Nat → Nat) (a9 : Nat → Nat) (a10 : Nat → Nat) (a11 : Nat → Nat) (a12 : Nat → Nat) (v1 : StV) (v12 : OuV) (i1 : Int32) (i2 : Int32) {q : Int32 × (OuV)} (hf : f_L_member v1 v12 i1 i2 = some q) : mH l yL_member wsL_member ({ frames := 8, cells := 2, slots := 12, locals := 135 } : Room) G [.ref (a0 0), .int i1, .int i2, .ref (a12 0)] [maW a0 (a1 0) (a2 0) (a3 0) (a4 0) (a7 0 0) (a8 0) (a9 0) (a9 1), stW G a1 v1, ouW G a12 v12] [maW a0 (a1 0) (a2 0) (a3 0) (a4 0) (a7 0 0) (a8 0) (a9 0) (a9 1), stW G a1 v1, ouW G a12 q.2] (qI G [maW a0 (a1 0) (a2 0) (a3 0) (a4 0) (a7 0 0) (a8 0) (a9 0) (a9 1), stW G a1 v1, ouW G a12 q.2] q.1) 2 12 := by
  unfold f_L_member at hf
  refine mH_of (cc := cL_member) (maxL := 5) (ret := (some .int)) (hh := [(0, 10, 13, 28), (0, 10, 17, 13)]) (by decide) rfl rfl (Nat.le_of_ble_eq_true rfl) ?_
  intro p e s m args below meth c A ls S hK hA hex hTH hP hD hS hl
  obtain ⟨hx, hb, hml, hown, hts, hr, hlocks⟩ := id S
  have hl : lv_has ls 5 [(0, .ref (a0 0)), (1, .int i1), (2, .int i2), (3, .ref (a12 0))] := hl
  refine lv_aload_n hx hb dL_member_0 rfl (lv_at hl 3 rfl) ?_
  refine lv_iconst (v := (0:Int32)) hx hb dL_member_1 (by decide) ?_
  refine lv_aload_n hx hb dL_member_2 rfl (lv_at hl 0 rfl) ?_
  refine lv_iload_n hx hb dL_member_3 rfl (lv_at hl 1 rfl) ?_
  refine lv_iload_n hx hb dL_member_4 rfl (lv_at hl 2 rfl) ?_
  obtain ⟨q1, hq1, hf⟩ := bh_some hf
  refine g_callXVi S (cells' := 2) (slots' := 12) (As := [.int i1, .int i2]) (c_X5_member l hl0 G a0 a1 a2 a3 a4 a5 a6 a7 a8 a9 a10 a11 v1 i1 i2 hq1) (cwV 2 hts gL_member_X5_member rfl rfl rfl hd_X5_member ⟨Nat.le_of_ble_eq_true rfl, Nat.le_of_ble_eq_true rfl⟩) hTH hK hP hD hS hA (is := [0, 1]) rfl rfl 0 rfl rfl rfl rfl hl.1 rfl (Nat.le_of_ble_eq_true rfl) dL_member_5 ⟨Nat.le_of_ble_eq_true rfl, Nat.le_of_ble_eq_true rfl⟩ rfl rfl (fun x u ho H locs hP hD hS => ?_) (fun E u ho ce q9 H locs hP hD hS hce hcv hcl => ?_)
  · obtain ⟨r2, rfl, rfl, rfl⟩ := om_l ho
    have hf := bhe_l hf
    have hP : gP G [maW a0 (a1 0) (a2 0) (a3 0) (a4 0) (a7 0 0) (a8 0) (a9 0) (a9 1), stW G a1 v1, ouW G a12 v12] H := hP
    have hD : gD A [maW a0 (a1 0) (a2 0) (a3 0) (a4 0) (a7 0 0) (a8 0) (a9 0) (a9 1), stW G a1 v1, ouW G a12 v12] := hD
    refine lv_i2l (v := r2.1.toInt64) hx hb dL_member_8 rfl ?_
    obtain ⟨h4, hf⟩ := gi_some hf
    obtain ⟨u5, eu5, hf⟩ := lt_some hf
    refine g_last (gs' := [maW a0 (a1 0) (a2 0) (a3 0) (a4 0) (a7 0 0) (a8 0) (a9 0) (a9 1), stW G a1 v1, ouW G a12 u5]) hx hb hK hP hD hS 2 0 3 rfl rfl rfl h4 dL_member_9 (by rw [eu5]; rfl) (fun H locs hP hD hS => ?_)
    refine lv_goto (tgt := 21) hx hb dL_member_10 (by decide) ?_
    refine lv_iconst (v := (0:Int32)) hx hb dL_member_21 (by decide) ?_
    cases hf
    exact g_hret hx hb hr hlocks (Nat.le_of_ble_eq_true rfl) (Nat.le_of_ble_eq_true rfl) hP hS dL_member_22
  · obtain ⟨r3, rfl, rfl, rfl⟩ := om_r ho
    have hf := bhe_r hf
    have hP : gP G [maW a0 (a1 0) (a2 0) (a3 0) (a4 0) (a7 0 0) (a8 0) (a9 0) (a9 1), stW G a1 v1, ouW G a12 v12] H := hP
    have hD : gD A [maW a0 (a1 0) (a2 0) (a3 0) (a4 0) (a7 0 0) (a8 0) (a9 0) (a9 1), stW G a1 v1, ouW G a12 v12] := hD
    by_cases c6 : r3.1 = "java/lang/IndexOutOfBoundsException"
    · rw [if_pos c6] at hf
      rw [c6] at hcl
      refine vx_catch (name := "java/lang/IndexOutOfBoundsException") hown [] ⟨0, 10, 13, 28⟩ [⟨0, 10, 17, 13⟩] (by rw [hex]; rfl) (fun z hz => absurd hz List.not_mem_nil) (by decide) (by decide) (hts _ kL_member_0) (ng_use rfl (hTH.2.2.2.2 _ vc_IndexOutOfBoundsException)) hce hcv hcl ?_
      refine lv_astore (lv' := [(4, .ref q9), (0, .ref (a0 0)), (1, .int i1), (2, .int i2), (3, .ref (a12 0))]) hx hb dL_member_13 hl (by decide) rfl (fun ls hl => ?_)
      refine lv_iconst (v := (1:Int32)) hx hb dL_member_15 (by decide) ?_
      cases hf
      exact g_hret hx hb hr hlocks (Nat.le_of_ble_eq_true rfl) (Nat.le_of_ble_eq_true rfl) hP hS dL_member_16
    · rw [if_neg c6] at hf
      by_cases c7 : r3.1 = "java/lang/IllegalArgumentException"
      · rw [if_pos c7] at hf
        rw [c7] at hcl
        refine vx_catch (name := "java/lang/IllegalArgumentException") hown [⟨0, 10, 13, 28⟩] ⟨0, 10, 17, 13⟩ [] (by rw [hex]; rfl) (List.forall_mem_cons.mpr ⟨Or.inr ⟨by decide, "java/lang/IndexOutOfBoundsException", (hts _ kL_member_0), hTH.2.2.2.1 _ (List.mem_of_getElem? (i := 3) rfl)⟩, (fun z hz => absurd hz List.not_mem_nil)⟩) (by decide) (by decide) (hts _ kL_member_1) (ng_use rfl (hTH.2.2.2.2 _ vc_IllegalArgumentException)) hce hcv hcl ?_
        refine lv_astore (lv' := [(4, .ref q9), (0, .ref (a0 0)), (1, .int i1), (2, .int i2), (3, .ref (a12 0))]) hx hb dL_member_17 hl (by decide) rfl (fun ls hl => ?_)
        refine lv_iconst (v := (2:Int32)) hx hb dL_member_19 (by decide) ?_
        cases hf
        exact g_hret hx hb hr hlocks (Nat.le_of_ble_eq_true rfl) (Nat.le_of_ble_eq_true rfl) hP hS dL_member_20
      · rw [if_neg c7] at hf
        cases hf
theorem kL_owes_0 : Cond.classLink RL 28 "java/lang/IndexOutOfBoundsException" ∈ wsL_owes := (List.mem_cons_of_mem _ (List.mem_append_left _ (List.mem_append_left _ (List.mem_append_left _ (List.mem_append_left _ (List.mem_append_left _ (List.mem_of_getElem? (i := 0) rfl)))))))
theorem kL_owes_1 : Cond.classLink RL 13 "java/lang/IllegalArgumentException" ∈ wsL_owes := (List.mem_cons_of_mem _ (List.mem_append_left _ (List.mem_append_left _ (List.mem_append_left _ (List.mem_append_left _ (List.mem_append_left _ (List.mem_of_getElem? (i := 1) rfl)))))))
set_option maxHeartbeats 4000000 in
set_option maxRecDepth 100000 in
theorem c_L_owes (l : Launch) (hl0 : l.stackTraces = false) (G : uG) (a0 : Nat → Nat) (a1 : Nat → Nat) (a2 : Nat → Nat) (a3 : Nat → Nat) (a4 : Nat → Nat) (a5 : Nat → Nat) (a6 : Nat → Nat) (a7 : Nat → Nat → Nat) (a8 : Nat → Nat) (a9 : Nat → Nat) (a10 : Nat → Nat) (a11 : Nat → Nat) (a12 : Nat → Nat) (v1 : StV) (v12 : OuV) (i1 : Int32) (i2 : Int32) {q : Int32 × (OuV)} (hf : f_L_owes v1 v12 i1 i2 = some q) : mH l yL_owes wsL_owes ({ frames := 9, cells := 3, slots := 18, locals := 157 } : Room) G [.ref (a0 0), .int i1, .int i2, .ref (a12 0)] [maW a0 (a1 0) (a2 0) (a3 0) (a4 0) (a7 0 0) (a8 0) (a9 0) (a9 1), stW G a1 v1, ouW G a12 v12] [maW a0 (a1 0) (a2 0) (a3 0) (a4 0) (a7 0 0) (a8 0) (a9 0) (a9 1), stW G a1 v1, ouW G a12 q.2] (qI G [maW a0 (a1 0) (a2 0) (a3 0) (a4 0) (a7 0 0) (a8 0) (a9 0) (a9 1), stW G a1 v1, ouW G a12 q.2] q.1) 3 18 := by
  unfold f_L_owes at hf
  refine mH_of (cc := cL_owes) (maxL := 5) (ret := (some .int)) (hh := [(0, 10, 13, 28), (0, 10, 17, 13)]) (by decide) rfl rfl (Nat.le_of_ble_eq_true rfl) ?_
  intro p e s m args below meth c A ls S hK hA hex hTH hP hD hS hl
  obtain ⟨hx, hb, hml, hown, hts, hr, hlocks⟩ := id S
  have hl : lv_has ls 5 [(0, .ref (a0 0)), (1, .int i1), (2, .int i2), (3, .ref (a12 0))] := hl
  refine lv_aload_n hx hb dL_owes_0 rfl (lv_at hl 3 rfl) ?_
  refine lv_iconst (v := (0:Int32)) hx hb dL_owes_1 (by decide) ?_
  refine lv_aload_n hx hb dL_owes_2 rfl (lv_at hl 0 rfl) ?_
  refine lv_iload_n hx hb dL_owes_3 rfl (lv_at hl 1 rfl) ?_
  refine lv_iload_n hx hb dL_owes_4 rfl (lv_at hl 2 rfl) ?_
  obtain ⟨q1, hq1, hf⟩ := bh_some hf
  refine g_callXVi S (cells' := 3) (slots' := 18) (As := [.int i1, .int i2]) (c_X5_owes l hl0 G a0 a1 a2 a3 a4 a5 a6 a7 a8 a9 a10 a11 v1 i1 i2 hq1) (cwV 2 hts gL_owes_X5_owes rfl rfl rfl hd_X5_owes ⟨Nat.le_of_ble_eq_true rfl, Nat.le_of_ble_eq_true rfl⟩) hTH hK hP hD hS hA (is := [0, 1]) rfl rfl 0 rfl rfl rfl rfl hl.1 rfl (Nat.le_of_ble_eq_true rfl) dL_owes_5 ⟨Nat.le_of_ble_eq_true rfl, Nat.le_of_ble_eq_true rfl⟩ rfl rfl (fun x u ho H locs hP hD hS => ?_) (fun E u ho ce q9 H locs hP hD hS hce hcv hcl => ?_)
  · obtain ⟨r2, rfl, rfl, rfl⟩ := om_l ho
    have hf := bhe_l hf
    have hP : gP G [maW a0 (a1 0) (a2 0) (a3 0) (a4 0) (a7 0 0) (a8 0) (a9 0) (a9 1), stW G a1 v1, ouW G a12 v12] H := hP
    have hD : gD A [maW a0 (a1 0) (a2 0) (a3 0) (a4 0) (a7 0 0) (a8 0) (a9 0) (a9 1), stW G a1 v1, ouW G a12 v12] := hD
    refine lv_i2l (v := r2.1.toInt64) hx hb dL_owes_8 rfl ?_
    obtain ⟨h4, hf⟩ := gi_some hf
    obtain ⟨u5, eu5, hf⟩ := lt_some hf
    refine g_last (gs' := [maW a0 (a1 0) (a2 0) (a3 0) (a4 0) (a7 0 0) (a8 0) (a9 0) (a9 1), stW G a1 v1, ouW G a12 u5]) hx hb hK hP hD hS 2 0 3 rfl rfl rfl h4 dL_owes_9 (by rw [eu5]; rfl) (fun H locs hP hD hS => ?_)
    refine lv_goto (tgt := 21) hx hb dL_owes_10 (by decide) ?_
    refine lv_iconst (v := (0:Int32)) hx hb dL_owes_21 (by decide) ?_
    cases hf
    exact g_hret hx hb hr hlocks (Nat.le_of_ble_eq_true rfl) (Nat.le_of_ble_eq_true rfl) hP hS dL_owes_22
  · obtain ⟨r3, rfl, rfl, rfl⟩ := om_r ho
    have hf := bhe_r hf
    have hP : gP G [maW a0 (a1 0) (a2 0) (a3 0) (a4 0) (a7 0 0) (a8 0) (a9 0) (a9 1), stW G a1 v1, ouW G a12 v12] H := hP
    have hD : gD A [maW a0 (a1 0) (a2 0) (a3 0) (a4 0) (a7 0 0) (a8 0) (a9 0) (a9 1), stW G a1 v1, ouW G a12 v12] := hD
    by_cases c6 : r3.1 = "java/lang/IndexOutOfBoundsException"
    · rw [if_pos c6] at hf
      rw [c6] at hcl
      refine vx_catch (name := "java/lang/IndexOutOfBoundsException") hown [] ⟨0, 10, 13, 28⟩ [⟨0, 10, 17, 13⟩] (by rw [hex]; rfl) (fun z hz => absurd hz List.not_mem_nil) (by decide) (by decide) (hts _ kL_owes_0) (ng_use rfl (hTH.2.2.2.2 _ vc_IndexOutOfBoundsException)) hce hcv hcl ?_
      refine lv_astore (lv' := [(4, .ref q9), (0, .ref (a0 0)), (1, .int i1), (2, .int i2), (3, .ref (a12 0))]) hx hb dL_owes_13 hl (by decide) rfl (fun ls hl => ?_)
      refine lv_iconst (v := (1:Int32)) hx hb dL_owes_15 (by decide) ?_
      cases hf
      exact g_hret hx hb hr hlocks (Nat.le_of_ble_eq_true rfl) (Nat.le_of_ble_eq_true rfl) hP hS dL_owes_16
    · rw [if_neg c6] at hf
      by_cases c7 : r3.1 = "java/lang/IllegalArgumentException"
      · rw [if_pos c7] at hf
        rw [c7] at hcl
        refine vx_catch (name := "java/lang/IllegalArgumentException") hown [⟨0, 10, 13, 28⟩] ⟨0, 10, 17, 13⟩ [] (by rw [hex]; rfl) (List.forall_mem_cons.mpr ⟨Or.inr ⟨by decide, "java/lang/IndexOutOfBoundsException", (hts _ kL_owes_0), hTH.2.2.2.1 _ (List.mem_of_getElem? (i := 3) rfl)⟩, (fun z hz => absurd hz List.not_mem_nil)⟩) (by decide) (by decide) (hts _ kL_owes_1) (ng_use rfl (hTH.2.2.2.2 _ vc_IllegalArgumentException)) hce hcv hcl ?_
        refine lv_astore (lv' := [(4, .ref q9), (0, .ref (a0 0)), (1, .int i1), (2, .int i2), (3, .ref (a12 0))]) hx hb dL_owes_17 hl (by decide) rfl (fun ls hl => ?_)
        refine lv_iconst (v := (2:Int32)) hx hb dL_owes_19 (by decide) ?_
        cases hf
        exact g_hret hx hb hr hlocks (Nat.le_of_ble_eq_true rfl) (Nat.le_of_ble_eq_true rfl) hP hS dL_owes_20
      · rw [if_neg c7] at hf
        cases hf
theorem kL_chain_0 : Cond.classLink RL 28 "java/lang/IndexOutOfBoundsException" ∈ wsL_chain := (List.mem_cons_of_mem _ (List.mem_append_left _ (List.mem_append_left _ (List.mem_append_left _ (List.mem_append_left _ (List.mem_of_getElem? (i := 0) rfl))))))
set_option maxHeartbeats 4000000 in
set_option maxRecDepth 100000 in
theorem c_L_chain (l : Launch) (hl0 : l.stackTraces = false) (G : uG) (a0 : Nat → Nat) (a1 : Nat → Nat) (a2 : Nat → Nat) (a3 : Nat → Nat) (a4 : Nat → Nat) (a5 : Nat → Nat) (a6 : Nat → Nat) (a7 : Nat → Nat → Nat) (a8 : Nat → Nat) (a9 : Nat → Nat) (a10 : Nat → Nat) (a11 : Nat → Nat) (a12 : Nat → Nat) (v1 : StV) (v12 : OuV) (i1 : Int32) {q : Int32 × (OuV)} (hf : f_L_chain v1 v12 i1 = some q) : mH l yL_chain wsL_chain ({ frames := 8, cells := 1, slots := 6, locals := 134 } : Room) G [.ref (a0 0), .int i1, .ref (a12 0)] [maW a0 (a1 0) (a2 0) (a3 0) (a4 0) (a7 0 0) (a8 0) (a9 0) (a9 1), stW G a1 v1, ouW G a12 v12] [maW a0 (a1 0) (a2 0) (a3 0) (a4 0) (a7 0 0) (a8 0) (a9 0) (a9 1), stW G a1 v1, ouW G a12 q.2] (qI G [maW a0 (a1 0) (a2 0) (a3 0) (a4 0) (a7 0 0) (a8 0) (a9 0) (a9 1), stW G a1 v1, ouW G a12 q.2] q.1) 1 6 := by
  unfold f_L_chain at hf
  refine mH_of (cc := cL_chain) (maxL := 4) (ret := (some .int)) (hh := [(0, 9, 12, 28)]) (by decide) rfl rfl (Nat.le_of_ble_eq_true rfl) ?_
  intro p e s m args below meth c A ls S hK hA hex hTH hP hD hS hl
  obtain ⟨hx, hb, hml, hown, hts, hr, hlocks⟩ := id S
  have hl : lv_has ls 4 [(0, .ref (a0 0)), (1, .int i1), (2, .ref (a12 0))] := hl
  refine lv_aload_n hx hb dL_chain_0 rfl (lv_at hl 2 rfl) ?_
  refine lv_iconst (v := (0:Int32)) hx hb dL_chain_1 (by decide) ?_
  refine lv_aload_n hx hb dL_chain_2 rfl (lv_at hl 0 rfl) ?_
  refine lv_iload_n hx hb dL_chain_3 rfl (lv_at hl 1 rfl) ?_
  obtain ⟨q1, hq1, hf⟩ := bh_some hf
  refine g_callXVi S (cells' := 1) (slots' := 6) (As := [.int i1]) (c_X5_chain l hl0 G a0 a1 a2 a3 a4 a5 a6 a7 a8 a9 a10 a11 v1 i1 hq1) (cwV 1 hts gL_chain_X5_chain rfl rfl rfl hd_X5_chain ⟨Nat.le_of_ble_eq_true rfl, Nat.le_of_ble_eq_true rfl⟩) hTH hK hP hD hS hA (is := [0, 1]) rfl rfl 0 rfl rfl rfl rfl hl.1 rfl (Nat.le_of_ble_eq_true rfl) dL_chain_4 ⟨Nat.le_of_ble_eq_true rfl, Nat.le_of_ble_eq_true rfl⟩ rfl rfl (fun x u ho H locs hP hD hS => ?_) (fun E u ho ce q9 H locs hP hD hS hce hcv hcl => ?_)
  · obtain ⟨r2, rfl, rfl, rfl⟩ := om_l ho
    have hf := bhe_l hf
    have hP : gP G [maW a0 (a1 0) (a2 0) (a3 0) (a4 0) (a7 0 0) (a8 0) (a9 0) (a9 1), stW G a1 v1, ouW G a12 v12] H := hP
    have hD : gD A [maW a0 (a1 0) (a2 0) (a3 0) (a4 0) (a7 0 0) (a8 0) (a9 0) (a9 1), stW G a1 v1, ouW G a12 v12] := hD
    refine lv_i2l (v := r2.1.toInt64) hx hb dL_chain_7 rfl ?_
    obtain ⟨h4, hf⟩ := gi_some hf
    obtain ⟨u5, eu5, hf⟩ := lt_some hf
    refine g_last (gs' := [maW a0 (a1 0) (a2 0) (a3 0) (a4 0) (a7 0 0) (a8 0) (a9 0) (a9 1), stW G a1 v1, ouW G a12 u5]) hx hb hK hP hD hS 2 0 3 rfl rfl rfl h4 dL_chain_8 (by rw [eu5]; rfl) (fun H locs hP hD hS => ?_)
    refine lv_goto (tgt := 15) hx hb dL_chain_9 (by decide) ?_
    refine lv_iconst (v := (0:Int32)) hx hb dL_chain_15 (by decide) ?_
    cases hf
    exact g_hret hx hb hr hlocks (Nat.le_of_ble_eq_true rfl) (Nat.le_of_ble_eq_true rfl) hP hS dL_chain_16
  · obtain ⟨r3, rfl, rfl, rfl⟩ := om_r ho
    have hf := bhe_r hf
    have hP : gP G [maW a0 (a1 0) (a2 0) (a3 0) (a4 0) (a7 0 0) (a8 0) (a9 0) (a9 1), stW G a1 v1, ouW G a12 v12] H := hP
    have hD : gD A [maW a0 (a1 0) (a2 0) (a3 0) (a4 0) (a7 0 0) (a8 0) (a9 0) (a9 1), stW G a1 v1, ouW G a12 v12] := hD
    by_cases c6 : r3.1 = "java/lang/IndexOutOfBoundsException"
    · rw [if_pos c6] at hf
      rw [c6] at hcl
      refine vx_catch (name := "java/lang/IndexOutOfBoundsException") hown [] ⟨0, 9, 12, 28⟩ [] (by rw [hex]; rfl) (fun z hz => absurd hz List.not_mem_nil) (by decide) (by decide) (hts _ kL_chain_0) (ng_use rfl (hTH.2.2.2.2 _ vc_IndexOutOfBoundsException)) hce hcv hcl ?_
      refine lv_astore_n (lv' := [(3, .ref q9), (0, .ref (a0 0)), (1, .int i1), (2, .ref (a12 0))]) hx hb dL_chain_12 rfl hl (by decide) rfl (fun ls hl => ?_)
      refine lv_iconst (v := (1:Int32)) hx hb dL_chain_13 (by decide) ?_
      cases hf
      exact g_hret hx hb hr hlocks (Nat.le_of_ble_eq_true rfl) (Nat.le_of_ble_eq_true rfl) hP hS dL_chain_14
    · rw [if_neg c6] at hf
      cases hf
theorem kL_rate_0 : Cond.classLink RL 28 "java/lang/IndexOutOfBoundsException" ∈ wsL_rate := (List.mem_cons_of_mem _ (List.mem_append_left _ (List.mem_append_left _ (List.mem_append_left _ (List.mem_append_left _ (List.mem_of_getElem? (i := 0) rfl))))))
set_option maxHeartbeats 4000000 in
set_option maxRecDepth 100000 in
theorem c_L_rate (l : Launch) (hl0 : l.stackTraces = false) (G : uG) (a0 : Nat → Nat) (a1 : Nat → Nat) (a2 : Nat → Nat) (a3 : Nat → Nat) (a4 : Nat → Nat) (a5 : Nat → Nat) (a6 : Nat → Nat) (a7 : Nat → Nat → Nat) (a8 : Nat → Nat) (a9 : Nat → Nat) (a10 : Nat → Nat) (a11 : Nat → Nat) (a12 : Nat → Nat) (v1 : StV) (v12 : OuV) (i1 : Int32) {q : Int32 × (OuV)} (hf : f_L_rate v1 v12 i1 = some q) : mH l yL_rate wsL_rate ({ frames := 8, cells := 1, slots := 6, locals := 136 } : Room) G [.ref (a0 0), .int i1, .ref (a12 0)] [maW a0 (a1 0) (a2 0) (a3 0) (a4 0) (a7 0 0) (a8 0) (a9 0) (a9 1), stW G a1 v1, ouW G a12 v12] [maW a0 (a1 0) (a2 0) (a3 0) (a4 0) (a7 0 0) (a8 0) (a9 0) (a9 1), stW G a1 v1, ouW G a12 q.2] (qI G [maW a0 (a1 0) (a2 0) (a3 0) (a4 0) (a7 0 0) (a8 0) (a9 0) (a9 1), stW G a1 v1, ouW G a12 q.2] q.1) 1 6 := by
  unfold f_L_rate at hf
  refine mH_of (cc := cL_rate) (maxL := 4) (ret := (some .int)) (hh := [(0, 9, 12, 28)]) (by decide) rfl rfl (Nat.le_of_ble_eq_true rfl) ?_
  intro p e s m args below meth c A ls S hK hA hex hTH hP hD hS hl
  obtain ⟨hx, hb, hml, hown, hts, hr, hlocks⟩ := id S
  have hl : lv_has ls 4 [(0, .ref (a0 0)), (1, .int i1), (2, .ref (a12 0))] := hl
  refine lv_aload_n hx hb dL_rate_0 rfl (lv_at hl 2 rfl) ?_
  refine lv_iconst (v := (0:Int32)) hx hb dL_rate_1 (by decide) ?_
  refine lv_aload_n hx hb dL_rate_2 rfl (lv_at hl 0 rfl) ?_
  refine lv_iload_n hx hb dL_rate_3 rfl (lv_at hl 1 rfl) ?_
  obtain ⟨q1, hq1, hf⟩ := bh_some hf
  refine g_callXVi S (cells' := 1) (slots' := 6) (As := [.int i1]) (c_X5_rate l hl0 G a0 a1 a2 a3 a4 a5 a6 a7 a8 a9 a10 a11 v1 i1 hq1) (cwV 1 hts gL_rate_X5_rate rfl rfl rfl hd_X5_rate ⟨Nat.le_of_ble_eq_true rfl, Nat.le_of_ble_eq_true rfl⟩) hTH hK hP hD hS hA (is := [0, 1]) rfl rfl 0 rfl rfl rfl rfl hl.1 rfl (Nat.le_of_ble_eq_true rfl) dL_rate_4 ⟨Nat.le_of_ble_eq_true rfl, Nat.le_of_ble_eq_true rfl⟩ rfl rfl (fun x u ho H locs hP hD hS => ?_) (fun E u ho ce q9 H locs hP hD hS hce hcv hcl => ?_)
  · obtain ⟨r2, rfl, rfl, rfl⟩ := om_l ho
    have hf := bhe_l hf
    have hP : gP G [maW a0 (a1 0) (a2 0) (a3 0) (a4 0) (a7 0 0) (a8 0) (a9 0) (a9 1), stW G a1 v1, ouW G a12 v12] H := hP
    have hD : gD A [maW a0 (a1 0) (a2 0) (a3 0) (a4 0) (a7 0 0) (a8 0) (a9 0) (a9 1), stW G a1 v1, ouW G a12 v12] := hD
    refine lv_i2l (v := r2.1.toInt64) hx hb dL_rate_7 rfl ?_
    obtain ⟨h4, hf⟩ := gi_some hf
    obtain ⟨u5, eu5, hf⟩ := lt_some hf
    refine g_last (gs' := [maW a0 (a1 0) (a2 0) (a3 0) (a4 0) (a7 0 0) (a8 0) (a9 0) (a9 1), stW G a1 v1, ouW G a12 u5]) hx hb hK hP hD hS 2 0 3 rfl rfl rfl h4 dL_rate_8 (by rw [eu5]; rfl) (fun H locs hP hD hS => ?_)
    refine lv_goto (tgt := 15) hx hb dL_rate_9 (by decide) ?_
    refine lv_iconst (v := (0:Int32)) hx hb dL_rate_15 (by decide) ?_
    cases hf
    exact g_hret hx hb hr hlocks (Nat.le_of_ble_eq_true rfl) (Nat.le_of_ble_eq_true rfl) hP hS dL_rate_16
  · obtain ⟨r3, rfl, rfl, rfl⟩ := om_r ho
    have hf := bhe_r hf
    have hP : gP G [maW a0 (a1 0) (a2 0) (a3 0) (a4 0) (a7 0 0) (a8 0) (a9 0) (a9 1), stW G a1 v1, ouW G a12 v12] H := hP
    have hD : gD A [maW a0 (a1 0) (a2 0) (a3 0) (a4 0) (a7 0 0) (a8 0) (a9 0) (a9 1), stW G a1 v1, ouW G a12 v12] := hD
    by_cases c6 : r3.1 = "java/lang/IndexOutOfBoundsException"
    · rw [if_pos c6] at hf
      rw [c6] at hcl
      refine vx_catch (name := "java/lang/IndexOutOfBoundsException") hown [] ⟨0, 9, 12, 28⟩ [] (by rw [hex]; rfl) (fun z hz => absurd hz List.not_mem_nil) (by decide) (by decide) (hts _ kL_rate_0) (ng_use rfl (hTH.2.2.2.2 _ vc_IndexOutOfBoundsException)) hce hcv hcl ?_
      refine lv_astore_n (lv' := [(3, .ref q9), (0, .ref (a0 0)), (1, .int i1), (2, .ref (a12 0))]) hx hb dL_rate_12 rfl hl (by decide) rfl (fun ls hl => ?_)
      refine lv_iconst (v := (1:Int32)) hx hb dL_rate_13 (by decide) ?_
      cases hf
      exact g_hret hx hb hr hlocks (Nat.le_of_ble_eq_true rfl) (Nat.le_of_ble_eq_true rfl) hP hS dL_rate_14
    · rw [if_neg c6] at hf
      cases hf
theorem kL_addMember_0 : Cond.classLink RL 13 "java/lang/IllegalArgumentException" ∈ wsL_addMember := (List.mem_cons_of_mem _ (List.mem_append_left _ (List.mem_append_left _ (List.mem_append_left _ (List.mem_append_left _ (List.mem_append_left _ (List.mem_append_left _ (List.mem_of_getElem? (i := 0) rfl))))))))
theorem kL_addMember_1 : Cond.classLink RL 15 "java/lang/IllegalStateException" ∈ wsL_addMember := (List.mem_cons_of_mem _ (List.mem_append_left _ (List.mem_append_left _ (List.mem_append_left _ (List.mem_append_left _ (List.mem_append_left _ (List.mem_append_left _ (List.mem_of_getElem? (i := 1) rfl))))))))
set_option maxHeartbeats 4000000 in
set_option maxRecDepth 100000 in
theorem c_L_addMember (l : Launch) (hl0 : l.stackTraces = false) (G : uG) (a0 : Nat → Nat) (a1 : Nat → Nat) (a2 : Nat → Nat) (a3 : Nat → Nat) (a4 : Nat → Nat) (a5 : Nat → Nat) (a6 : Nat → Nat) (a7 : Nat → Nat → Nat) (a8 : Nat → Nat) (a9 : Nat → Nat) (a10 : Nat → Nat) (a11 : Nat → Nat) (a12 : Nat → Nat) (v1 : StV) (v7 : PaV) (v12 : OuV) (i1 : Int32) {q : Int32 × (StV × PaV × OuV)} (hf : f_L_addMember v1 v7 v12 i1 = some q) : mH l yL_addMember wsL_addMember ({ frames := 8, cells := 2, slots := 12, locals := 135 } : Room) G [.ref (a0 0), .int i1, .ref (a12 0)] [maW a0 (a1 0) (a2 0) (a3 0) (a4 0) (a7 0 0) (a8 0) (a9 0) (a9 1), stW G a1 v1, paW G a7 v7, ouW G a12 v12] [maW a0 (a1 0) (a2 0) (a3 0) (a4 0) (a7 0 0) (a8 0) (a9 0) (a9 1), stW G a1 q.2.1, paW G a7 q.2.2.1, ouW G a12 q.2.2.2] (qI G [maW a0 (a1 0) (a2 0) (a3 0) (a4 0) (a7 0 0) (a8 0) (a9 0) (a9 1), stW G a1 q.2.1, paW G a7 q.2.2.1, ouW G a12 q.2.2.2] q.1) 2 12 := by
  unfold f_L_addMember at hf
  refine mH_of (cc := cL_addMember) (maxL := 4) (ret := (some .int)) (hh := [(0, 9, 12, 13), (0, 9, 15, 15)]) (by decide) rfl rfl (Nat.le_of_ble_eq_true rfl) ?_
  intro p e s m args below meth c A ls S hK hA hex hTH hP hD hS hl
  obtain ⟨hx, hb, hml, hown, hts, hr, hlocks⟩ := id S
  have hl : lv_has ls 4 [(0, .ref (a0 0)), (1, .int i1), (2, .ref (a12 0))] := hl
  refine lv_aload_n hx hb dL_addMember_0 rfl (lv_at hl 2 rfl) ?_
  refine lv_iconst (v := (0:Int32)) hx hb dL_addMember_1 (by decide) ?_
  refine lv_aload_n hx hb dL_addMember_2 rfl (lv_at hl 0 rfl) ?_
  refine lv_iload_n hx hb dL_addMember_3 rfl (lv_at hl 1 rfl) ?_
  obtain ⟨q1, hq1, hf⟩ := bh_some hf
  refine g_callXVi S (cells' := 2) (slots' := 12) (As := [.int i1]) (c_X5_addMember l hl0 G a0 a1 a2 a3 a4 a5 a6 a7 a8 a9 a10 a11 v1 v7 i1 hq1) (cwV 1 hts gL_addMember_X5_addMember rfl rfl rfl hd_X5_addMember ⟨Nat.le_of_ble_eq_true rfl, Nat.le_of_ble_eq_true rfl⟩) hTH hK hP hD hS hA (is := [0, 1, 2]) rfl rfl 0 rfl rfl rfl rfl hl.1 rfl (Nat.le_of_ble_eq_true rfl) dL_addMember_4 ⟨Nat.le_of_ble_eq_true rfl, Nat.le_of_ble_eq_true rfl⟩ rfl rfl (fun x u ho H locs hP hD hS => ?_) (fun E u ho ce q9 H locs hP hD hS hce hcv hcl => ?_)
  · obtain ⟨r2, rfl, rfl, rfl⟩ := om_l ho
    have hf := bhe_l hf
    have hP : gP G [maW a0 (a1 0) (a2 0) (a3 0) (a4 0) (a7 0 0) (a8 0) (a9 0) (a9 1), stW G a1 r2.2.1, paW G a7 r2.2.2, ouW G a12 v12] H := hP
    have hD : gD A [maW a0 (a1 0) (a2 0) (a3 0) (a4 0) (a7 0 0) (a8 0) (a9 0) (a9 1), stW G a1 r2.2.1, paW G a7 r2.2.2, ouW G a12 v12] := hD
    refine lv_i2l (v := r2.1.toInt64) hx hb dL_addMember_7 rfl ?_
    obtain ⟨h4, hf⟩ := gi_some hf
    obtain ⟨u5, eu5, hf⟩ := lt_some hf
    refine g_last (gs' := [maW a0 (a1 0) (a2 0) (a3 0) (a4 0) (a7 0 0) (a8 0) (a9 0) (a9 1), stW G a1 r2.2.1, paW G a7 r2.2.2, ouW G a12 u5]) hx hb hK hP hD hS 3 0 3 rfl rfl rfl h4 dL_addMember_8 (by rw [eu5]; rfl) (fun H locs hP hD hS => ?_)
    refine lv_goto (tgt := 18) hx hb dL_addMember_9 (by decide) ?_
    refine lv_iconst (v := (0:Int32)) hx hb dL_addMember_18 (by decide) ?_
    cases hf
    exact g_hret hx hb hr hlocks (Nat.le_of_ble_eq_true rfl) (Nat.le_of_ble_eq_true rfl) hP hS dL_addMember_19
  · obtain ⟨r3, rfl, rfl, rfl⟩ := om_r ho
    have hf := bhe_r hf
    have hP : gP G [maW a0 (a1 0) (a2 0) (a3 0) (a4 0) (a7 0 0) (a8 0) (a9 0) (a9 1), stW G a1 r3.2.1, paW G a7 r3.2.2, ouW G a12 v12] H := hP
    have hD : gD A [maW a0 (a1 0) (a2 0) (a3 0) (a4 0) (a7 0 0) (a8 0) (a9 0) (a9 1), stW G a1 r3.2.1, paW G a7 r3.2.2, ouW G a12 v12] := hD
    by_cases c6 : r3.1 = "java/lang/IllegalArgumentException"
    · rw [if_pos c6] at hf
      rw [c6] at hcl
      refine vx_catch (name := "java/lang/IllegalArgumentException") hown [] ⟨0, 9, 12, 13⟩ [⟨0, 9, 15, 15⟩] (by rw [hex]; rfl) (fun z hz => absurd hz List.not_mem_nil) (by decide) (by decide) (hts _ kL_addMember_0) (ng_use rfl (hTH.2.2.2.2 _ vc_IllegalArgumentException)) hce hcv hcl ?_
      refine lv_astore_n (lv' := [(3, .ref q9), (0, .ref (a0 0)), (1, .int i1), (2, .ref (a12 0))]) hx hb dL_addMember_12 rfl hl (by decide) rfl (fun ls hl => ?_)
      refine lv_iconst (v := (1:Int32)) hx hb dL_addMember_13 (by decide) ?_
      cases hf
      exact g_hret hx hb hr hlocks (Nat.le_of_ble_eq_true rfl) (Nat.le_of_ble_eq_true rfl) hP hS dL_addMember_14
    · rw [if_neg c6] at hf
      by_cases c7 : r3.1 = "java/lang/IllegalStateException"
      · rw [if_pos c7] at hf
        rw [c7] at hcl
        refine vx_catch (name := "java/lang/IllegalStateException") hown [⟨0, 9, 12, 13⟩] ⟨0, 9, 15, 15⟩ [] (by rw [hex]; rfl) (List.forall_mem_cons.mpr ⟨Or.inr ⟨by decide, "java/lang/IllegalArgumentException", (hts _ kL_addMember_0), hTH.2.2.2.1 _ (List.mem_of_getElem? (i := 0) rfl)⟩, (fun z hz => absurd hz List.not_mem_nil)⟩) (by decide) (by decide) (hts _ kL_addMember_1) (ng_use rfl (hTH.2.2.2.2 _ vc_IllegalStateException)) hce hcv hcl ?_
        refine lv_astore_n (lv' := [(3, .ref q9), (0, .ref (a0 0)), (1, .int i1), (2, .ref (a12 0))]) hx hb dL_addMember_15 rfl hl (by decide) rfl (fun ls hl => ?_)
        refine lv_iconst (v := (2:Int32)) hx hb dL_addMember_16 (by decide) ?_
        cases hf
        exact g_hret hx hb hr hlocks (Nat.le_of_ble_eq_true rfl) (Nat.le_of_ble_eq_true rfl) hP hS dL_addMember_17
      · rw [if_neg c7] at hf
        cases hf
theorem kL_setContribution_0 : Cond.classLink RL 13 "java/lang/IllegalArgumentException" ∈ wsL_setContribution := (List.mem_cons_of_mem _ (List.mem_append_left _ (List.mem_append_left _ (List.mem_append_left _ (List.mem_append_left _ (List.mem_append_left _ (List.mem_of_getElem? (i := 0) rfl)))))))
set_option maxHeartbeats 4000000 in
set_option maxRecDepth 100000 in
theorem c_L_setContribution (l : Launch) (hl0 : l.stackTraces = false) (G : uG) (a0 : Nat → Nat) (a1 : Nat → Nat) (a2 : Nat → Nat) (a3 : Nat → Nat) (a4 : Nat → Nat) (a5 : Nat → Nat) (a6 : Nat → Nat) (a7 : Nat → Nat → Nat) (a8 : Nat → Nat) (a9 : Nat → Nat) (a10 : Nat → Nat) (a11 : Nat → Nat) (a12 : Nat → Nat) (v1 : StV) (v7 : PaV) (v12 : OuV) (i1 : Int32) {q : Int32 × (StV × PaV × OuV)} (hf : f_L_setContribution v1 v7 v12 i1 = some q) : mH l yL_setContribution wsL_setContribution ({ frames := 8, cells := 1, slots := 6, locals := 136 } : Room) G [.ref (a0 0), .int i1, .ref (a12 0)] [maW a0 (a1 0) (a2 0) (a3 0) (a4 0) (a7 0 0) (a8 0) (a9 0) (a9 1), stW G a1 v1, paW G a7 v7, ouW G a12 v12] [maW a0 (a1 0) (a2 0) (a3 0) (a4 0) (a7 0 0) (a8 0) (a9 0) (a9 1), stW G a1 q.2.1, paW G a7 q.2.2.1, ouW G a12 q.2.2.2] (qI G [maW a0 (a1 0) (a2 0) (a3 0) (a4 0) (a7 0 0) (a8 0) (a9 0) (a9 1), stW G a1 q.2.1, paW G a7 q.2.2.1, ouW G a12 q.2.2.2] q.1) 1 6 := by
  unfold f_L_setContribution at hf
  refine mH_of (cc := cL_setContribution) (maxL := 4) (ret := (some .int)) (hh := [(0, 9, 12, 13)]) (by decide) rfl rfl (Nat.le_of_ble_eq_true rfl) ?_
  intro p e s m args below meth c A ls S hK hA hex hTH hP hD hS hl
  obtain ⟨hx, hb, hml, hown, hts, hr, hlocks⟩ := id S
  have hl : lv_has ls 4 [(0, .ref (a0 0)), (1, .int i1), (2, .ref (a12 0))] := hl
  refine lv_aload_n hx hb dL_setContribution_0 rfl (lv_at hl 2 rfl) ?_
  refine lv_iconst (v := (0:Int32)) hx hb dL_setContribution_1 (by decide) ?_
  refine lv_aload_n hx hb dL_setContribution_2 rfl (lv_at hl 0 rfl) ?_
  refine lv_iload_n hx hb dL_setContribution_3 rfl (lv_at hl 1 rfl) ?_
  obtain ⟨q1, hq1, hf⟩ := bh_some hf
  refine g_callXVi S (cells' := 1) (slots' := 6) (As := [.int i1]) (c_X5_setContribution l hl0 G a0 a1 a2 a3 a4 a5 a6 a7 a8 a9 a10 a11 v1 v7 i1 hq1) (cwV 1 hts gL_setContribution_X5_setContribution rfl rfl rfl hd_X5_setContribution ⟨Nat.le_of_ble_eq_true rfl, Nat.le_of_ble_eq_true rfl⟩) hTH hK hP hD hS hA (is := [0, 1, 2]) rfl rfl 0 rfl rfl rfl rfl hl.1 rfl (Nat.le_of_ble_eq_true rfl) dL_setContribution_4 ⟨Nat.le_of_ble_eq_true rfl, Nat.le_of_ble_eq_true rfl⟩ rfl rfl (fun x u ho H locs hP hD hS => ?_) (fun E u ho ce q9 H locs hP hD hS hce hcv hcl => ?_)
  · obtain ⟨r2, rfl, rfl, rfl⟩ := om_l ho
    have hf := bhe_l hf
    have hP : gP G [maW a0 (a1 0) (a2 0) (a3 0) (a4 0) (a7 0 0) (a8 0) (a9 0) (a9 1), stW G a1 r2.2.1, paW G a7 r2.2.2, ouW G a12 v12] H := hP
    have hD : gD A [maW a0 (a1 0) (a2 0) (a3 0) (a4 0) (a7 0 0) (a8 0) (a9 0) (a9 1), stW G a1 r2.2.1, paW G a7 r2.2.2, ouW G a12 v12] := hD
    refine lv_i2l (v := r2.1.toInt64) hx hb dL_setContribution_7 rfl ?_
    obtain ⟨h4, hf⟩ := gi_some hf
    obtain ⟨u5, eu5, hf⟩ := lt_some hf
    refine g_last (gs' := [maW a0 (a1 0) (a2 0) (a3 0) (a4 0) (a7 0 0) (a8 0) (a9 0) (a9 1), stW G a1 r2.2.1, paW G a7 r2.2.2, ouW G a12 u5]) hx hb hK hP hD hS 3 0 3 rfl rfl rfl h4 dL_setContribution_8 (by rw [eu5]; rfl) (fun H locs hP hD hS => ?_)
    refine lv_goto (tgt := 15) hx hb dL_setContribution_9 (by decide) ?_
    refine lv_iconst (v := (0:Int32)) hx hb dL_setContribution_15 (by decide) ?_
    cases hf
    exact g_hret hx hb hr hlocks (Nat.le_of_ble_eq_true rfl) (Nat.le_of_ble_eq_true rfl) hP hS dL_setContribution_16
  · obtain ⟨r3, rfl, rfl, rfl⟩ := om_r ho
    have hf := bhe_r hf
    have hP : gP G [maW a0 (a1 0) (a2 0) (a3 0) (a4 0) (a7 0 0) (a8 0) (a9 0) (a9 1), stW G a1 r3.2.1, paW G a7 r3.2.2, ouW G a12 v12] H := hP
    have hD : gD A [maW a0 (a1 0) (a2 0) (a3 0) (a4 0) (a7 0 0) (a8 0) (a9 0) (a9 1), stW G a1 r3.2.1, paW G a7 r3.2.2, ouW G a12 v12] := hD
    by_cases c6 : r3.1 = "java/lang/IllegalArgumentException"
    · rw [if_pos c6] at hf
      rw [c6] at hcl
      refine vx_catch (name := "java/lang/IllegalArgumentException") hown [] ⟨0, 9, 12, 13⟩ [] (by rw [hex]; rfl) (fun z hz => absurd hz List.not_mem_nil) (by decide) (by decide) (hts _ kL_setContribution_0) (ng_use rfl (hTH.2.2.2.2 _ vc_IllegalArgumentException)) hce hcv hcl ?_
      refine lv_astore_n (lv' := [(3, .ref q9), (0, .ref (a0 0)), (1, .int i1), (2, .ref (a12 0))]) hx hb dL_setContribution_12 rfl hl (by decide) rfl (fun ls hl => ?_)
      refine lv_iconst (v := (1:Int32)) hx hb dL_setContribution_13 (by decide) ?_
      cases hf
      exact g_hret hx hb hr hlocks (Nat.le_of_ble_eq_true rfl) (Nat.le_of_ble_eq_true rfl) hP hS dL_setContribution_14
    · rw [if_neg c6] at hf
      cases hf
theorem kL_setGuarantor_0 : Cond.classLink RL 28 "java/lang/IndexOutOfBoundsException" ∈ wsL_setGuarantor := (List.mem_cons_of_mem _ (List.mem_append_left _ (List.mem_append_left _ (List.mem_append_left _ (List.mem_append_left _ (List.mem_append_left _ (List.mem_append_left _ (List.mem_of_getElem? (i := 0) rfl))))))))
theorem kL_setGuarantor_1 : Cond.classLink RL 13 "java/lang/IllegalArgumentException" ∈ wsL_setGuarantor := (List.mem_cons_of_mem _ (List.mem_append_left _ (List.mem_append_left _ (List.mem_append_left _ (List.mem_append_left _ (List.mem_append_left _ (List.mem_append_left _ (List.mem_of_getElem? (i := 1) rfl))))))))
set_option maxHeartbeats 4000000 in
set_option maxRecDepth 100000 in
theorem c_L_setGuarantor (l : Launch) (hl0 : l.stackTraces = false) (G : uG) (a0 : Nat → Nat) (a1 : Nat → Nat) (a2 : Nat → Nat) (a3 : Nat → Nat) (a4 : Nat → Nat) (a5 : Nat → Nat) (a6 : Nat → Nat) (a7 : Nat → Nat → Nat) (a8 : Nat → Nat) (a9 : Nat → Nat) (a10 : Nat → Nat) (a11 : Nat → Nat) (a12 : Nat → Nat) (v1 : StV) (v7 : PaV) (v12 : OuV) (i1 : Int32) (i2 : Int32) {q : Int32 × (StV × PaV × OuV)} (hf : f_L_setGuarantor v1 v7 v12 i1 i2 = some q) : mH l yL_setGuarantor wsL_setGuarantor ({ frames := 9, cells := 4, slots := 24, locals := 158 } : Room) G [.ref (a0 0), .int i1, .int i2, .ref (a12 0)] [maW a0 (a1 0) (a2 0) (a3 0) (a4 0) (a7 0 0) (a8 0) (a9 0) (a9 1), stW G a1 v1, paW G a7 v7, ouW G a12 v12] [maW a0 (a1 0) (a2 0) (a3 0) (a4 0) (a7 0 0) (a8 0) (a9 0) (a9 1), stW G a1 q.2.1, paW G a7 q.2.2.1, ouW G a12 q.2.2.2] (qI G [maW a0 (a1 0) (a2 0) (a3 0) (a4 0) (a7 0 0) (a8 0) (a9 0) (a9 1), stW G a1 q.2.1, paW G a7 q.2.2.1, ouW G a12 q.2.2.2] q.1) 4 24 := by
  unfold f_L_setGuarantor at hf
  refine mH_of (cc := cL_setGuarantor) (maxL := 5) (ret := (some .int)) (hh := [(0, 10, 13, 28), (0, 10, 17, 13)]) (by decide) rfl rfl (Nat.le_of_ble_eq_true rfl) ?_
  intro p e s m args below meth c A ls S hK hA hex hTH hP hD hS hl
  obtain ⟨hx, hb, hml, hown, hts, hr, hlocks⟩ := id S
  have hl : lv_has ls 5 [(0, .ref (a0 0)), (1, .int i1), (2, .int i2), (3, .ref (a12 0))] := hl
  refine lv_aload_n hx hb dL_setGuarantor_0 rfl (lv_at hl 3 rfl) ?_
  refine lv_iconst (v := (0:Int32)) hx hb dL_setGuarantor_1 (by decide) ?_
  refine lv_aload_n hx hb dL_setGuarantor_2 rfl (lv_at hl 0 rfl) ?_
  refine lv_iload_n hx hb dL_setGuarantor_3 rfl (lv_at hl 1 rfl) ?_
  refine lv_iload_n hx hb dL_setGuarantor_4 rfl (lv_at hl 2 rfl) ?_
  obtain ⟨q1, hq1, hf⟩ := bh_some hf
  refine g_callXVi S (cells' := 4) (slots' := 24) (As := [.int i1, .int i2]) (c_X5_setGuarantor l hl0 G a0 a1 a2 a3 a4 a5 a6 a7 a8 a9 a10 a11 v1 v7 i1 i2 hq1) (cwV 2 hts gL_setGuarantor_X5_setGuarantor rfl rfl rfl hd_X5_setGuarantor ⟨Nat.le_of_ble_eq_true rfl, Nat.le_of_ble_eq_true rfl⟩) hTH hK hP hD hS hA (is := [0, 1, 2]) rfl rfl 0 rfl rfl rfl rfl hl.1 rfl (Nat.le_of_ble_eq_true rfl) dL_setGuarantor_5 ⟨Nat.le_of_ble_eq_true rfl, Nat.le_of_ble_eq_true rfl⟩ rfl rfl (fun x u ho H locs hP hD hS => ?_) (fun E u ho ce q9 H locs hP hD hS hce hcv hcl => ?_)
  · obtain ⟨r2, rfl, rfl, rfl⟩ := om_l ho
    have hf := bhe_l hf
    have hP : gP G [maW a0 (a1 0) (a2 0) (a3 0) (a4 0) (a7 0 0) (a8 0) (a9 0) (a9 1), stW G a1 r2.2.1, paW G a7 r2.2.2, ouW G a12 v12] H := hP
    have hD : gD A [maW a0 (a1 0) (a2 0) (a3 0) (a4 0) (a7 0 0) (a8 0) (a9 0) (a9 1), stW G a1 r2.2.1, paW G a7 r2.2.2, ouW G a12 v12] := hD
    refine lv_i2l (v := r2.1.toInt64) hx hb dL_setGuarantor_8 rfl ?_
    obtain ⟨h4, hf⟩ := gi_some hf
    obtain ⟨u5, eu5, hf⟩ := lt_some hf
    refine g_last (gs' := [maW a0 (a1 0) (a2 0) (a3 0) (a4 0) (a7 0 0) (a8 0) (a9 0) (a9 1), stW G a1 r2.2.1, paW G a7 r2.2.2, ouW G a12 u5]) hx hb hK hP hD hS 3 0 3 rfl rfl rfl h4 dL_setGuarantor_9 (by rw [eu5]; rfl) (fun H locs hP hD hS => ?_)
    refine lv_goto (tgt := 21) hx hb dL_setGuarantor_10 (by decide) ?_
    refine lv_iconst (v := (0:Int32)) hx hb dL_setGuarantor_21 (by decide) ?_
    cases hf
    exact g_hret hx hb hr hlocks (Nat.le_of_ble_eq_true rfl) (Nat.le_of_ble_eq_true rfl) hP hS dL_setGuarantor_22
  · obtain ⟨r3, rfl, rfl, rfl⟩ := om_r ho
    have hf := bhe_r hf
    have hP : gP G [maW a0 (a1 0) (a2 0) (a3 0) (a4 0) (a7 0 0) (a8 0) (a9 0) (a9 1), stW G a1 r3.2.1, paW G a7 r3.2.2, ouW G a12 v12] H := hP
    have hD : gD A [maW a0 (a1 0) (a2 0) (a3 0) (a4 0) (a7 0 0) (a8 0) (a9 0) (a9 1), stW G a1 r3.2.1, paW G a7 r3.2.2, ouW G a12 v12] := hD
    by_cases c6 : r3.1 = "java/lang/IndexOutOfBoundsException"
    · rw [if_pos c6] at hf
      rw [c6] at hcl
      refine vx_catch (name := "java/lang/IndexOutOfBoundsException") hown [] ⟨0, 10, 13, 28⟩ [⟨0, 10, 17, 13⟩] (by rw [hex]; rfl) (fun z hz => absurd hz List.not_mem_nil) (by decide) (by decide) (hts _ kL_setGuarantor_0) (ng_use rfl (hTH.2.2.2.2 _ vc_IndexOutOfBoundsException)) hce hcv hcl ?_
      refine lv_astore (lv' := [(4, .ref q9), (0, .ref (a0 0)), (1, .int i1), (2, .int i2), (3, .ref (a12 0))]) hx hb dL_setGuarantor_13 hl (by decide) rfl (fun ls hl => ?_)
      refine lv_iconst (v := (1:Int32)) hx hb dL_setGuarantor_15 (by decide) ?_
      cases hf
      exact g_hret hx hb hr hlocks (Nat.le_of_ble_eq_true rfl) (Nat.le_of_ble_eq_true rfl) hP hS dL_setGuarantor_16
    · rw [if_neg c6] at hf
      by_cases c7 : r3.1 = "java/lang/IllegalArgumentException"
      · rw [if_pos c7] at hf
        rw [c7] at hcl
        refine vx_catch (name := "java/lang/IllegalArgumentException") hown [⟨0, 10, 13, 28⟩] ⟨0, 10, 17, 13⟩ [] (by rw [hex]; rfl) (List.forall_mem_cons.mpr ⟨Or.inr ⟨by decide, "java/lang/IndexOutOfBoundsException", (hts _ kL_setGuarantor_0), hTH.2.2.2.1 _ (List.mem_of_getElem? (i := 3) rfl)⟩, (fun z hz => absurd hz List.not_mem_nil)⟩) (by decide) (by decide) (hts _ kL_setGuarantor_1) (ng_use rfl (hTH.2.2.2.2 _ vc_IllegalArgumentException)) hce hcv hcl ?_
        refine lv_astore (lv' := [(4, .ref q9), (0, .ref (a0 0)), (1, .int i1), (2, .int i2), (3, .ref (a12 0))]) hx hb dL_setGuarantor_17 hl (by decide) rfl (fun ls hl => ?_)
        refine lv_iconst (v := (2:Int32)) hx hb dL_setGuarantor_19 (by decide) ?_
        cases hf
        exact g_hret hx hb hr hlocks (Nat.le_of_ble_eq_true rfl) (Nat.le_of_ble_eq_true rfl) hP hS dL_setGuarantor_20
      · rw [if_neg c7] at hf
        cases hf
theorem kL_bid_0 : Cond.classLink RL 28 "java/lang/IndexOutOfBoundsException" ∈ wsL_bid := (List.mem_cons_of_mem _ (List.mem_append_left _ (List.mem_append_left _ (List.mem_append_left _ (List.mem_append_left _ (List.mem_append_left _ (List.mem_append_left _ (List.mem_append_left _ (List.mem_of_getElem? (i := 0) rfl)))))))))
theorem kL_bid_1 : Cond.classLink RL 13 "java/lang/IllegalArgumentException" ∈ wsL_bid := (List.mem_cons_of_mem _ (List.mem_append_left _ (List.mem_append_left _ (List.mem_append_left _ (List.mem_append_left _ (List.mem_append_left _ (List.mem_append_left _ (List.mem_append_left _ (List.mem_of_getElem? (i := 1) rfl)))))))))
theorem kL_bid_2 : Cond.classLink RL 15 "java/lang/IllegalStateException" ∈ wsL_bid := (List.mem_cons_of_mem _ (List.mem_append_left _ (List.mem_append_left _ (List.mem_append_left _ (List.mem_append_left _ (List.mem_append_left _ (List.mem_append_left _ (List.mem_append_left _ (List.mem_of_getElem? (i := 2) rfl)))))))))
set_option maxHeartbeats 4000000 in
set_option maxRecDepth 100000 in
theorem c_L_bid (l : Launch) (hl0 : l.stackTraces = false) (G : uG) (a0 : Nat → Nat) (a1 : Nat → Nat) (a2 : Nat → Nat) (a3 : Nat → Nat) (a4 : Nat → Nat) (a5 : Nat → Nat) (a6 : Nat → Nat) (a7 : Nat → Nat → Nat) (a8 : Nat → Nat) (a9 : Nat → Nat) (a10 : Nat → Nat) (a11 : Nat → Nat) (a12 : Nat → Nat) (v1 : StV) (v7 : PaV) (v12 : OuV) (i1 : Int32) (i2 : Int32) {q : Int32 × (StV × PaV × OuV)} (hf : f_L_bid v1 v7 v12 i1 i2 = some q) : mH l yL_bid wsL_bid ({ frames := 8, cells := 3, slots := 18, locals := 137 } : Room) G [.ref (a0 0), .int i1, .int i2, .ref (a12 0)] [maW a0 (a1 0) (a2 0) (a3 0) (a4 0) (a7 0 0) (a8 0) (a9 0) (a9 1), stW G a1 v1, paW G a7 v7, ouW G a12 v12] [maW a0 (a1 0) (a2 0) (a3 0) (a4 0) (a7 0 0) (a8 0) (a9 0) (a9 1), stW G a1 q.2.1, paW G a7 q.2.2.1, ouW G a12 q.2.2.2] (qI G [maW a0 (a1 0) (a2 0) (a3 0) (a4 0) (a7 0 0) (a8 0) (a9 0) (a9 1), stW G a1 q.2.1, paW G a7 q.2.2.1, ouW G a12 q.2.2.2] q.1) 3 18 := by
  unfold f_L_bid at hf
  refine mH_of (cc := cL_bid) (maxL := 5) (ret := (some .int)) (hh := [(0, 10, 13, 28), (0, 10, 17, 13), (0, 10, 21, 15)]) (by decide) rfl rfl (Nat.le_of_ble_eq_true rfl) ?_
  intro p e s m args below meth c A ls S hK hA hex hTH hP hD hS hl
  obtain ⟨hx, hb, hml, hown, hts, hr, hlocks⟩ := id S
  have hl : lv_has ls 5 [(0, .ref (a0 0)), (1, .int i1), (2, .int i2), (3, .ref (a12 0))] := hl
  refine lv_aload_n hx hb dL_bid_0 rfl (lv_at hl 3 rfl) ?_
  refine lv_iconst (v := (0:Int32)) hx hb dL_bid_1 (by decide) ?_
  refine lv_aload_n hx hb dL_bid_2 rfl (lv_at hl 0 rfl) ?_
  refine lv_iload_n hx hb dL_bid_3 rfl (lv_at hl 1 rfl) ?_
  refine lv_iload_n hx hb dL_bid_4 rfl (lv_at hl 2 rfl) ?_
  obtain ⟨q1, hq1, hf⟩ := bh_some hf
  refine g_callXVi S (cells' := 3) (slots' := 18) (As := [.int i1, .int i2]) (c_X5_bid l hl0 G a0 a1 a2 a3 a4 a5 a6 a7 a8 a9 a10 a11 v1 v7 i1 i2 hq1) (cwV 2 hts gL_bid_X5_bid rfl rfl rfl hd_X5_bid ⟨Nat.le_of_ble_eq_true rfl, Nat.le_of_ble_eq_true rfl⟩) hTH hK hP hD hS hA (is := [0, 1, 2]) rfl rfl 0 rfl rfl rfl rfl hl.1 rfl (Nat.le_of_ble_eq_true rfl) dL_bid_5 ⟨Nat.le_of_ble_eq_true rfl, Nat.le_of_ble_eq_true rfl⟩ rfl rfl (fun x u ho H locs hP hD hS => ?_) (fun E u ho ce q9 H locs hP hD hS hce hcv hcl => ?_)
  · obtain ⟨r2, rfl, rfl, rfl⟩ := om_l ho
    have hf := bhe_l hf
    have hP : gP G [maW a0 (a1 0) (a2 0) (a3 0) (a4 0) (a7 0 0) (a8 0) (a9 0) (a9 1), stW G a1 r2.2.1, paW G a7 r2.2.2, ouW G a12 v12] H := hP
    have hD : gD A [maW a0 (a1 0) (a2 0) (a3 0) (a4 0) (a7 0 0) (a8 0) (a9 0) (a9 1), stW G a1 r2.2.1, paW G a7 r2.2.2, ouW G a12 v12] := hD
    refine lv_i2l (v := r2.1.toInt64) hx hb dL_bid_8 rfl ?_
    obtain ⟨h4, hf⟩ := gi_some hf
    obtain ⟨u5, eu5, hf⟩ := lt_some hf
    refine g_last (gs' := [maW a0 (a1 0) (a2 0) (a3 0) (a4 0) (a7 0 0) (a8 0) (a9 0) (a9 1), stW G a1 r2.2.1, paW G a7 r2.2.2, ouW G a12 u5]) hx hb hK hP hD hS 3 0 3 rfl rfl rfl h4 dL_bid_9 (by rw [eu5]; rfl) (fun H locs hP hD hS => ?_)
    refine lv_goto (tgt := 25) hx hb dL_bid_10 (by decide) ?_
    refine lv_iconst (v := (0:Int32)) hx hb dL_bid_25 (by decide) ?_
    cases hf
    exact g_hret hx hb hr hlocks (Nat.le_of_ble_eq_true rfl) (Nat.le_of_ble_eq_true rfl) hP hS dL_bid_26
  · obtain ⟨r3, rfl, rfl, rfl⟩ := om_r ho
    have hf := bhe_r hf
    have hP : gP G [maW a0 (a1 0) (a2 0) (a3 0) (a4 0) (a7 0 0) (a8 0) (a9 0) (a9 1), stW G a1 r3.2.1, paW G a7 r3.2.2, ouW G a12 v12] H := hP
    have hD : gD A [maW a0 (a1 0) (a2 0) (a3 0) (a4 0) (a7 0 0) (a8 0) (a9 0) (a9 1), stW G a1 r3.2.1, paW G a7 r3.2.2, ouW G a12 v12] := hD
    by_cases c6 : r3.1 = "java/lang/IndexOutOfBoundsException"
    · rw [if_pos c6] at hf
      rw [c6] at hcl
      refine vx_catch (name := "java/lang/IndexOutOfBoundsException") hown [] ⟨0, 10, 13, 28⟩ [⟨0, 10, 17, 13⟩, ⟨0, 10, 21, 15⟩] (by rw [hex]; rfl) (fun z hz => absurd hz List.not_mem_nil) (by decide) (by decide) (hts _ kL_bid_0) (ng_use rfl (hTH.2.2.2.2 _ vc_IndexOutOfBoundsException)) hce hcv hcl ?_
      refine lv_astore (lv' := [(4, .ref q9), (0, .ref (a0 0)), (1, .int i1), (2, .int i2), (3, .ref (a12 0))]) hx hb dL_bid_13 hl (by decide) rfl (fun ls hl => ?_)
      refine lv_iconst (v := (1:Int32)) hx hb dL_bid_15 (by decide) ?_
      cases hf
      exact g_hret hx hb hr hlocks (Nat.le_of_ble_eq_true rfl) (Nat.le_of_ble_eq_true rfl) hP hS dL_bid_16
    · rw [if_neg c6] at hf
      by_cases c7 : r3.1 = "java/lang/IllegalArgumentException"
      · rw [if_pos c7] at hf
        rw [c7] at hcl
        refine vx_catch (name := "java/lang/IllegalArgumentException") hown [⟨0, 10, 13, 28⟩] ⟨0, 10, 17, 13⟩ [⟨0, 10, 21, 15⟩] (by rw [hex]; rfl) (List.forall_mem_cons.mpr ⟨Or.inr ⟨by decide, "java/lang/IndexOutOfBoundsException", (hts _ kL_bid_0), hTH.2.2.2.1 _ (List.mem_of_getElem? (i := 3) rfl)⟩, (fun z hz => absurd hz List.not_mem_nil)⟩) (by decide) (by decide) (hts _ kL_bid_1) (ng_use rfl (hTH.2.2.2.2 _ vc_IllegalArgumentException)) hce hcv hcl ?_
        refine lv_astore (lv' := [(4, .ref q9), (0, .ref (a0 0)), (1, .int i1), (2, .int i2), (3, .ref (a12 0))]) hx hb dL_bid_17 hl (by decide) rfl (fun ls hl => ?_)
        refine lv_iconst (v := (2:Int32)) hx hb dL_bid_19 (by decide) ?_
        cases hf
        exact g_hret hx hb hr hlocks (Nat.le_of_ble_eq_true rfl) (Nat.le_of_ble_eq_true rfl) hP hS dL_bid_20
      · rw [if_neg c7] at hf
        by_cases c8 : r3.1 = "java/lang/IllegalStateException"
        · rw [if_pos c8] at hf
          rw [c8] at hcl
          refine vx_catch (name := "java/lang/IllegalStateException") hown [⟨0, 10, 13, 28⟩, ⟨0, 10, 17, 13⟩] ⟨0, 10, 21, 15⟩ [] (by rw [hex]; rfl) (List.forall_mem_cons.mpr ⟨Or.inr ⟨by decide, "java/lang/IndexOutOfBoundsException", (hts _ kL_bid_0), hTH.2.2.2.1 _ (List.mem_of_getElem? (i := 1) rfl)⟩, (List.forall_mem_cons.mpr ⟨Or.inr ⟨by decide, "java/lang/IllegalArgumentException", (hts _ kL_bid_1), hTH.2.2.2.1 _ (List.mem_of_getElem? (i := 0) rfl)⟩, (fun z hz => absurd hz List.not_mem_nil)⟩)⟩) (by decide) (by decide) (hts _ kL_bid_2) (ng_use rfl (hTH.2.2.2.2 _ vc_IllegalStateException)) hce hcv hcl ?_
          refine lv_astore (lv' := [(4, .ref q9), (0, .ref (a0 0)), (1, .int i1), (2, .int i2), (3, .ref (a12 0))]) hx hb dL_bid_21 hl (by decide) rfl (fun ls hl => ?_)
          refine lv_iconst (v := (3:Int32)) hx hb dL_bid_23 (by decide) ?_
          cases hf
          exact g_hret hx hb hr hlocks (Nat.le_of_ble_eq_true rfl) (Nat.le_of_ble_eq_true rfl) hP hS dL_bid_24
        · rw [if_neg c8] at hf
          cases hf
theorem kL_stayAway_0 : Cond.classLink RL 28 "java/lang/IndexOutOfBoundsException" ∈ wsL_stayAway := (List.mem_cons_of_mem _ (List.mem_append_left _ (List.mem_append_left _ (List.mem_append_left _ (List.mem_append_left _ (List.mem_append_left _ (List.mem_of_getElem? (i := 0) rfl)))))))
set_option maxHeartbeats 4000000 in
set_option maxRecDepth 100000 in
theorem c_L_stayAway (l : Launch) (hl0 : l.stackTraces = false) (G : uG) (a0 : Nat → Nat) (a1 : Nat → Nat) (a2 : Nat → Nat) (a3 : Nat → Nat) (a4 : Nat → Nat) (a5 : Nat → Nat) (a6 : Nat → Nat) (a7 : Nat → Nat → Nat) (a8 : Nat → Nat) (a9 : Nat → Nat) (a10 : Nat → Nat) (a11 : Nat → Nat) (a12 : Nat → Nat) (v1 : StV) (v7 : PaV) (v12 : OuV) (i1 : Int32) (i2 : Int32) {q : Int32 × (StV × PaV × OuV)} (hf : f_L_stayAway v1 v7 v12 i1 i2 = some q) : mH l yL_stayAway wsL_stayAway ({ frames := 8, cells := 1, slots := 6, locals := 136 } : Room) G [.ref (a0 0), .int i1, .int i2, .ref (a12 0)] [maW a0 (a1 0) (a2 0) (a3 0) (a4 0) (a7 0 0) (a8 0) (a9 0) (a9 1), stW G a1 v1, paW G a7 v7, ouW G a12 v12] [maW a0 (a1 0) (a2 0) (a3 0) (a4 0) (a7 0 0) (a8 0) (a9 0) (a9 1), stW G a1 q.2.1, paW G a7 q.2.2.1, ouW G a12 q.2.2.2] (qI G [maW a0 (a1 0) (a2 0) (a3 0) (a4 0) (a7 0 0) (a8 0) (a9 0) (a9 1), stW G a1 q.2.1, paW G a7 q.2.2.1, ouW G a12 q.2.2.2] q.1) 1 6 := by
  unfold f_L_stayAway at hf
  refine mH_of (cc := cL_stayAway) (maxL := 5) (ret := (some .int)) (hh := [(0, 17, 20, 28)]) (by decide) rfl rfl (Nat.le_of_ble_eq_true rfl) ?_
  intro p e s m args below meth c A ls S hK hA hex hTH hP hD hS hl
  obtain ⟨hx, hb, hml, hown, hts, hr, hlocks⟩ := id S
  have hl : lv_has ls 5 [(0, .ref (a0 0)), (1, .int i1), (2, .int i2), (3, .ref (a12 0))] := hl
  refine lv_aload_n hx hb dL_stayAway_0 rfl (lv_at hl 3 rfl) ?_
  refine lv_iconst (v := (0:Int32)) hx hb dL_stayAway_1 (by decide) ?_
  refine lv_aload_n hx hb dL_stayAway_2 rfl (lv_at hl 0 rfl) ?_
  refine lv_iload_n hx hb dL_stayAway_3 rfl (lv_at hl 1 rfl) ?_
  refine lv_iload_n hx hb dL_stayAway_4 rfl (lv_at hl 2 rfl) ?_
  obtain ⟨q1, hq1, hf⟩ := bh_some hf
  refine g_callXVi S (cells' := 1) (slots' := 6) (As := [.int i1, .int i2]) (c_X5_stayAway l hl0 G a0 a1 a2 a3 a4 a5 a6 a7 a8 a9 a10 a11 v1 v7 i1 i2 hq1) (cwV 2 hts gL_stayAway_X5_stayAway rfl rfl rfl hd_X5_stayAway ⟨Nat.le_of_ble_eq_true rfl, Nat.le_of_ble_eq_true rfl⟩) hTH hK hP hD hS hA (is := [0, 1, 2]) rfl rfl 0 rfl rfl rfl rfl hl.1 rfl (Nat.le_of_ble_eq_true rfl) dL_stayAway_5 ⟨Nat.le_of_ble_eq_true rfl, Nat.le_of_ble_eq_true rfl⟩ rfl rfl (fun x u ho H locs hP hD hS => ?_) (fun E u ho ce q9 H locs hP hD hS hce hcv hcl => ?_)
  · obtain ⟨r2, rfl, rfl, rfl⟩ := om_l ho
    have hf := bhe_l hf
    have hP : gP G [maW a0 (a1 0) (a2 0) (a3 0) (a4 0) (a7 0 0) (a8 0) (a9 0) (a9 1), stW G a1 r2.2.1, paW G a7 r2.2.2, ouW G a12 v12] H := hP
    have hD : gD A [maW a0 (a1 0) (a2 0) (a3 0) (a4 0) (a7 0 0) (a8 0) (a9 0) (a9 1), stW G a1 r2.2.1, paW G a7 r2.2.2, ouW G a12 v12] := hD
    refine lv_if_eq (tgt := 15) hx hb dL_stayAway_8 (by decide) (fun c4 => ?_) (fun c4 => ?_)
    · rw [if_pos c4] at hf
      refine lv_lconst (v := (0:Int64)) hx hb dL_stayAway_15 (by decide) ?_
      obtain ⟨h5, hf⟩ := gi_some hf
      obtain ⟨u6, eu6, hf⟩ := lt_some hf
      refine g_last (gs' := [maW a0 (a1 0) (a2 0) (a3 0) (a4 0) (a7 0 0) (a8 0) (a9 0) (a9 1), stW G a1 r2.2.1, paW G a7 r2.2.2, ouW G a12 u6]) hx hb hK hP hD hS 3 0 3 rfl rfl rfl h5 dL_stayAway_16 (by rw [eu6]; rfl) (fun H locs hP hD hS => ?_)
      refine lv_goto (tgt := 24) hx hb dL_stayAway_17 (by decide) ?_
      refine lv_iconst (v := (0:Int32)) hx hb dL_stayAway_24 (by decide) ?_
      cases hf
      exact g_hret hx hb hr hlocks (Nat.le_of_ble_eq_true rfl) (Nat.le_of_ble_eq_true rfl) hP hS dL_stayAway_25
    · rw [if_neg c4] at hf
      refine lv_lconst (v := (1:Int64)) hx hb dL_stayAway_11 (by decide) ?_
      refine lv_goto (tgt := 16) hx hb dL_stayAway_12 (by decide) ?_
      obtain ⟨h7, hf⟩ := gi_some hf
      obtain ⟨u8, eu8, hf⟩ := lt_some hf
      refine g_last (gs' := [maW a0 (a1 0) (a2 0) (a3 0) (a4 0) (a7 0 0) (a8 0) (a9 0) (a9 1), stW G a1 r2.2.1, paW G a7 r2.2.2, ouW G a12 u8]) hx hb hK hP hD hS 3 0 3 rfl rfl rfl h7 dL_stayAway_16 (by rw [eu8]; rfl) (fun H locs hP hD hS => ?_)
      refine lv_goto (tgt := 24) hx hb dL_stayAway_17 (by decide) ?_
      refine lv_iconst (v := (0:Int32)) hx hb dL_stayAway_24 (by decide) ?_
      cases hf
      exact g_hret hx hb hr hlocks (Nat.le_of_ble_eq_true rfl) (Nat.le_of_ble_eq_true rfl) hP hS dL_stayAway_25
  · obtain ⟨r3, rfl, rfl, rfl⟩ := om_r ho
    have hf := bhe_r hf
    have hP : gP G [maW a0 (a1 0) (a2 0) (a3 0) (a4 0) (a7 0 0) (a8 0) (a9 0) (a9 1), stW G a1 r3.2.1, paW G a7 r3.2.2, ouW G a12 v12] H := hP
    have hD : gD A [maW a0 (a1 0) (a2 0) (a3 0) (a4 0) (a7 0 0) (a8 0) (a9 0) (a9 1), stW G a1 r3.2.1, paW G a7 r3.2.2, ouW G a12 v12] := hD
    by_cases c9 : r3.1 = "java/lang/IndexOutOfBoundsException"
    · rw [if_pos c9] at hf
      rw [c9] at hcl
      refine vx_catch (name := "java/lang/IndexOutOfBoundsException") hown [] ⟨0, 17, 20, 28⟩ [] (by rw [hex]; rfl) (fun z hz => absurd hz List.not_mem_nil) (by decide) (by decide) (hts _ kL_stayAway_0) (ng_use rfl (hTH.2.2.2.2 _ vc_IndexOutOfBoundsException)) hce hcv hcl ?_
      refine lv_astore (lv' := [(4, .ref q9), (0, .ref (a0 0)), (1, .int i1), (2, .int i2), (3, .ref (a12 0))]) hx hb dL_stayAway_20 hl (by decide) rfl (fun ls hl => ?_)
      refine lv_iconst (v := (1:Int32)) hx hb dL_stayAway_22 (by decide) ?_
      cases hf
      exact g_hret hx hb hr hlocks (Nat.le_of_ble_eq_true rfl) (Nat.le_of_ble_eq_true rfl) hP hS dL_stayAway_23
    · rw [if_neg c9] at hf
      cases hf
theorem kL_give_0 : Cond.classLink RL 28 "java/lang/IndexOutOfBoundsException" ∈ wsL_give := (List.mem_cons_of_mem _ (List.mem_append_left _ (List.mem_append_left _ (List.mem_append_left _ (List.mem_append_left _ (List.mem_append_left _ (List.mem_append_left _ (List.mem_append_left _ (List.mem_of_getElem? (i := 0) rfl)))))))))
theorem kL_give_1 : Cond.classLink RL 13 "java/lang/IllegalArgumentException" ∈ wsL_give := (List.mem_cons_of_mem _ (List.mem_append_left _ (List.mem_append_left _ (List.mem_append_left _ (List.mem_append_left _ (List.mem_append_left _ (List.mem_append_left _ (List.mem_append_left _ (List.mem_of_getElem? (i := 1) rfl)))))))))
theorem kL_give_2 : Cond.classLink RL 15 "java/lang/IllegalStateException" ∈ wsL_give := (List.mem_cons_of_mem _ (List.mem_append_left _ (List.mem_append_left _ (List.mem_append_left _ (List.mem_append_left _ (List.mem_append_left _ (List.mem_append_left _ (List.mem_append_left _ (List.mem_of_getElem? (i := 2) rfl)))))))))
set_option maxHeartbeats 4000000 in
set_option maxRecDepth 100000 in
theorem c_L_give (l : Launch) (hl0 : l.stackTraces = false) (G : uG) (a0 : Nat → Nat) (a1 : Nat → Nat) (a2 : Nat → Nat) (a3 : Nat → Nat) (a4 : Nat → Nat) (a5 : Nat → Nat) (a6 : Nat → Nat) (a7 : Nat → Nat → Nat) (a8 : Nat → Nat) (a9 : Nat → Nat) (a10 : Nat → Nat) (a11 : Nat → Nat) (a12 : Nat → Nat) (v1 : StV) (v7 : PaV) (v12 : OuV) (i1 : Int32) (i2 : Int32) {q : Int32 × (StV × PaV × OuV)} (hf : f_L_give v1 v7 v12 i1 i2 = some q) : mH l yL_give wsL_give ({ frames := 8, cells := 3, slots := 18, locals := 136 } : Room) G [.ref (a0 0), .int i1, .int i2, .ref (a12 0)] [maW a0 (a1 0) (a2 0) (a3 0) (a4 0) (a7 0 0) (a8 0) (a9 0) (a9 1), stW G a1 v1, paW G a7 v7, ouW G a12 v12] [maW a0 (a1 0) (a2 0) (a3 0) (a4 0) (a7 0 0) (a8 0) (a9 0) (a9 1), stW G a1 q.2.1, paW G a7 q.2.2.1, ouW G a12 q.2.2.2] (qI G [maW a0 (a1 0) (a2 0) (a3 0) (a4 0) (a7 0 0) (a8 0) (a9 0) (a9 1), stW G a1 q.2.1, paW G a7 q.2.2.1, ouW G a12 q.2.2.2] q.1) 3 18 := by
  unfold f_L_give at hf
  refine mH_of (cc := cL_give) (maxL := 5) (ret := (some .int)) (hh := [(0, 10, 13, 28), (0, 10, 17, 13), (0, 10, 21, 15)]) (by decide) rfl rfl (Nat.le_of_ble_eq_true rfl) ?_
  intro p e s m args below meth c A ls S hK hA hex hTH hP hD hS hl
  obtain ⟨hx, hb, hml, hown, hts, hr, hlocks⟩ := id S
  have hl : lv_has ls 5 [(0, .ref (a0 0)), (1, .int i1), (2, .int i2), (3, .ref (a12 0))] := hl
  refine lv_aload_n hx hb dL_give_0 rfl (lv_at hl 3 rfl) ?_
  refine lv_iconst (v := (0:Int32)) hx hb dL_give_1 (by decide) ?_
  refine lv_aload_n hx hb dL_give_2 rfl (lv_at hl 0 rfl) ?_
  refine lv_iload_n hx hb dL_give_3 rfl (lv_at hl 1 rfl) ?_
  refine lv_iload_n hx hb dL_give_4 rfl (lv_at hl 2 rfl) ?_
  obtain ⟨q1, hq1, hf⟩ := bh_some hf
  refine g_callXVi S (cells' := 3) (slots' := 18) (As := [.int i1, .int i2]) (c_X5_give l hl0 G a0 a1 a2 a3 a4 a5 a6 a7 a8 a9 a10 a11 v1 v7 i1 i2 hq1) (cwV 2 hts gL_give_X5_give rfl rfl rfl hd_X5_give ⟨Nat.le_of_ble_eq_true rfl, Nat.le_of_ble_eq_true rfl⟩) hTH hK hP hD hS hA (is := [0, 1, 2]) rfl rfl 0 rfl rfl rfl rfl hl.1 rfl (Nat.le_of_ble_eq_true rfl) dL_give_5 ⟨Nat.le_of_ble_eq_true rfl, Nat.le_of_ble_eq_true rfl⟩ rfl rfl (fun x u ho H locs hP hD hS => ?_) (fun E u ho ce q9 H locs hP hD hS hce hcv hcl => ?_)
  · obtain ⟨r2, rfl, rfl, rfl⟩ := om_l ho
    have hf := bhe_l hf
    have hP : gP G [maW a0 (a1 0) (a2 0) (a3 0) (a4 0) (a7 0 0) (a8 0) (a9 0) (a9 1), stW G a1 r2.2.1, paW G a7 r2.2.2, ouW G a12 v12] H := hP
    have hD : gD A [maW a0 (a1 0) (a2 0) (a3 0) (a4 0) (a7 0 0) (a8 0) (a9 0) (a9 1), stW G a1 r2.2.1, paW G a7 r2.2.2, ouW G a12 v12] := hD
    refine lv_i2l (v := r2.1.toInt64) hx hb dL_give_8 rfl ?_
    obtain ⟨h4, hf⟩ := gi_some hf
    obtain ⟨u5, eu5, hf⟩ := lt_some hf
    refine g_last (gs' := [maW a0 (a1 0) (a2 0) (a3 0) (a4 0) (a7 0 0) (a8 0) (a9 0) (a9 1), stW G a1 r2.2.1, paW G a7 r2.2.2, ouW G a12 u5]) hx hb hK hP hD hS 3 0 3 rfl rfl rfl h4 dL_give_9 (by rw [eu5]; rfl) (fun H locs hP hD hS => ?_)
    refine lv_goto (tgt := 25) hx hb dL_give_10 (by decide) ?_
    refine lv_iconst (v := (0:Int32)) hx hb dL_give_25 (by decide) ?_
    cases hf
    exact g_hret hx hb hr hlocks (Nat.le_of_ble_eq_true rfl) (Nat.le_of_ble_eq_true rfl) hP hS dL_give_26
  · obtain ⟨r3, rfl, rfl, rfl⟩ := om_r ho
    have hf := bhe_r hf
    have hP : gP G [maW a0 (a1 0) (a2 0) (a3 0) (a4 0) (a7 0 0) (a8 0) (a9 0) (a9 1), stW G a1 r3.2.1, paW G a7 r3.2.2, ouW G a12 v12] H := hP
    have hD : gD A [maW a0 (a1 0) (a2 0) (a3 0) (a4 0) (a7 0 0) (a8 0) (a9 0) (a9 1), stW G a1 r3.2.1, paW G a7 r3.2.2, ouW G a12 v12] := hD
    by_cases c6 : r3.1 = "java/lang/IndexOutOfBoundsException"
    · rw [if_pos c6] at hf
      rw [c6] at hcl
      refine vx_catch (name := "java/lang/IndexOutOfBoundsException") hown [] ⟨0, 10, 13, 28⟩ [⟨0, 10, 17, 13⟩, ⟨0, 10, 21, 15⟩] (by rw [hex]; rfl) (fun z hz => absurd hz List.not_mem_nil) (by decide) (by decide) (hts _ kL_give_0) (ng_use rfl (hTH.2.2.2.2 _ vc_IndexOutOfBoundsException)) hce hcv hcl ?_
      refine lv_astore (lv' := [(4, .ref q9), (0, .ref (a0 0)), (1, .int i1), (2, .int i2), (3, .ref (a12 0))]) hx hb dL_give_13 hl (by decide) rfl (fun ls hl => ?_)
      refine lv_iconst (v := (1:Int32)) hx hb dL_give_15 (by decide) ?_
      cases hf
      exact g_hret hx hb hr hlocks (Nat.le_of_ble_eq_true rfl) (Nat.le_of_ble_eq_true rfl) hP hS dL_give_16
    · rw [if_neg c6] at hf
      by_cases c7 : r3.1 = "java/lang/IllegalArgumentException"
      · rw [if_pos c7] at hf
        rw [c7] at hcl
        refine vx_catch (name := "java/lang/IllegalArgumentException") hown [⟨0, 10, 13, 28⟩] ⟨0, 10, 17, 13⟩ [⟨0, 10, 21, 15⟩] (by rw [hex]; rfl) (List.forall_mem_cons.mpr ⟨Or.inr ⟨by decide, "java/lang/IndexOutOfBoundsException", (hts _ kL_give_0), hTH.2.2.2.1 _ (List.mem_of_getElem? (i := 3) rfl)⟩, (fun z hz => absurd hz List.not_mem_nil)⟩) (by decide) (by decide) (hts _ kL_give_1) (ng_use rfl (hTH.2.2.2.2 _ vc_IllegalArgumentException)) hce hcv hcl ?_
        refine lv_astore (lv' := [(4, .ref q9), (0, .ref (a0 0)), (1, .int i1), (2, .int i2), (3, .ref (a12 0))]) hx hb dL_give_17 hl (by decide) rfl (fun ls hl => ?_)
        refine lv_iconst (v := (2:Int32)) hx hb dL_give_19 (by decide) ?_
        cases hf
        exact g_hret hx hb hr hlocks (Nat.le_of_ble_eq_true rfl) (Nat.le_of_ble_eq_true rfl) hP hS dL_give_20
      · rw [if_neg c7] at hf
        by_cases c8 : r3.1 = "java/lang/IllegalStateException"
        · rw [if_pos c8] at hf
          rw [c8] at hcl
          refine vx_catch (name := "java/lang/IllegalStateException") hown [⟨0, 10, 13, 28⟩, ⟨0, 10, 17, 13⟩] ⟨0, 10, 21, 15⟩ [] (by rw [hex]; rfl) (List.forall_mem_cons.mpr ⟨Or.inr ⟨by decide, "java/lang/IndexOutOfBoundsException", (hts _ kL_give_0), hTH.2.2.2.1 _ (List.mem_of_getElem? (i := 1) rfl)⟩, (List.forall_mem_cons.mpr ⟨Or.inr ⟨by decide, "java/lang/IllegalArgumentException", (hts _ kL_give_1), hTH.2.2.2.1 _ (List.mem_of_getElem? (i := 0) rfl)⟩, (fun z hz => absurd hz List.not_mem_nil)⟩)⟩) (by decide) (by decide) (hts _ kL_give_2) (ng_use rfl (hTH.2.2.2.2 _ vc_IllegalStateException)) hce hcv hcl ?_
          refine lv_astore (lv' := [(4, .ref q9), (0, .ref (a0 0)), (1, .int i1), (2, .int i2), (3, .ref (a12 0))]) hx hb dL_give_21 hl (by decide) rfl (fun ls hl => ?_)
          refine lv_iconst (v := (3:Int32)) hx hb dL_give_23 (by decide) ?_
          cases hf
          exact g_hret hx hb hr hlocks (Nat.le_of_ble_eq_true rfl) (Nat.le_of_ble_eq_true rfl) hP hS dL_give_24
        · rw [if_neg c8] at hf
          cases hf
theorem kL_month_0 : Cond.classLink RL 15 "java/lang/IllegalStateException" ∈ wsL_month := (List.mem_cons_of_mem _ (List.mem_append_left _ (List.mem_append_left _ (List.mem_append_left _ (List.mem_append_left _ (List.mem_append_left _ (List.mem_append_left _ (List.mem_of_getElem? (i := 0) rfl))))))))
set_option maxHeartbeats 4000000 in
set_option maxRecDepth 100000 in
theorem c_L_month (l : Launch) (hl0 : l.stackTraces = false) (G : uG) (a0 : Nat → Nat) (a1 : Nat → Nat) (a2 : Nat → Nat) (a3 : Nat → Nat) (a4 : Nat → Nat) (a5 : Nat → Nat) (a6 : Nat → Nat) (a7 : Nat → Nat → Nat) (a8 : Nat → Nat) (a9 : Nat → Nat) (a10 : Nat → Nat) (a11 : Nat → Nat) (a12 : Nat → Nat) (v1 : StV) (v3 : RdV) (v7 : PaV) (v12 : OuV) {q : Int32 × (StV × RdV × PaV × OuV)} (hf : f_L_month v1 v3 v7 v12 = some q) : mH l yL_month wsL_month ({ frames := 7, cells := 1, slots := 6, locals := 113 } : Room) G [.ref (a0 0), .ref (a12 0)] [maW a0 (a1 0) (a2 0) (a3 0) (a4 0) (a7 0 0) (a8 0) (a9 0) (a9 1), stW G a1 v1, rdW G a3 v3, paW G a7 v7, ouW G a12 v12] [maW a0 (a1 0) (a2 0) (a3 0) (a4 0) (a7 0 0) (a8 0) (a9 0) (a9 1), stW G a1 q.2.1, rdW G a3 q.2.2.1, paW G a7 q.2.2.2.1, ouW G a12 q.2.2.2.2] (qI G [maW a0 (a1 0) (a2 0) (a3 0) (a4 0) (a7 0 0) (a8 0) (a9 0) (a9 1), stW G a1 q.2.1, rdW G a3 q.2.2.1, paW G a7 q.2.2.2.1, ouW G a12 q.2.2.2.2] q.1) 1 6 := by
  unfold f_L_month at hf
  refine mH_of (cc := cL_month) (maxL := 3) (ret := (some .int)) (hh := [(0, 8, 11, 15)]) (by decide) rfl rfl (Nat.le_of_ble_eq_true rfl) ?_
  intro p e s m args below meth c A ls S hK hA hex hTH hP hD hS hl
  obtain ⟨hx, hb, hml, hown, hts, hr, hlocks⟩ := id S
  have hl : lv_has ls 3 [(0, .ref (a0 0)), (1, .ref (a12 0))] := hl
  refine lv_aload_n hx hb dL_month_0 rfl (lv_at hl 1 rfl) ?_
  refine lv_iconst (v := (0:Int32)) hx hb dL_month_1 (by decide) ?_
  refine lv_aload_n hx hb dL_month_2 rfl (lv_at hl 0 rfl) ?_
  obtain ⟨q1, hq1, hf⟩ := bh_some hf
  refine g_callXVi S (cells' := 1) (slots' := 6) (As := []) (c_X5_month l hl0 G a0 a1 a2 a3 a4 a5 a6 a7 a8 a9 a10 a11 v1 v3 v7 hq1) (cwV 0 hts gL_month_X5_month rfl rfl rfl hd_X5_month ⟨Nat.le_of_ble_eq_true rfl, Nat.le_of_ble_eq_true rfl⟩) hTH hK hP hD hS hA (is := [0, 1, 2, 3]) rfl rfl 0 rfl rfl rfl rfl hl.1 rfl (Nat.le_of_ble_eq_true rfl) dL_month_3 ⟨Nat.le_of_ble_eq_true rfl, Nat.le_of_ble_eq_true rfl⟩ rfl rfl (fun x u ho H locs hP hD hS => ?_) (fun E u ho ce q9 H locs hP hD hS hce hcv hcl => ?_)
  · obtain ⟨r2, rfl, rfl, rfl⟩ := om_l ho
    have hf := bhe_l hf
    have hP : gP G [maW a0 (a1 0) (a2 0) (a3 0) (a4 0) (a7 0 0) (a8 0) (a9 0) (a9 1), stW G a1 r2.2.1, rdW G a3 r2.2.2.1, paW G a7 r2.2.2.2, ouW G a12 v12] H := hP
    have hD : gD A [maW a0 (a1 0) (a2 0) (a3 0) (a4 0) (a7 0 0) (a8 0) (a9 0) (a9 1), stW G a1 r2.2.1, rdW G a3 r2.2.2.1, paW G a7 r2.2.2.2, ouW G a12 v12] := hD
    refine lv_i2l (v := r2.1.toInt64) hx hb dL_month_6 rfl ?_
    obtain ⟨h4, hf⟩ := gi_some hf
    obtain ⟨u5, eu5, hf⟩ := lt_some hf
    refine g_last (gs' := [maW a0 (a1 0) (a2 0) (a3 0) (a4 0) (a7 0 0) (a8 0) (a9 0) (a9 1), stW G a1 r2.2.1, rdW G a3 r2.2.2.1, paW G a7 r2.2.2.2, ouW G a12 u5]) hx hb hK hP hD hS 4 0 3 rfl rfl rfl h4 dL_month_7 (by rw [eu5]; rfl) (fun H locs hP hD hS => ?_)
    refine lv_goto (tgt := 14) hx hb dL_month_8 (by decide) ?_
    refine lv_iconst (v := (0:Int32)) hx hb dL_month_14 (by decide) ?_
    cases hf
    exact g_hret hx hb hr hlocks (Nat.le_of_ble_eq_true rfl) (Nat.le_of_ble_eq_true rfl) hP hS dL_month_15
  · obtain ⟨r3, rfl, rfl, rfl⟩ := om_r ho
    have hf := bhe_r hf
    have hP : gP G [maW a0 (a1 0) (a2 0) (a3 0) (a4 0) (a7 0 0) (a8 0) (a9 0) (a9 1), stW G a1 r3.2.1, rdW G a3 r3.2.2.1, paW G a7 r3.2.2.2, ouW G a12 v12] H := hP
    have hD : gD A [maW a0 (a1 0) (a2 0) (a3 0) (a4 0) (a7 0 0) (a8 0) (a9 0) (a9 1), stW G a1 r3.2.1, rdW G a3 r3.2.2.1, paW G a7 r3.2.2.2, ouW G a12 v12] := hD
    by_cases c6 : r3.1 = "java/lang/IllegalStateException"
    · rw [if_pos c6] at hf
      rw [c6] at hcl
      refine vx_catch (name := "java/lang/IllegalStateException") hown [] ⟨0, 8, 11, 15⟩ [] (by rw [hex]; rfl) (fun z hz => absurd hz List.not_mem_nil) (by decide) (by decide) (hts _ kL_month_0) (ng_use rfl (hTH.2.2.2.2 _ vc_IllegalStateException)) hce hcv hcl ?_
      refine lv_astore_n (lv' := [(2, .ref q9), (0, .ref (a0 0)), (1, .ref (a12 0))]) hx hb dL_month_11 rfl hl (by decide) rfl (fun ls hl => ?_)
      refine lv_iconst (v := (1:Int32)) hx hb dL_month_12 (by decide) ?_
      cases hf
      exact g_hret hx hb hr hlocks (Nat.le_of_ble_eq_true rfl) (Nat.le_of_ble_eq_true rfl) hP hS dL_month_13
    · rw [if_neg c6] at hf
      cases hf
theorem kL_leave_0 : Cond.classLink RL 28 "java/lang/IndexOutOfBoundsException" ∈ wsL_leave := (List.mem_cons_of_mem _ (List.mem_append_left _ (List.mem_append_left _ (List.mem_append_left _ (List.mem_append_left _ (List.mem_append_left _ (List.mem_append_left _ (List.mem_of_getElem? (i := 0) rfl))))))))
theorem kL_leave_1 : Cond.classLink RL 15 "java/lang/IllegalStateException" ∈ wsL_leave := (List.mem_cons_of_mem _ (List.mem_append_left _ (List.mem_append_left _ (List.mem_append_left _ (List.mem_append_left _ (List.mem_append_left _ (List.mem_append_left _ (List.mem_of_getElem? (i := 1) rfl))))))))
set_option maxHeartbeats 4000000 in
set_option maxRecDepth 100000 in
theorem c_L_leave (l : Launch) (hl0 : l.stackTraces = false) (G : uG) (a0 : Nat → Nat) (a1 : Nat → Nat) (a2 : Nat → Nat) (a3 : Nat → Nat) (a4 : Nat → Nat) (a5 : Nat → Nat) (a6 : Nat → Nat) (a7 : Nat → Nat → Nat) (a8 : Nat → Nat) (a9 : Nat → Nat) (a10 : Nat → Nat) (a11 : Nat → Nat) (a12 : Nat → Nat) (v1 : StV) (v7 : PaV) (v12 : OuV) (i1 : Int32) {q : Int32 × (StV × PaV × OuV)} (hf : f_L_leave v1 v7 v12 i1 = some q) : mH l yL_leave wsL_leave ({ frames := 8, cells := 2, slots := 12, locals := 134 } : Room) G [.ref (a0 0), .int i1, .ref (a12 0)] [maW a0 (a1 0) (a2 0) (a3 0) (a4 0) (a7 0 0) (a8 0) (a9 0) (a9 1), stW G a1 v1, paW G a7 v7, ouW G a12 v12] [maW a0 (a1 0) (a2 0) (a3 0) (a4 0) (a7 0 0) (a8 0) (a9 0) (a9 1), stW G a1 q.2.1, paW G a7 q.2.2.1, ouW G a12 q.2.2.2] (qI G [maW a0 (a1 0) (a2 0) (a3 0) (a4 0) (a7 0 0) (a8 0) (a9 0) (a9 1), stW G a1 q.2.1, paW G a7 q.2.2.1, ouW G a12 q.2.2.2] q.1) 2 12 := by
  unfold f_L_leave at hf
  refine mH_of (cc := cL_leave) (maxL := 4) (ret := (some .int)) (hh := [(0, 9, 12, 28), (0, 9, 15, 15)]) (by decide) rfl rfl (Nat.le_of_ble_eq_true rfl) ?_
  intro p e s m args below meth c A ls S hK hA hex hTH hP hD hS hl
  obtain ⟨hx, hb, hml, hown, hts, hr, hlocks⟩ := id S
  have hl : lv_has ls 4 [(0, .ref (a0 0)), (1, .int i1), (2, .ref (a12 0))] := hl
  refine lv_aload_n hx hb dL_leave_0 rfl (lv_at hl 2 rfl) ?_
  refine lv_iconst (v := (0:Int32)) hx hb dL_leave_1 (by decide) ?_
  refine lv_aload_n hx hb dL_leave_2 rfl (lv_at hl 0 rfl) ?_
  refine lv_iload_n hx hb dL_leave_3 rfl (lv_at hl 1 rfl) ?_
  obtain ⟨q1, hq1, hf⟩ := bh_some hf
  refine g_callXVi S (cells' := 2) (slots' := 12) (As := [.int i1]) (c_X5_leave l hl0 G a0 a1 a2 a3 a4 a5 a6 a7 a8 a9 a10 a11 v1 v7 i1 hq1) (cwV 1 hts gL_leave_X5_leave rfl rfl rfl hd_X5_leave ⟨Nat.le_of_ble_eq_true rfl, Nat.le_of_ble_eq_true rfl⟩) hTH hK hP hD hS hA (is := [0, 1, 2]) rfl rfl 0 rfl rfl rfl rfl hl.1 rfl (Nat.le_of_ble_eq_true rfl) dL_leave_4 ⟨Nat.le_of_ble_eq_true rfl, Nat.le_of_ble_eq_true rfl⟩ rfl rfl (fun x u ho H locs hP hD hS => ?_) (fun E u ho ce q9 H locs hP hD hS hce hcv hcl => ?_)
  · obtain ⟨r2, rfl, rfl, rfl⟩ := om_l ho
    have hf := bhe_l hf
    have hP : gP G [maW a0 (a1 0) (a2 0) (a3 0) (a4 0) (a7 0 0) (a8 0) (a9 0) (a9 1), stW G a1 r2.2.1, paW G a7 r2.2.2, ouW G a12 v12] H := hP
    have hD : gD A [maW a0 (a1 0) (a2 0) (a3 0) (a4 0) (a7 0 0) (a8 0) (a9 0) (a9 1), stW G a1 r2.2.1, paW G a7 r2.2.2, ouW G a12 v12] := hD
    refine lv_i2l (v := r2.1.toInt64) hx hb dL_leave_7 rfl ?_
    obtain ⟨h4, hf⟩ := gi_some hf
    obtain ⟨u5, eu5, hf⟩ := lt_some hf
    refine g_last (gs' := [maW a0 (a1 0) (a2 0) (a3 0) (a4 0) (a7 0 0) (a8 0) (a9 0) (a9 1), stW G a1 r2.2.1, paW G a7 r2.2.2, ouW G a12 u5]) hx hb hK hP hD hS 3 0 3 rfl rfl rfl h4 dL_leave_8 (by rw [eu5]; rfl) (fun H locs hP hD hS => ?_)
    refine lv_goto (tgt := 18) hx hb dL_leave_9 (by decide) ?_
    refine lv_iconst (v := (0:Int32)) hx hb dL_leave_18 (by decide) ?_
    cases hf
    exact g_hret hx hb hr hlocks (Nat.le_of_ble_eq_true rfl) (Nat.le_of_ble_eq_true rfl) hP hS dL_leave_19
  · obtain ⟨r3, rfl, rfl, rfl⟩ := om_r ho
    have hf := bhe_r hf
    have hP : gP G [maW a0 (a1 0) (a2 0) (a3 0) (a4 0) (a7 0 0) (a8 0) (a9 0) (a9 1), stW G a1 r3.2.1, paW G a7 r3.2.2, ouW G a12 v12] H := hP
    have hD : gD A [maW a0 (a1 0) (a2 0) (a3 0) (a4 0) (a7 0 0) (a8 0) (a9 0) (a9 1), stW G a1 r3.2.1, paW G a7 r3.2.2, ouW G a12 v12] := hD
    by_cases c6 : r3.1 = "java/lang/IndexOutOfBoundsException"
    · rw [if_pos c6] at hf
      rw [c6] at hcl
      refine vx_catch (name := "java/lang/IndexOutOfBoundsException") hown [] ⟨0, 9, 12, 28⟩ [⟨0, 9, 15, 15⟩] (by rw [hex]; rfl) (fun z hz => absurd hz List.not_mem_nil) (by decide) (by decide) (hts _ kL_leave_0) (ng_use rfl (hTH.2.2.2.2 _ vc_IndexOutOfBoundsException)) hce hcv hcl ?_
      refine lv_astore_n (lv' := [(3, .ref q9), (0, .ref (a0 0)), (1, .int i1), (2, .ref (a12 0))]) hx hb dL_leave_12 rfl hl (by decide) rfl (fun ls hl => ?_)
      refine lv_iconst (v := (1:Int32)) hx hb dL_leave_13 (by decide) ?_
      cases hf
      exact g_hret hx hb hr hlocks (Nat.le_of_ble_eq_true rfl) (Nat.le_of_ble_eq_true rfl) hP hS dL_leave_14
    · rw [if_neg c6] at hf
      by_cases c7 : r3.1 = "java/lang/IllegalStateException"
      · rw [if_pos c7] at hf
        rw [c7] at hcl
        refine vx_catch (name := "java/lang/IllegalStateException") hown [⟨0, 9, 12, 28⟩] ⟨0, 9, 15, 15⟩ [] (by rw [hex]; rfl) (List.forall_mem_cons.mpr ⟨Or.inr ⟨by decide, "java/lang/IndexOutOfBoundsException", (hts _ kL_leave_0), hTH.2.2.2.1 _ (List.mem_of_getElem? (i := 1) rfl)⟩, (fun z hz => absurd hz List.not_mem_nil)⟩) (by decide) (by decide) (hts _ kL_leave_1) (ng_use rfl (hTH.2.2.2.2 _ vc_IllegalStateException)) hce hcv hcl ?_
        refine lv_astore_n (lv' := [(3, .ref q9), (0, .ref (a0 0)), (1, .int i1), (2, .ref (a12 0))]) hx hb dL_leave_15 rfl hl (by decide) rfl (fun ls hl => ?_)
        refine lv_iconst (v := (2:Int32)) hx hb dL_leave_16 (by decide) ?_
        cases hf
        exact g_hret hx hb hr hlocks (Nat.le_of_ble_eq_true rfl) (Nat.le_of_ble_eq_true rfl) hP hS dL_leave_17
      · rw [if_neg c7] at hf
        cases hf
theorem kL_repay_0 : Cond.classLink RL 28 "java/lang/IndexOutOfBoundsException" ∈ wsL_repay := (List.mem_cons_of_mem _ (List.mem_append_left _ (List.mem_append_left _ (List.mem_append_left _ (List.mem_append_left _ (List.mem_append_left _ (List.mem_append_left _ (List.mem_of_getElem? (i := 0) rfl))))))))
theorem kL_repay_1 : Cond.classLink RL 13 "java/lang/IllegalArgumentException" ∈ wsL_repay := (List.mem_cons_of_mem _ (List.mem_append_left _ (List.mem_append_left _ (List.mem_append_left _ (List.mem_append_left _ (List.mem_append_left _ (List.mem_append_left _ (List.mem_of_getElem? (i := 1) rfl))))))))
set_option maxHeartbeats 4000000 in
set_option maxRecDepth 100000 in
theorem c_L_repay (l : Launch) (hl0 : l.stackTraces = false) (G : uG) (a0 : Nat → Nat) (a1 : Nat → Nat) (a2 : Nat → Nat) (a3 : Nat → Nat) (a4 : Nat → Nat) (a5 : Nat → Nat) (a6 : Nat → Nat) (a7 : Nat → Nat → Nat) (a8 : Nat → Nat) (a9 : Nat → Nat) (a10 : Nat → Nat) (a11 : Nat → Nat) (a12 : Nat → Nat) (v1 : StV) (v7 : PaV) (v12 : OuV) (i1 : Int32) (i2 : Int32) {q : Int32 × (StV × PaV × OuV)} (hf : f_L_repay v1 v7 v12 i1 i2 = some q) : mH l yL_repay wsL_repay ({ frames := 9, cells := 3, slots := 18, locals := 158 } : Room) G [.ref (a0 0), .int i1, .int i2, .ref (a12 0)] [maW a0 (a1 0) (a2 0) (a3 0) (a4 0) (a7 0 0) (a8 0) (a9 0) (a9 1), stW G a1 v1, paW G a7 v7, ouW G a12 v12] [maW a0 (a1 0) (a2 0) (a3 0) (a4 0) (a7 0 0) (a8 0) (a9 0) (a9 1), stW G a1 q.2.1, paW G a7 q.2.2.1, ouW G a12 q.2.2.2] (qI G [maW a0 (a1 0) (a2 0) (a3 0) (a4 0) (a7 0 0) (a8 0) (a9 0) (a9 1), stW G a1 q.2.1, paW G a7 q.2.2.1, ouW G a12 q.2.2.2] q.1) 3 18 := by
  unfold f_L_repay at hf
  refine mH_of (cc := cL_repay) (maxL := 5) (ret := (some .int)) (hh := [(0, 10, 13, 28), (0, 10, 17, 13)]) (by decide) rfl rfl (Nat.le_of_ble_eq_true rfl) ?_
  intro p e s m args below meth c A ls S hK hA hex hTH hP hD hS hl
  obtain ⟨hx, hb, hml, hown, hts, hr, hlocks⟩ := id S
  have hl : lv_has ls 5 [(0, .ref (a0 0)), (1, .int i1), (2, .int i2), (3, .ref (a12 0))] := hl
  refine lv_aload_n hx hb dL_repay_0 rfl (lv_at hl 3 rfl) ?_
  refine lv_iconst (v := (0:Int32)) hx hb dL_repay_1 (by decide) ?_
  refine lv_aload_n hx hb dL_repay_2 rfl (lv_at hl 0 rfl) ?_
  refine lv_iload_n hx hb dL_repay_3 rfl (lv_at hl 1 rfl) ?_
  refine lv_iload_n hx hb dL_repay_4 rfl (lv_at hl 2 rfl) ?_
  obtain ⟨q1, hq1, hf⟩ := bh_some hf
  refine g_callXVi S (cells' := 3) (slots' := 18) (As := [.int i1, .int i2]) (c_X5_repay l hl0 G a0 a1 a2 a3 a4 a5 a6 a7 a8 a9 a10 a11 v1 v7 i1 i2 hq1) (cwV 2 hts gL_repay_X5_repay rfl rfl rfl hd_X5_repay ⟨Nat.le_of_ble_eq_true rfl, Nat.le_of_ble_eq_true rfl⟩) hTH hK hP hD hS hA (is := [0, 1, 2]) rfl rfl 0 rfl rfl rfl rfl hl.1 rfl (Nat.le_of_ble_eq_true rfl) dL_repay_5 ⟨Nat.le_of_ble_eq_true rfl, Nat.le_of_ble_eq_true rfl⟩ rfl rfl (fun x u ho H locs hP hD hS => ?_) (fun E u ho ce q9 H locs hP hD hS hce hcv hcl => ?_)
  · obtain ⟨r2, rfl, rfl, rfl⟩ := om_l ho
    have hf := bhe_l hf
    have hP : gP G [maW a0 (a1 0) (a2 0) (a3 0) (a4 0) (a7 0 0) (a8 0) (a9 0) (a9 1), stW G a1 r2.2.1, paW G a7 r2.2.2, ouW G a12 v12] H := hP
    have hD : gD A [maW a0 (a1 0) (a2 0) (a3 0) (a4 0) (a7 0 0) (a8 0) (a9 0) (a9 1), stW G a1 r2.2.1, paW G a7 r2.2.2, ouW G a12 v12] := hD
    refine lv_i2l (v := r2.1.toInt64) hx hb dL_repay_8 rfl ?_
    obtain ⟨h4, hf⟩ := gi_some hf
    obtain ⟨u5, eu5, hf⟩ := lt_some hf
    refine g_last (gs' := [maW a0 (a1 0) (a2 0) (a3 0) (a4 0) (a7 0 0) (a8 0) (a9 0) (a9 1), stW G a1 r2.2.1, paW G a7 r2.2.2, ouW G a12 u5]) hx hb hK hP hD hS 3 0 3 rfl rfl rfl h4 dL_repay_9 (by rw [eu5]; rfl) (fun H locs hP hD hS => ?_)
    refine lv_goto (tgt := 21) hx hb dL_repay_10 (by decide) ?_
    refine lv_iconst (v := (0:Int32)) hx hb dL_repay_21 (by decide) ?_
    cases hf
    exact g_hret hx hb hr hlocks (Nat.le_of_ble_eq_true rfl) (Nat.le_of_ble_eq_true rfl) hP hS dL_repay_22
  · obtain ⟨r3, rfl, rfl, rfl⟩ := om_r ho
    have hf := bhe_r hf
    have hP : gP G [maW a0 (a1 0) (a2 0) (a3 0) (a4 0) (a7 0 0) (a8 0) (a9 0) (a9 1), stW G a1 r3.2.1, paW G a7 r3.2.2, ouW G a12 v12] H := hP
    have hD : gD A [maW a0 (a1 0) (a2 0) (a3 0) (a4 0) (a7 0 0) (a8 0) (a9 0) (a9 1), stW G a1 r3.2.1, paW G a7 r3.2.2, ouW G a12 v12] := hD
    by_cases c6 : r3.1 = "java/lang/IndexOutOfBoundsException"
    · rw [if_pos c6] at hf
      rw [c6] at hcl
      refine vx_catch (name := "java/lang/IndexOutOfBoundsException") hown [] ⟨0, 10, 13, 28⟩ [⟨0, 10, 17, 13⟩] (by rw [hex]; rfl) (fun z hz => absurd hz List.not_mem_nil) (by decide) (by decide) (hts _ kL_repay_0) (ng_use rfl (hTH.2.2.2.2 _ vc_IndexOutOfBoundsException)) hce hcv hcl ?_
      refine lv_astore (lv' := [(4, .ref q9), (0, .ref (a0 0)), (1, .int i1), (2, .int i2), (3, .ref (a12 0))]) hx hb dL_repay_13 hl (by decide) rfl (fun ls hl => ?_)
      refine lv_iconst (v := (1:Int32)) hx hb dL_repay_15 (by decide) ?_
      cases hf
      exact g_hret hx hb hr hlocks (Nat.le_of_ble_eq_true rfl) (Nat.le_of_ble_eq_true rfl) hP hS dL_repay_16
    · rw [if_neg c6] at hf
      by_cases c7 : r3.1 = "java/lang/IllegalArgumentException"
      · rw [if_pos c7] at hf
        rw [c7] at hcl
        refine vx_catch (name := "java/lang/IllegalArgumentException") hown [⟨0, 10, 13, 28⟩] ⟨0, 10, 17, 13⟩ [] (by rw [hex]; rfl) (List.forall_mem_cons.mpr ⟨Or.inr ⟨by decide, "java/lang/IndexOutOfBoundsException", (hts _ kL_repay_0), hTH.2.2.2.1 _ (List.mem_of_getElem? (i := 3) rfl)⟩, (fun z hz => absurd hz List.not_mem_nil)⟩) (by decide) (by decide) (hts _ kL_repay_1) (ng_use rfl (hTH.2.2.2.2 _ vc_IllegalArgumentException)) hce hcv hcl ?_
        refine lv_astore (lv' := [(4, .ref q9), (0, .ref (a0 0)), (1, .int i1), (2, .int i2), (3, .ref (a12 0))]) hx hb dL_repay_17 hl (by decide) rfl (fun ls hl => ?_)
        refine lv_iconst (v := (2:Int32)) hx hb dL_repay_19 (by decide) ?_
        cases hf
        exact g_hret hx hb hr hlocks (Nat.le_of_ble_eq_true rfl) (Nat.le_of_ble_eq_true rfl) hP hS dL_repay_20
      · rw [if_neg c7] at hf
        cases hf
theorem kL_undo_0 : Cond.classLink RL 15 "java/lang/IllegalStateException" ∈ wsL_undo := (List.mem_cons_of_mem _ (List.mem_append_left _ (List.mem_append_left _ (List.mem_append_left _ (List.mem_append_left _ (List.mem_append_left _ (List.mem_of_getElem? (i := 0) rfl)))))))
set_option maxHeartbeats 4000000 in
set_option maxRecDepth 100000 in
theorem c_L_undo (l : Launch) (hl0 : l.stackTraces = false) (G : uG) (a0 : Nat → Nat) (a1 : Nat → Nat) (a2 : Nat → Nat) (a3 : Nat → Nat) (a4 : Nat → Nat) (a5 : Nat → Nat) (a6 : Nat → Nat) (a7 : Nat → Nat → Nat) (a8 : Nat → Nat) (a9 : Nat → Nat) (a10 : Nat → Nat) (a11 : Nat → Nat) (a12 : Nat → Nat) (v1 : StV) (v7 : PaV) (v12 : OuV) {q : Int32 × (StV × PaV × OuV)} (hf : f_L_undo v1 v7 v12 = some q) : mH l yL_undo wsL_undo ({ frames := 7, cells := 1, slots := 6, locals := 112 } : Room) G [.ref (a0 0), .ref (a12 0)] [maW a0 (a1 0) (a2 0) (a3 0) (a4 0) (a7 0 0) (a8 0) (a9 0) (a9 1), stW G a1 v1, paW G a7 v7, ouW G a12 v12] [maW a0 (a1 0) (a2 0) (a3 0) (a4 0) (a7 0 0) (a8 0) (a9 0) (a9 1), stW G a1 q.2.1, paW G a7 q.2.2.1, ouW G a12 q.2.2.2] (qI G [maW a0 (a1 0) (a2 0) (a3 0) (a4 0) (a7 0 0) (a8 0) (a9 0) (a9 1), stW G a1 q.2.1, paW G a7 q.2.2.1, ouW G a12 q.2.2.2] q.1) 1 6 := by
  unfold f_L_undo at hf
  refine mH_of (cc := cL_undo) (maxL := 3) (ret := (some .int)) (hh := [(0, 8, 11, 15)]) (by decide) rfl rfl (Nat.le_of_ble_eq_true rfl) ?_
  intro p e s m args below meth c A ls S hK hA hex hTH hP hD hS hl
  obtain ⟨hx, hb, hml, hown, hts, hr, hlocks⟩ := id S
  have hl : lv_has ls 3 [(0, .ref (a0 0)), (1, .ref (a12 0))] := hl
  refine lv_aload_n hx hb dL_undo_0 rfl (lv_at hl 1 rfl) ?_
  refine lv_iconst (v := (0:Int32)) hx hb dL_undo_1 (by decide) ?_
  refine lv_aload_n hx hb dL_undo_2 rfl (lv_at hl 0 rfl) ?_
  obtain ⟨q1, hq1, hf⟩ := bh_some hf
  refine g_callXVi S (cells' := 1) (slots' := 6) (As := []) (c_X5_undo l hl0 G a0 a1 a2 a3 a4 a5 a6 a7 a8 a9 a10 a11 v1 v7 hq1) (cwV 0 hts gL_undo_X5_undo rfl rfl rfl hd_X5_undo ⟨Nat.le_of_ble_eq_true rfl, Nat.le_of_ble_eq_true rfl⟩) hTH hK hP hD hS hA (is := [0, 1, 2]) rfl rfl 0 rfl rfl rfl rfl hl.1 rfl (Nat.le_of_ble_eq_true rfl) dL_undo_3 ⟨Nat.le_of_ble_eq_true rfl, Nat.le_of_ble_eq_true rfl⟩ rfl rfl (fun x u ho H locs hP hD hS => ?_) (fun E u ho ce q9 H locs hP hD hS hce hcv hcl => ?_)
  · obtain ⟨r2, rfl, rfl, rfl⟩ := om_l ho
    have hf := bhe_l hf
    have hP : gP G [maW a0 (a1 0) (a2 0) (a3 0) (a4 0) (a7 0 0) (a8 0) (a9 0) (a9 1), stW G a1 r2.2.1, paW G a7 r2.2.2, ouW G a12 v12] H := hP
    have hD : gD A [maW a0 (a1 0) (a2 0) (a3 0) (a4 0) (a7 0 0) (a8 0) (a9 0) (a9 1), stW G a1 r2.2.1, paW G a7 r2.2.2, ouW G a12 v12] := hD
    refine lv_i2l (v := r2.1.toInt64) hx hb dL_undo_6 rfl ?_
    obtain ⟨h4, hf⟩ := gi_some hf
    obtain ⟨u5, eu5, hf⟩ := lt_some hf
    refine g_last (gs' := [maW a0 (a1 0) (a2 0) (a3 0) (a4 0) (a7 0 0) (a8 0) (a9 0) (a9 1), stW G a1 r2.2.1, paW G a7 r2.2.2, ouW G a12 u5]) hx hb hK hP hD hS 3 0 3 rfl rfl rfl h4 dL_undo_7 (by rw [eu5]; rfl) (fun H locs hP hD hS => ?_)
    refine lv_goto (tgt := 14) hx hb dL_undo_8 (by decide) ?_
    refine lv_iconst (v := (0:Int32)) hx hb dL_undo_14 (by decide) ?_
    cases hf
    exact g_hret hx hb hr hlocks (Nat.le_of_ble_eq_true rfl) (Nat.le_of_ble_eq_true rfl) hP hS dL_undo_15
  · obtain ⟨r3, rfl, rfl, rfl⟩ := om_r ho
    have hf := bhe_r hf
    have hP : gP G [maW a0 (a1 0) (a2 0) (a3 0) (a4 0) (a7 0 0) (a8 0) (a9 0) (a9 1), stW G a1 r3.2.1, paW G a7 r3.2.2, ouW G a12 v12] H := hP
    have hD : gD A [maW a0 (a1 0) (a2 0) (a3 0) (a4 0) (a7 0 0) (a8 0) (a9 0) (a9 1), stW G a1 r3.2.1, paW G a7 r3.2.2, ouW G a12 v12] := hD
    by_cases c6 : r3.1 = "java/lang/IllegalStateException"
    · rw [if_pos c6] at hf
      rw [c6] at hcl
      refine vx_catch (name := "java/lang/IllegalStateException") hown [] ⟨0, 8, 11, 15⟩ [] (by rw [hex]; rfl) (fun z hz => absurd hz List.not_mem_nil) (by decide) (by decide) (hts _ kL_undo_0) (ng_use rfl (hTH.2.2.2.2 _ vc_IllegalStateException)) hce hcv hcl ?_
      refine lv_astore_n (lv' := [(2, .ref q9), (0, .ref (a0 0)), (1, .ref (a12 0))]) hx hb dL_undo_11 rfl hl (by decide) rfl (fun ls hl => ?_)
      refine lv_iconst (v := (1:Int32)) hx hb dL_undo_12 (by decide) ?_
      cases hf
      exact g_hret hx hb hr hlocks (Nat.le_of_ble_eq_true rfl) (Nat.le_of_ble_eq_true rfl) hP hS dL_undo_13
    · rw [if_neg c6] at hf
      cases hf
theorem kL_change_0 : Cond.classLink RL 28 "java/lang/IndexOutOfBoundsException" ∈ wsL_change := (List.mem_cons_of_mem _ (List.mem_append_left _ (List.mem_append_left _ (List.mem_append_left _ (List.mem_append_left _ (List.mem_append_left _ (List.mem_of_getElem? (i := 0) rfl)))))))
set_option maxHeartbeats 4000000 in
set_option maxRecDepth 100000 in
theorem c_L_change (l : Launch) (hl0 : l.stackTraces = false) (G : uG) (a0 : Nat → Nat) (a1 : Nat → Nat) (a2 : Nat → Nat) (a3 : Nat → Nat) (a4 : Nat → Nat) (a5 : Nat → Nat) (a6 : Nat → Nat) (a7 : Nat → Nat → Nat) (a8 : Nat → Nat) (a9 : Nat → Nat) (a10 : Nat → Nat) (a11 : Nat → Nat) (a12 : Nat → Nat) (v1 : StV) (v2 : StV) (v3 : RdV) (v12 : OuV) (i1 : Int32) {q : Int32 × (StV × RdV × OuV)} (hf : f_L_change v1 v2 v3 v12 i1 = some q) : mH l yL_change wsL_change ({ frames := 8, cells := 1, slots := 6, locals := 134 } : Room) G [.ref (a0 0), .int i1, .ref (a12 0)] [maW a0 (a1 0) (a2 0) (a3 0) (a4 0) (a7 0 0) (a8 0) (a9 0) (a9 1), stW G a1 v1, stW G a2 v2, rdW G a3 v3, ouW G a12 v12] [maW a0 (a1 0) (a2 0) (a3 0) (a4 0) (a7 0 0) (a8 0) (a9 0) (a9 1), stW G a1 v1, stW G a2 q.2.1, rdW G a3 q.2.2.1, ouW G a12 q.2.2.2] (qI G [maW a0 (a1 0) (a2 0) (a3 0) (a4 0) (a7 0 0) (a8 0) (a9 0) (a9 1), stW G a1 v1, stW G a2 q.2.1, rdW G a3 q.2.2.1, ouW G a12 q.2.2.2] q.1) 1 6 := by
  unfold f_L_change at hf
  refine mH_of (cc := cL_change) (maxL := 4) (ret := (some .int)) (hh := [(0, 9, 12, 28)]) (by decide) rfl rfl (Nat.le_of_ble_eq_true rfl) ?_
  intro p e s m args below meth c A ls S hK hA hex hTH hP hD hS hl
  obtain ⟨hx, hb, hml, hown, hts, hr, hlocks⟩ := id S
  have hl : lv_has ls 4 [(0, .ref (a0 0)), (1, .int i1), (2, .ref (a12 0))] := hl
  refine lv_aload_n hx hb dL_change_0 rfl (lv_at hl 2 rfl) ?_
  refine lv_iconst (v := (0:Int32)) hx hb dL_change_1 (by decide) ?_
  refine lv_aload_n hx hb dL_change_2 rfl (lv_at hl 0 rfl) ?_
  refine lv_iload_n hx hb dL_change_3 rfl (lv_at hl 1 rfl) ?_
  obtain ⟨q1, hq1, hf⟩ := bh_some hf
  refine g_callXVi S (cells' := 1) (slots' := 6) (As := [.int i1]) (c_X5_change l hl0 G a0 a1 a2 a3 a4 a5 a6 a7 a8 a9 a10 a11 v1 v2 v3 i1 hq1) (cwV 1 hts gL_change_X5_change rfl rfl rfl hd_X5_change ⟨Nat.le_of_ble_eq_true rfl, Nat.le_of_ble_eq_true rfl⟩) hTH hK hP hD hS hA (is := [0, 1, 2, 3]) rfl rfl 0 rfl rfl rfl rfl hl.1 rfl (Nat.le_of_ble_eq_true rfl) dL_change_4 ⟨Nat.le_of_ble_eq_true rfl, Nat.le_of_ble_eq_true rfl⟩ rfl rfl (fun x u ho H locs hP hD hS => ?_) (fun E u ho ce q9 H locs hP hD hS hce hcv hcl => ?_)
  · obtain ⟨r2, rfl, rfl, rfl⟩ := om_l ho
    have hf := bhe_l hf
    have hP : gP G [maW a0 (a1 0) (a2 0) (a3 0) (a4 0) (a7 0 0) (a8 0) (a9 0) (a9 1), stW G a1 v1, stW G a2 r2.2.1, rdW G a3 r2.2.2, ouW G a12 v12] H := hP
    have hD : gD A [maW a0 (a1 0) (a2 0) (a3 0) (a4 0) (a7 0 0) (a8 0) (a9 0) (a9 1), stW G a1 v1, stW G a2 r2.2.1, rdW G a3 r2.2.2, ouW G a12 v12] := hD
    refine lv_i2l (v := r2.1.toInt64) hx hb dL_change_7 rfl ?_
    obtain ⟨h4, hf⟩ := gi_some hf
    obtain ⟨u5, eu5, hf⟩ := lt_some hf
    refine g_last (gs' := [maW a0 (a1 0) (a2 0) (a3 0) (a4 0) (a7 0 0) (a8 0) (a9 0) (a9 1), stW G a1 v1, stW G a2 r2.2.1, rdW G a3 r2.2.2, ouW G a12 u5]) hx hb hK hP hD hS 4 0 3 rfl rfl rfl h4 dL_change_8 (by rw [eu5]; rfl) (fun H locs hP hD hS => ?_)
    refine lv_goto (tgt := 15) hx hb dL_change_9 (by decide) ?_
    refine lv_iconst (v := (0:Int32)) hx hb dL_change_15 (by decide) ?_
    cases hf
    exact g_hret hx hb hr hlocks (Nat.le_of_ble_eq_true rfl) (Nat.le_of_ble_eq_true rfl) hP hS dL_change_16
  · obtain ⟨r3, rfl, rfl, rfl⟩ := om_r ho
    have hf := bhe_r hf
    have hP : gP G [maW a0 (a1 0) (a2 0) (a3 0) (a4 0) (a7 0 0) (a8 0) (a9 0) (a9 1), stW G a1 v1, stW G a2 r3.2.1, rdW G a3 r3.2.2, ouW G a12 v12] H := hP
    have hD : gD A [maW a0 (a1 0) (a2 0) (a3 0) (a4 0) (a7 0 0) (a8 0) (a9 0) (a9 1), stW G a1 v1, stW G a2 r3.2.1, rdW G a3 r3.2.2, ouW G a12 v12] := hD
    by_cases c6 : r3.1 = "java/lang/IndexOutOfBoundsException"
    · rw [if_pos c6] at hf
      rw [c6] at hcl
      refine vx_catch (name := "java/lang/IndexOutOfBoundsException") hown [] ⟨0, 9, 12, 28⟩ [] (by rw [hex]; rfl) (fun z hz => absurd hz List.not_mem_nil) (by decide) (by decide) (hts _ kL_change_0) (ng_use rfl (hTH.2.2.2.2 _ vc_IndexOutOfBoundsException)) hce hcv hcl ?_
      refine lv_astore_n (lv' := [(3, .ref q9), (0, .ref (a0 0)), (1, .int i1), (2, .ref (a12 0))]) hx hb dL_change_12 rfl hl (by decide) rfl (fun ls hl => ?_)
      refine lv_iconst (v := (1:Int32)) hx hb dL_change_13 (by decide) ?_
      cases hf
      exact g_hret hx hb hr hlocks (Nat.le_of_ble_eq_true rfl) (Nat.le_of_ble_eq_true rfl) hP hS dL_change_14
    · rw [if_neg c6] at hf
      cases hf
theorem kL_leastBid_0 : Cond.classLink RL 28 "java/lang/IndexOutOfBoundsException" ∈ wsL_leastBid := (List.mem_cons_of_mem _ (List.mem_append_left _ (List.mem_append_left _ (List.mem_append_left _ (List.mem_append_left _ (List.mem_append_left _ (List.mem_of_getElem? (i := 0) rfl)))))))
set_option maxHeartbeats 4000000 in
set_option maxRecDepth 100000 in
theorem c_L_leastBid (l : Launch) (hl0 : l.stackTraces = false) (G : uG) (a0 : Nat → Nat) (a1 : Nat → Nat) (a2 : Nat → Nat) (a3 : Nat → Nat) (a4 : Nat → Nat) (a5 : Nat → Nat) (a6 : Nat → Nat) (a7 : Nat → Nat → Nat) (a8 : Nat → Nat) (a9 : Nat → Nat) (a10 : Nat → Nat) (a11 : Nat → Nat) (a12 : Nat → Nat) (v1 : StV) (v2 : StV) (v3 : RdV) (v12 : OuV) (i1 : Int32) {q : Int32 × (StV × RdV × OuV)} (hf : f_L_leastBid v1 v2 v3 v12 i1 = some q) : mH l yL_leastBid wsL_leastBid ({ frames := 8, cells := 1, slots := 6, locals := 136 } : Room) G [.ref (a0 0), .int i1, .ref (a12 0)] [maW a0 (a1 0) (a2 0) (a3 0) (a4 0) (a7 0 0) (a8 0) (a9 0) (a9 1), stW G a1 v1, stW G a2 v2, rdW G a3 v3, ouW G a12 v12] [maW a0 (a1 0) (a2 0) (a3 0) (a4 0) (a7 0 0) (a8 0) (a9 0) (a9 1), stW G a1 v1, stW G a2 q.2.1, rdW G a3 q.2.2.1, ouW G a12 q.2.2.2] (qI G [maW a0 (a1 0) (a2 0) (a3 0) (a4 0) (a7 0 0) (a8 0) (a9 0) (a9 1), stW G a1 v1, stW G a2 q.2.1, rdW G a3 q.2.2.1, ouW G a12 q.2.2.2] q.1) 1 6 := by
  unfold f_L_leastBid at hf
  refine mH_of (cc := cL_leastBid) (maxL := 4) (ret := (some .int)) (hh := [(0, 9, 12, 28)]) (by decide) rfl rfl (Nat.le_of_ble_eq_true rfl) ?_
  intro p e s m args below meth c A ls S hK hA hex hTH hP hD hS hl
  obtain ⟨hx, hb, hml, hown, hts, hr, hlocks⟩ := id S
  have hl : lv_has ls 4 [(0, .ref (a0 0)), (1, .int i1), (2, .ref (a12 0))] := hl
  refine lv_aload_n hx hb dL_leastBid_0 rfl (lv_at hl 2 rfl) ?_
  refine lv_iconst (v := (0:Int32)) hx hb dL_leastBid_1 (by decide) ?_
  refine lv_aload_n hx hb dL_leastBid_2 rfl (lv_at hl 0 rfl) ?_
  refine lv_iload_n hx hb dL_leastBid_3 rfl (lv_at hl 1 rfl) ?_
  obtain ⟨q1, hq1, hf⟩ := bh_some hf
  refine g_callXVi S (cells' := 1) (slots' := 6) (As := [.int i1]) (c_X5_leastBid l hl0 G a0 a1 a2 a3 a4 a5 a6 a7 a8 a9 a10 a11 v1 v2 v3 i1 hq1) (cwV 1 hts gL_leastBid_X5_leastBid rfl rfl rfl hd_X5_leastBid ⟨Nat.le_of_ble_eq_true rfl, Nat.le_of_ble_eq_true rfl⟩) hTH hK hP hD hS hA (is := [0, 1, 2, 3]) rfl rfl 0 rfl rfl rfl rfl hl.1 rfl (Nat.le_of_ble_eq_true rfl) dL_leastBid_4 ⟨Nat.le_of_ble_eq_true rfl, Nat.le_of_ble_eq_true rfl⟩ rfl rfl (fun x u ho H locs hP hD hS => ?_) (fun E u ho ce q9 H locs hP hD hS hce hcv hcl => ?_)
  · obtain ⟨r2, rfl, rfl, rfl⟩ := om_l ho
    have hf := bhe_l hf
    have hP : gP G [maW a0 (a1 0) (a2 0) (a3 0) (a4 0) (a7 0 0) (a8 0) (a9 0) (a9 1), stW G a1 v1, stW G a2 r2.2.1, rdW G a3 r2.2.2, ouW G a12 v12] H := hP
    have hD : gD A [maW a0 (a1 0) (a2 0) (a3 0) (a4 0) (a7 0 0) (a8 0) (a9 0) (a9 1), stW G a1 v1, stW G a2 r2.2.1, rdW G a3 r2.2.2, ouW G a12 v12] := hD
    refine lv_i2l (v := r2.1.toInt64) hx hb dL_leastBid_7 rfl ?_
    obtain ⟨h4, hf⟩ := gi_some hf
    obtain ⟨u5, eu5, hf⟩ := lt_some hf
    refine g_last (gs' := [maW a0 (a1 0) (a2 0) (a3 0) (a4 0) (a7 0 0) (a8 0) (a9 0) (a9 1), stW G a1 v1, stW G a2 r2.2.1, rdW G a3 r2.2.2, ouW G a12 u5]) hx hb hK hP hD hS 4 0 3 rfl rfl rfl h4 dL_leastBid_8 (by rw [eu5]; rfl) (fun H locs hP hD hS => ?_)
    refine lv_goto (tgt := 15) hx hb dL_leastBid_9 (by decide) ?_
    refine lv_iconst (v := (0:Int32)) hx hb dL_leastBid_15 (by decide) ?_
    cases hf
    exact g_hret hx hb hr hlocks (Nat.le_of_ble_eq_true rfl) (Nat.le_of_ble_eq_true rfl) hP hS dL_leastBid_16
  · obtain ⟨r3, rfl, rfl, rfl⟩ := om_r ho
    have hf := bhe_r hf
    have hP : gP G [maW a0 (a1 0) (a2 0) (a3 0) (a4 0) (a7 0 0) (a8 0) (a9 0) (a9 1), stW G a1 v1, stW G a2 r3.2.1, rdW G a3 r3.2.2, ouW G a12 v12] H := hP
    have hD : gD A [maW a0 (a1 0) (a2 0) (a3 0) (a4 0) (a7 0 0) (a8 0) (a9 0) (a9 1), stW G a1 v1, stW G a2 r3.2.1, rdW G a3 r3.2.2, ouW G a12 v12] := hD
    by_cases c6 : r3.1 = "java/lang/IndexOutOfBoundsException"
    · rw [if_pos c6] at hf
      rw [c6] at hcl
      refine vx_catch (name := "java/lang/IndexOutOfBoundsException") hown [] ⟨0, 9, 12, 28⟩ [] (by rw [hex]; rfl) (fun z hz => absurd hz List.not_mem_nil) (by decide) (by decide) (hts _ kL_leastBid_0) (ng_use rfl (hTH.2.2.2.2 _ vc_IndexOutOfBoundsException)) hce hcv hcl ?_
      refine lv_astore_n (lv' := [(3, .ref q9), (0, .ref (a0 0)), (1, .int i1), (2, .ref (a12 0))]) hx hb dL_leastBid_12 rfl hl (by decide) rfl (fun ls hl => ?_)
      refine lv_iconst (v := (1:Int32)) hx hb dL_leastBid_13 (by decide) ?_
      cases hf
      exact g_hret hx hb hr hlocks (Nat.le_of_ble_eq_true rfl) (Nat.le_of_ble_eq_true rfl) hP hS dL_leastBid_14
    · rw [if_neg c6] at hf
      cases hf
theorem kL_when_0 : Cond.classLink RL 28 "java/lang/IndexOutOfBoundsException" ∈ wsL_when := (List.mem_cons_of_mem _ (List.mem_append_left _ (List.mem_append_left _ (List.mem_append_left _ (List.mem_append_left _ (List.mem_append_left _ (List.mem_of_getElem? (i := 0) rfl)))))))
set_option maxHeartbeats 4000000 in
set_option maxRecDepth 100000 in
theorem c_L_when (l : Launch) (hl0 : l.stackTraces = false) (G : uG) (a0 : Nat → Nat) (a1 : Nat → Nat) (a2 : Nat → Nat) (a3 : Nat → Nat) (a4 : Nat → Nat) (a5 : Nat → Nat) (a6 : Nat → Nat) (a7 : Nat → Nat → Nat) (a8 : Nat → Nat) (a9 : Nat → Nat) (a10 : Nat → Nat) (a11 : Nat → Nat) (a12 : Nat → Nat) (v1 : StV) (v2 : StV) (v3 : RdV) (v12 : OuV) (i1 : Int32) {q : Int32 × (StV × RdV × OuV)} (hf : f_L_when v1 v2 v3 v12 i1 = some q) : mH l yL_when wsL_when ({ frames := 8, cells := 1, slots := 6, locals := 136 } : Room) G [.ref (a0 0), .int i1, .ref (a12 0)] [maW a0 (a1 0) (a2 0) (a3 0) (a4 0) (a7 0 0) (a8 0) (a9 0) (a9 1), stW G a1 v1, stW G a2 v2, rdW G a3 v3, ouW G a12 v12] [maW a0 (a1 0) (a2 0) (a3 0) (a4 0) (a7 0 0) (a8 0) (a9 0) (a9 1), stW G a1 v1, stW G a2 q.2.1, rdW G a3 q.2.2.1, ouW G a12 q.2.2.2] (qI G [maW a0 (a1 0) (a2 0) (a3 0) (a4 0) (a7 0 0) (a8 0) (a9 0) (a9 1), stW G a1 v1, stW G a2 q.2.1, rdW G a3 q.2.2.1, ouW G a12 q.2.2.2] q.1) 1 6 := by
  unfold f_L_when at hf
  refine mH_of (cc := cL_when) (maxL := 4) (ret := (some .int)) (hh := [(0, 9, 12, 28)]) (by decide) rfl rfl (Nat.le_of_ble_eq_true rfl) ?_
  intro p e s m args below meth c A ls S hK hA hex hTH hP hD hS hl
  obtain ⟨hx, hb, hml, hown, hts, hr, hlocks⟩ := id S
  have hl : lv_has ls 4 [(0, .ref (a0 0)), (1, .int i1), (2, .ref (a12 0))] := hl
  refine lv_aload_n hx hb dL_when_0 rfl (lv_at hl 2 rfl) ?_
  refine lv_iconst (v := (0:Int32)) hx hb dL_when_1 (by decide) ?_
  refine lv_aload_n hx hb dL_when_2 rfl (lv_at hl 0 rfl) ?_
  refine lv_iload_n hx hb dL_when_3 rfl (lv_at hl 1 rfl) ?_
  obtain ⟨q1, hq1, hf⟩ := bh_some hf
  refine g_callXVi S (cells' := 1) (slots' := 6) (As := [.int i1]) (c_X5_when l hl0 G a0 a1 a2 a3 a4 a5 a6 a7 a8 a9 a10 a11 v1 v2 v3 i1 hq1) (cwV 1 hts gL_when_X5_when rfl rfl rfl hd_X5_when ⟨Nat.le_of_ble_eq_true rfl, Nat.le_of_ble_eq_true rfl⟩) hTH hK hP hD hS hA (is := [0, 1, 2, 3]) rfl rfl 0 rfl rfl rfl rfl hl.1 rfl (Nat.le_of_ble_eq_true rfl) dL_when_4 ⟨Nat.le_of_ble_eq_true rfl, Nat.le_of_ble_eq_true rfl⟩ rfl rfl (fun x u ho H locs hP hD hS => ?_) (fun E u ho ce q9 H locs hP hD hS hce hcv hcl => ?_)
  · obtain ⟨r2, rfl, rfl, rfl⟩ := om_l ho
    have hf := bhe_l hf
    have hP : gP G [maW a0 (a1 0) (a2 0) (a3 0) (a4 0) (a7 0 0) (a8 0) (a9 0) (a9 1), stW G a1 v1, stW G a2 r2.2.1, rdW G a3 r2.2.2, ouW G a12 v12] H := hP
    have hD : gD A [maW a0 (a1 0) (a2 0) (a3 0) (a4 0) (a7 0 0) (a8 0) (a9 0) (a9 1), stW G a1 v1, stW G a2 r2.2.1, rdW G a3 r2.2.2, ouW G a12 v12] := hD
    refine lv_i2l (v := r2.1.toInt64) hx hb dL_when_7 rfl ?_
    obtain ⟨h4, hf⟩ := gi_some hf
    obtain ⟨u5, eu5, hf⟩ := lt_some hf
    refine g_last (gs' := [maW a0 (a1 0) (a2 0) (a3 0) (a4 0) (a7 0 0) (a8 0) (a9 0) (a9 1), stW G a1 v1, stW G a2 r2.2.1, rdW G a3 r2.2.2, ouW G a12 u5]) hx hb hK hP hD hS 4 0 3 rfl rfl rfl h4 dL_when_8 (by rw [eu5]; rfl) (fun H locs hP hD hS => ?_)
    refine lv_goto (tgt := 15) hx hb dL_when_9 (by decide) ?_
    refine lv_iconst (v := (0:Int32)) hx hb dL_when_15 (by decide) ?_
    cases hf
    exact g_hret hx hb hr hlocks (Nat.le_of_ble_eq_true rfl) (Nat.le_of_ble_eq_true rfl) hP hS dL_when_16
  · obtain ⟨r3, rfl, rfl, rfl⟩ := om_r ho
    have hf := bhe_r hf
    have hP : gP G [maW a0 (a1 0) (a2 0) (a3 0) (a4 0) (a7 0 0) (a8 0) (a9 0) (a9 1), stW G a1 v1, stW G a2 r3.2.1, rdW G a3 r3.2.2, ouW G a12 v12] H := hP
    have hD : gD A [maW a0 (a1 0) (a2 0) (a3 0) (a4 0) (a7 0 0) (a8 0) (a9 0) (a9 1), stW G a1 v1, stW G a2 r3.2.1, rdW G a3 r3.2.2, ouW G a12 v12] := hD
    by_cases c6 : r3.1 = "java/lang/IndexOutOfBoundsException"
    · rw [if_pos c6] at hf
      rw [c6] at hcl
      refine vx_catch (name := "java/lang/IndexOutOfBoundsException") hown [] ⟨0, 9, 12, 28⟩ [] (by rw [hex]; rfl) (fun z hz => absurd hz List.not_mem_nil) (by decide) (by decide) (hts _ kL_when_0) (ng_use rfl (hTH.2.2.2.2 _ vc_IndexOutOfBoundsException)) hce hcv hcl ?_
      refine lv_astore_n (lv' := [(3, .ref q9), (0, .ref (a0 0)), (1, .int i1), (2, .ref (a12 0))]) hx hb dL_when_12 rfl hl (by decide) rfl (fun ls hl => ?_)
      refine lv_iconst (v := (1:Int32)) hx hb dL_when_13 (by decide) ?_
      cases hf
      exact g_hret hx hb hr hlocks (Nat.le_of_ble_eq_true rfl) (Nat.le_of_ble_eq_true rfl) hP hS dL_when_14
    · rw [if_neg c6] at hf
      cases hf
theorem kL_inTheEnd_0 : Cond.classLink RL 28 "java/lang/IndexOutOfBoundsException" ∈ wsL_inTheEnd := (List.mem_cons_of_mem _ (List.mem_append_left _ (List.mem_append_left _ (List.mem_append_left _ (List.mem_append_left _ (List.mem_append_left _ (List.mem_of_getElem? (i := 0) rfl)))))))
set_option maxHeartbeats 4000000 in
set_option maxRecDepth 100000 in
theorem c_L_inTheEnd (l : Launch) (hl0 : l.stackTraces = false) (G : uG) (a0 : Nat → Nat) (a1 : Nat → Nat) (a2 : Nat → Nat) (a3 : Nat → Nat) (a4 : Nat → Nat) (a5 : Nat → Nat) (a6 : Nat → Nat) (a7 : Nat → Nat → Nat) (a8 : Nat → Nat) (a9 : Nat → Nat) (a10 : Nat → Nat) (a11 : Nat → Nat) (a12 : Nat → Nat) (v1 : StV) (v2 : StV) (v3 : RdV) (v12 : OuV) (i1 : Int32) {q : Int32 × (StV × RdV × OuV)} (hf : f_L_inTheEnd v1 v2 v3 v12 i1 = some q) : mH l yL_inTheEnd wsL_inTheEnd ({ frames := 8, cells := 1, slots := 6, locals := 135 } : Room) G [.ref (a0 0), .int i1, .ref (a12 0)] [maW a0 (a1 0) (a2 0) (a3 0) (a4 0) (a7 0 0) (a8 0) (a9 0) (a9 1), stW G a1 v1, stW G a2 v2, rdW G a3 v3, ouW G a12 v12] [maW a0 (a1 0) (a2 0) (a3 0) (a4 0) (a7 0 0) (a8 0) (a9 0) (a9 1), stW G a1 v1, stW G a2 q.2.1, rdW G a3 q.2.2.1, ouW G a12 q.2.2.2] (qI G [maW a0 (a1 0) (a2 0) (a3 0) (a4 0) (a7 0 0) (a8 0) (a9 0) (a9 1), stW G a1 v1, stW G a2 q.2.1, rdW G a3 q.2.2.1, ouW G a12 q.2.2.2] q.1) 1 6 := by
  unfold f_L_inTheEnd at hf
  refine mH_of (cc := cL_inTheEnd) (maxL := 4) (ret := (some .int)) (hh := [(0, 9, 12, 28)]) (by decide) rfl rfl (Nat.le_of_ble_eq_true rfl) ?_
  intro p e s m args below meth c A ls S hK hA hex hTH hP hD hS hl
  obtain ⟨hx, hb, hml, hown, hts, hr, hlocks⟩ := id S
  have hl : lv_has ls 4 [(0, .ref (a0 0)), (1, .int i1), (2, .ref (a12 0))] := hl
  refine lv_aload_n hx hb dL_inTheEnd_0 rfl (lv_at hl 2 rfl) ?_
  refine lv_iconst (v := (0:Int32)) hx hb dL_inTheEnd_1 (by decide) ?_
  refine lv_aload_n hx hb dL_inTheEnd_2 rfl (lv_at hl 0 rfl) ?_
  refine lv_iload_n hx hb dL_inTheEnd_3 rfl (lv_at hl 1 rfl) ?_
  obtain ⟨q1, hq1, hf⟩ := bh_some hf
  refine g_callXVi S (cells' := 1) (slots' := 6) (As := [.int i1]) (c_X5_inTheEnd l hl0 G a0 a1 a2 a3 a4 a5 a6 a7 a8 a9 a10 a11 v1 v2 v3 i1 hq1) (cwV 1 hts gL_inTheEnd_X5_inTheEnd rfl rfl rfl hd_X5_inTheEnd ⟨Nat.le_of_ble_eq_true rfl, Nat.le_of_ble_eq_true rfl⟩) hTH hK hP hD hS hA (is := [0, 1, 2, 3]) rfl rfl 0 rfl rfl rfl rfl hl.1 rfl (Nat.le_of_ble_eq_true rfl) dL_inTheEnd_4 ⟨Nat.le_of_ble_eq_true rfl, Nat.le_of_ble_eq_true rfl⟩ rfl rfl (fun x u ho H locs hP hD hS => ?_) (fun E u ho ce q9 H locs hP hD hS hce hcv hcl => ?_)
  · obtain ⟨r2, rfl, rfl, rfl⟩ := om_l ho
    have hf := bhe_l hf
    have hP : gP G [maW a0 (a1 0) (a2 0) (a3 0) (a4 0) (a7 0 0) (a8 0) (a9 0) (a9 1), stW G a1 v1, stW G a2 r2.2.1, rdW G a3 r2.2.2, ouW G a12 v12] H := hP
    have hD : gD A [maW a0 (a1 0) (a2 0) (a3 0) (a4 0) (a7 0 0) (a8 0) (a9 0) (a9 1), stW G a1 v1, stW G a2 r2.2.1, rdW G a3 r2.2.2, ouW G a12 v12] := hD
    refine lv_i2l (v := r2.1.toInt64) hx hb dL_inTheEnd_7 rfl ?_
    obtain ⟨h4, hf⟩ := gi_some hf
    obtain ⟨u5, eu5, hf⟩ := lt_some hf
    refine g_last (gs' := [maW a0 (a1 0) (a2 0) (a3 0) (a4 0) (a7 0 0) (a8 0) (a9 0) (a9 1), stW G a1 v1, stW G a2 r2.2.1, rdW G a3 r2.2.2, ouW G a12 u5]) hx hb hK hP hD hS 4 0 3 rfl rfl rfl h4 dL_inTheEnd_8 (by rw [eu5]; rfl) (fun H locs hP hD hS => ?_)
    refine lv_goto (tgt := 15) hx hb dL_inTheEnd_9 (by decide) ?_
    refine lv_iconst (v := (0:Int32)) hx hb dL_inTheEnd_15 (by decide) ?_
    cases hf
    exact g_hret hx hb hr hlocks (Nat.le_of_ble_eq_true rfl) (Nat.le_of_ble_eq_true rfl) hP hS dL_inTheEnd_16
  · obtain ⟨r3, rfl, rfl, rfl⟩ := om_r ho
    have hf := bhe_r hf
    have hP : gP G [maW a0 (a1 0) (a2 0) (a3 0) (a4 0) (a7 0 0) (a8 0) (a9 0) (a9 1), stW G a1 v1, stW G a2 r3.2.1, rdW G a3 r3.2.2, ouW G a12 v12] H := hP
    have hD : gD A [maW a0 (a1 0) (a2 0) (a3 0) (a4 0) (a7 0 0) (a8 0) (a9 0) (a9 1), stW G a1 v1, stW G a2 r3.2.1, rdW G a3 r3.2.2, ouW G a12 v12] := hD
    by_cases c6 : r3.1 = "java/lang/IndexOutOfBoundsException"
    · rw [if_pos c6] at hf
      rw [c6] at hcl
      refine vx_catch (name := "java/lang/IndexOutOfBoundsException") hown [] ⟨0, 9, 12, 28⟩ [] (by rw [hex]; rfl) (fun z hz => absurd hz List.not_mem_nil) (by decide) (by decide) (hts _ kL_inTheEnd_0) (ng_use rfl (hTH.2.2.2.2 _ vc_IndexOutOfBoundsException)) hce hcv hcl ?_
      refine lv_astore_n (lv' := [(3, .ref q9), (0, .ref (a0 0)), (1, .int i1), (2, .ref (a12 0))]) hx hb dL_inTheEnd_12 rfl hl (by decide) rfl (fun ls hl => ?_)
      refine lv_iconst (v := (1:Int32)) hx hb dL_inTheEnd_13 (by decide) ?_
      cases hf
      exact g_hret hx hb hr hlocks (Nat.le_of_ble_eq_true rfl) (Nat.le_of_ble_eq_true rfl) hP hS dL_inTheEnd_14
    · rw [if_neg c6] at hf
      cases hf
theorem kL_runScript_0 : Cond.classLink RL 13 "java/lang/IllegalArgumentException" ∈ wsL_runScript := (List.mem_cons_of_mem _ (List.mem_append_left _ (List.mem_append_left _ (List.mem_append_left _ (List.mem_append_left _ (List.mem_append_left _ (List.mem_append_left _ (List.mem_of_getElem? (i := 0) rfl))))))))
set_option maxHeartbeats 4000000 in
set_option maxRecDepth 100000 in
theorem c_L_runScript (l : Launch) (hl0 : l.stackTraces = false) (G : uG) (a0 : Nat → Nat) (a1 : Nat → Nat) (a2 : Nat → Nat) (a3 : Nat → Nat) (a4 : Nat → Nat) (a5 : Nat → Nat) (a6 : Nat → Nat) (a7 : Nat → Nat → Nat) (a8 : Nat → Nat) (a9 : Nat → Nat) (a10 : Nat → Nat) (a11 : Nat → Nat) (a12 : Nat → Nat) (v1 : StV) (v5 : StV) (v6 : RdV) (v12 : OuV) (i1 : Int32) (i2 : Int64) {q : Int32 × (StV × RdV × OuV)} (hf : f_L_runScript v1 v5 v6 v12 i1 i2 = some q) : mH l yL_runScript wsL_runScript ({ frames := 8, cells := 2, slots := 12, locals := 166 } : Room) G [.ref (a0 0), .int i1, .long i2, .ref (a12 0)] [maW a0 (a1 0) (a2 0) (a3 0) (a4 0) (a7 0 0) (a8 0) (a9 0) (a9 1), stW G a1 v1, scW a4 (a5 0) (a6 0), stW G a5 v5, rdW G a6 v6, ouW G a12 v12] [maW a0 (a1 0) (a2 0) (a3 0) (a4 0) (a7 0 0) (a8 0) (a9 0) (a9 1), stW G a1 v1, scW a4 (a5 0) (a6 0), stW G a5 q.2.1, rdW G a6 q.2.2.1, ouW G a12 q.2.2.2] (qI G [maW a0 (a1 0) (a2 0) (a3 0) (a4 0) (a7 0 0) (a8 0) (a9 0) (a9 1), stW G a1 v1, scW a4 (a5 0) (a6 0), stW G a5 q.2.1, rdW G a6 q.2.2.1, ouW G a12 q.2.2.2] q.1) 2 12 := by
  unfold f_L_runScript at hf
  refine mH_of (cc := cL_runScript) (maxL := 6) (ret := (some .int)) (hh := [(0, 11, 14, 13)]) (by decide) rfl rfl (Nat.le_of_ble_eq_true rfl) ?_
  intro p e s m args below meth c A ls S hK hA hex hTH hP hD hS hl
  obtain ⟨hx, hb, hml, hown, hts, hr, hlocks⟩ := id S
  have hl : lv_has ls 6 [(0, .ref (a0 0)), (1, .int i1), (2, .long i2), (4, .ref (a12 0))] := hl
  refine lv_aload hx hb dL_runScript_0 (lv_at hl 3 rfl) ?_
  refine lv_iconst (v := (0:Int32)) hx hb dL_runScript_2 (by decide) ?_
  refine lv_aload_n hx hb dL_runScript_3 rfl (lv_at hl 0 rfl) ?_
  refine lv_iload_n hx hb dL_runScript_4 rfl (lv_at hl 1 rfl) ?_
  refine lv_lload_n hx hb dL_runScript_5 rfl (lv_at hl 2 rfl) ?_
  obtain ⟨q1, hq1, hf⟩ := bh_some hf
  refine g_callXVi S (cells' := 2) (slots' := 12) (As := [.int i1, .long i2]) (c_X5_runScript l hl0 G a0 a1 a2 a3 a4 a5 a6 a7 a8 a9 a10 a11 v1 v5 v6 i1 i2 hq1) (cwV 2 hts gL_runScript_X5_runScript rfl rfl rfl hd_X5_runScript ⟨Nat.le_of_ble_eq_true rfl, Nat.le_of_ble_eq_true rfl⟩) hTH hK hP hD hS hA (is := [0, 1, 2, 3, 4]) rfl rfl 0 rfl rfl rfl rfl hl.1 rfl (Nat.le_of_ble_eq_true rfl) dL_runScript_6 ⟨Nat.le_of_ble_eq_true rfl, Nat.le_of_ble_eq_true rfl⟩ rfl rfl (fun x u ho H locs hP hD hS => ?_) (fun E u ho ce q9 H locs hP hD hS hce hcv hcl => ?_)
  · obtain ⟨r2, rfl, rfl, rfl⟩ := om_l ho
    have hf := bhe_l hf
    have hP : gP G [maW a0 (a1 0) (a2 0) (a3 0) (a4 0) (a7 0 0) (a8 0) (a9 0) (a9 1), stW G a1 v1, scW a4 (a5 0) (a6 0), stW G a5 r2.2.1, rdW G a6 r2.2.2, ouW G a12 v12] H := hP
    have hD : gD A [maW a0 (a1 0) (a2 0) (a3 0) (a4 0) (a7 0 0) (a8 0) (a9 0) (a9 1), stW G a1 v1, scW a4 (a5 0) (a6 0), stW G a5 r2.2.1, rdW G a6 r2.2.2, ouW G a12 v12] := hD
    refine lv_i2l (v := r2.1.toInt64) hx hb dL_runScript_9 rfl ?_
    obtain ⟨h4, hf⟩ := gi_some hf
    obtain ⟨u5, eu5, hf⟩ := lt_some hf
    refine g_last (gs' := [maW a0 (a1 0) (a2 0) (a3 0) (a4 0) (a7 0 0) (a8 0) (a9 0) (a9 1), stW G a1 v1, scW a4 (a5 0) (a6 0), stW G a5 r2.2.1, rdW G a6 r2.2.2, ouW G a12 u5]) hx hb hK hP hD hS 5 0 3 rfl rfl rfl h4 dL_runScript_10 (by rw [eu5]; rfl) (fun H locs hP hD hS => ?_)
    refine lv_goto (tgt := 18) hx hb dL_runScript_11 (by decide) ?_
    refine lv_iconst (v := (0:Int32)) hx hb dL_runScript_18 (by decide) ?_
    cases hf
    exact g_hret hx hb hr hlocks (Nat.le_of_ble_eq_true rfl) (Nat.le_of_ble_eq_true rfl) hP hS dL_runScript_19
  · obtain ⟨r3, rfl, rfl, rfl⟩ := om_r ho
    have hf := bhe_r hf
    have hP : gP G [maW a0 (a1 0) (a2 0) (a3 0) (a4 0) (a7 0 0) (a8 0) (a9 0) (a9 1), stW G a1 v1, scW a4 (a5 0) (a6 0), stW G a5 r3.2.1, rdW G a6 r3.2.2, ouW G a12 v12] H := hP
    have hD : gD A [maW a0 (a1 0) (a2 0) (a3 0) (a4 0) (a7 0 0) (a8 0) (a9 0) (a9 1), stW G a1 v1, scW a4 (a5 0) (a6 0), stW G a5 r3.2.1, rdW G a6 r3.2.2, ouW G a12 v12] := hD
    by_cases c6 : r3.1 = "java/lang/IllegalArgumentException"
    · rw [if_pos c6] at hf
      rw [c6] at hcl
      refine vx_catch (name := "java/lang/IllegalArgumentException") hown [] ⟨0, 11, 14, 13⟩ [] (by rw [hex]; rfl) (fun z hz => absurd hz List.not_mem_nil) (by decide) (by decide) (hts _ kL_runScript_0) (ng_use rfl (hTH.2.2.2.2 _ vc_IllegalArgumentException)) hce hcv hcl ?_
      refine lv_astore (lv' := [(5, .ref q9), (0, .ref (a0 0)), (1, .int i1), (2, .long i2), (4, .ref (a12 0))]) hx hb dL_runScript_14 hl (by decide) rfl (fun ls hl => ?_)
      refine lv_iconst (v := (1:Int32)) hx hb dL_runScript_16 (by decide) ?_
      cases hf
      exact g_hret hx hb hr hlocks (Nat.le_of_ble_eq_true rfl) (Nat.le_of_ble_eq_true rfl) hP hS dL_runScript_17
    · rw [if_neg c6] at hf
      cases hf
theorem kL_simulate_0 : Cond.classLink RL 13 "java/lang/IllegalArgumentException" ∈ wsL_simulate := (List.mem_cons_of_mem _ (List.mem_append_left _ (List.mem_append_left _ (List.mem_append_left _ (List.mem_append_left _ (List.mem_append_left _ (List.mem_of_getElem? (i := 0) rfl)))))))
set_option maxHeartbeats 4000000 in
set_option maxRecDepth 100000 in
theorem c_L_simulate (l : Launch) (hl0 : l.stackTraces = false) (G : uG) (a0 : Nat → Nat) (a1 : Nat → Nat) (a2 : Nat → Nat) (a3 : Nat → Nat) (a4 : Nat → Nat) (a5 : Nat → Nat) (a6 : Nat → Nat) (a7 : Nat → Nat → Nat) (a8 : Nat → Nat) (a9 : Nat → Nat) (a10 : Nat → Nat) (a11 : Nat → Nat) (a12 : Nat → Nat) (v1 : StV) (v2 : StV) (v3 : RdV) (v12 : OuV) (i1 : Int64) (i3 : Int32) {q : Int32 × (StV × RdV × OuV)} (hf : f_L_simulate v1 v2 v3 v12 i1 i3 = some q) : mH l yL_simulate wsL_simulate ({ frames := 8, cells := 1, slots := 6, locals := 142 } : Room) G [.ref (a0 0), .long i1, .int i3, .ref (a12 0)] [maW a0 (a1 0) (a2 0) (a3 0) (a4 0) (a7 0 0) (a8 0) (a9 0) (a9 1), stW G a1 v1, stW G a2 v2, rdW G a3 v3, ouW G a12 v12] [maW a0 (a1 0) (a2 0) (a3 0) (a4 0) (a7 0 0) (a8 0) (a9 0) (a9 1), stW G a1 v1, stW G a2 q.2.1, rdW G a3 q.2.2.1, ouW G a12 q.2.2.2] (qI G [maW a0 (a1 0) (a2 0) (a3 0) (a4 0) (a7 0 0) (a8 0) (a9 0) (a9 1), stW G a1 v1, stW G a2 q.2.1, rdW G a3 q.2.2.1, ouW G a12 q.2.2.2] q.1) 1 6 := by
  unfold f_L_simulate at hf
  refine mH_of (cc := cL_simulate) (maxL := 6) (ret := (some .int)) (hh := [(0, 11, 14, 13)]) (by decide) rfl rfl (Nat.le_of_ble_eq_true rfl) ?_
  intro p e s m args below meth c A ls S hK hA hex hTH hP hD hS hl
  obtain ⟨hx, hb, hml, hown, hts, hr, hlocks⟩ := id S
  have hl : lv_has ls 6 [(0, .ref (a0 0)), (1, .long i1), (3, .int i3), (4, .ref (a12 0))] := hl
  refine lv_aload hx hb dL_simulate_0 (lv_at hl 3 rfl) ?_
  refine lv_iconst (v := (0:Int32)) hx hb dL_simulate_2 (by decide) ?_
  refine lv_aload_n hx hb dL_simulate_3 rfl (lv_at hl 0 rfl) ?_
  refine lv_lload_n hx hb dL_simulate_4 rfl (lv_at hl 1 rfl) ?_
  refine lv_iload_n hx hb dL_simulate_5 rfl (lv_at hl 2 rfl) ?_
  obtain ⟨q1, hq1, hf⟩ := bh_some hf
  refine g_callXVi S (cells' := 1) (slots' := 6) (As := [.long i1, .int i3]) (c_X5_simulate l hl0 G a0 a1 a2 a3 a4 a5 a6 a7 a8 a9 a10 a11 v1 v2 v3 i1 i3 hq1) (cwV 2 hts gL_simulate_X5_simulate rfl rfl rfl hd_X5_simulate ⟨Nat.le_of_ble_eq_true rfl, Nat.le_of_ble_eq_true rfl⟩) hTH hK hP hD hS hA (is := [0, 1, 2, 3]) rfl rfl 0 rfl rfl rfl rfl hl.1 rfl (Nat.le_of_ble_eq_true rfl) dL_simulate_6 ⟨Nat.le_of_ble_eq_true rfl, Nat.le_of_ble_eq_true rfl⟩ rfl rfl (fun x u ho H locs hP hD hS => ?_) (fun E u ho ce q9 H locs hP hD hS hce hcv hcl => ?_)
  · obtain ⟨r2, rfl, rfl, rfl⟩ := om_l ho
    have hf := bhe_l hf
    have hP : gP G [maW a0 (a1 0) (a2 0) (a3 0) (a4 0) (a7 0 0) (a8 0) (a9 0) (a9 1), stW G a1 v1, stW G a2 r2.2.1, rdW G a3 r2.2.2, ouW G a12 v12] H := hP
    have hD : gD A [maW a0 (a1 0) (a2 0) (a3 0) (a4 0) (a7 0 0) (a8 0) (a9 0) (a9 1), stW G a1 v1, stW G a2 r2.2.1, rdW G a3 r2.2.2, ouW G a12 v12] := hD
    refine lv_i2l (v := r2.1.toInt64) hx hb dL_simulate_9 rfl ?_
    obtain ⟨h4, hf⟩ := gi_some hf
    obtain ⟨u5, eu5, hf⟩ := lt_some hf
    refine g_last (gs' := [maW a0 (a1 0) (a2 0) (a3 0) (a4 0) (a7 0 0) (a8 0) (a9 0) (a9 1), stW G a1 v1, stW G a2 r2.2.1, rdW G a3 r2.2.2, ouW G a12 u5]) hx hb hK hP hD hS 4 0 3 rfl rfl rfl h4 dL_simulate_10 (by rw [eu5]; rfl) (fun H locs hP hD hS => ?_)
    refine lv_goto (tgt := 18) hx hb dL_simulate_11 (by decide) ?_
    refine lv_iconst (v := (0:Int32)) hx hb dL_simulate_18 (by decide) ?_
    cases hf
    exact g_hret hx hb hr hlocks (Nat.le_of_ble_eq_true rfl) (Nat.le_of_ble_eq_true rfl) hP hS dL_simulate_19
  · obtain ⟨r3, rfl, rfl, rfl⟩ := om_r ho
    have hf := bhe_r hf
    have hP : gP G [maW a0 (a1 0) (a2 0) (a3 0) (a4 0) (a7 0 0) (a8 0) (a9 0) (a9 1), stW G a1 v1, stW G a2 r3.2.1, rdW G a3 r3.2.2, ouW G a12 v12] H := hP
    have hD : gD A [maW a0 (a1 0) (a2 0) (a3 0) (a4 0) (a7 0 0) (a8 0) (a9 0) (a9 1), stW G a1 v1, stW G a2 r3.2.1, rdW G a3 r3.2.2, ouW G a12 v12] := hD
    by_cases c6 : r3.1 = "java/lang/IllegalArgumentException"
    · rw [if_pos c6] at hf
      rw [c6] at hcl
      refine vx_catch (name := "java/lang/IllegalArgumentException") hown [] ⟨0, 11, 14, 13⟩ [] (by rw [hex]; rfl) (fun z hz => absurd hz List.not_mem_nil) (by decide) (by decide) (hts _ kL_simulate_0) (ng_use rfl (hTH.2.2.2.2 _ vc_IllegalArgumentException)) hce hcv hcl ?_
      refine lv_astore (lv' := [(5, .ref q9), (0, .ref (a0 0)), (1, .long i1), (3, .int i3), (4, .ref (a12 0))]) hx hb dL_simulate_14 hl (by decide) rfl (fun ls hl => ?_)
      refine lv_iconst (v := (1:Int32)) hx hb dL_simulate_16 (by decide) ?_
      cases hf
      exact g_hret hx hb hr hlocks (Nat.le_of_ble_eq_true rfl) (Nat.le_of_ble_eq_true rfl) hP hS dL_simulate_17
    · rw [if_neg c6] at hf
      cases hf
theorem kL_save_0 : Cond.classLink RL 28 "java/lang/IndexOutOfBoundsException" ∈ wsL_save := (List.mem_cons_of_mem _ (List.mem_append_left _ (List.mem_append_left _ (List.mem_append_left _ (List.mem_append_left _ (List.mem_of_getElem? (i := 0) rfl))))))
set_option maxHeartbeats 4000000 in
set_option maxRecDepth 100000 in
theorem c_L_save (l : Launch) (hl0 : l.stackTraces = false) (G : uG) (a0 : Nat → Nat) (a1 : Nat → Nat) (a2 : Nat → Nat) (a3 : Nat → Nat) (a4 : Nat → Nat) (a5 : Nat → Nat) (a6 : Nat → Nat) (a7 : Nat → Nat → Nat) (a8 : Nat → Nat) (a9 : Nat → Nat) (a10 : Nat → Nat) (a11 : Nat → Nat) (a12 : Nat → Nat) (v1 : StV) (v9 : SlV) (v10 : StV) (v11 : StV) (v12 : OuV) (i1 : Int32) {q : Int32 × (SlV × StV × StV × OuV)} (hf : f_L_save v1 v9 v10 v11 v12 i1 = some q) : mH l yL_save wsL_save ({ frames := 8, cells := 1, slots := 6, locals := 133 } : Room) G [.ref (a0 0), .int i1, .ref (a12 0)] [maW a0 (a1 0) (a2 0) (a3 0) (a4 0) (a7 0 0) (a8 0) (a9 0) (a9 1), stW G a1 v1, slW G a9 (a10 0) (a11 0) v9, stW G a10 v10, stW G a11 v11, ouW G a12 v12] [maW a0 (a1 0) (a2 0) (a3 0) (a4 0) (a7 0 0) (a8 0) (a9 0) (a9 1), stW G a1 v1, slW G a9 (a10 0) (a11 0) q.2.1, stW G a10 q.2.2.1, stW G a11 q.2.2.2.1, ouW G a12 q.2.2.2.2] (qI G [maW a0 (a1 0) (a2 0) (a3 0) (a4 0) (a7 0 0) (a8 0) (a9 0) (a9 1), stW G a1 v1, slW G a9 (a10 0) (a11 0) q.2.1, stW G a10 q.2.2.1, stW G a11 q.2.2.2.1, ouW G a12 q.2.2.2.2] q.1) 1 6 := by
  unfold f_L_save at hf
  refine mH_of (cc := cL_save) (maxL := 4) (ret := (some .int)) (hh := [(0, 9, 12, 28)]) (by decide) rfl rfl (Nat.le_of_ble_eq_true rfl) ?_
  intro p e s m args below meth c A ls S hK hA hex hTH hP hD hS hl
  obtain ⟨hx, hb, hml, hown, hts, hr, hlocks⟩ := id S
  have hl : lv_has ls 4 [(0, .ref (a0 0)), (1, .int i1), (2, .ref (a12 0))] := hl
  refine lv_aload_n hx hb dL_save_0 rfl (lv_at hl 2 rfl) ?_
  refine lv_iconst (v := (0:Int32)) hx hb dL_save_1 (by decide) ?_
  refine lv_aload_n hx hb dL_save_2 rfl (lv_at hl 0 rfl) ?_
  refine lv_iload_n hx hb dL_save_3 rfl (lv_at hl 1 rfl) ?_
  obtain ⟨q1, hq1, hf⟩ := bh_some hf
  refine g_callXVi S (cells' := 1) (slots' := 6) (As := [.int i1]) (c_X5_save l hl0 G a0 a1 a2 a3 a4 a5 a6 a7 a8 a9 a10 a11 v1 v9 v10 v11 i1 hq1) (cwV 1 hts gL_save_X5_save rfl rfl rfl hd_X5_save ⟨Nat.le_of_ble_eq_true rfl, Nat.le_of_ble_eq_true rfl⟩) hTH hK hP hD hS hA (is := [0, 1, 2, 3, 4]) rfl rfl 0 rfl rfl rfl rfl hl.1 rfl (Nat.le_of_ble_eq_true rfl) dL_save_4 ⟨Nat.le_of_ble_eq_true rfl, Nat.le_of_ble_eq_true rfl⟩ rfl rfl (fun x u ho H locs hP hD hS => ?_) (fun E u ho ce q9 H locs hP hD hS hce hcv hcl => ?_)
  · obtain ⟨r2, rfl, rfl, rfl⟩ := om_l ho
    have hf := bhe_l hf
    have hP : gP G [maW a0 (a1 0) (a2 0) (a3 0) (a4 0) (a7 0 0) (a8 0) (a9 0) (a9 1), stW G a1 v1, slW G a9 (a10 0) (a11 0) r2.2.1, stW G a10 r2.2.2.1, stW G a11 r2.2.2.2, ouW G a12 v12] H := hP
    have hD : gD A [maW a0 (a1 0) (a2 0) (a3 0) (a4 0) (a7 0 0) (a8 0) (a9 0) (a9 1), stW G a1 v1, slW G a9 (a10 0) (a11 0) r2.2.1, stW G a10 r2.2.2.1, stW G a11 r2.2.2.2, ouW G a12 v12] := hD
    refine lv_i2l (v := r2.1.toInt64) hx hb dL_save_7 rfl ?_
    obtain ⟨h4, hf⟩ := gi_some hf
    obtain ⟨u5, eu5, hf⟩ := lt_some hf
    refine g_last (gs' := [maW a0 (a1 0) (a2 0) (a3 0) (a4 0) (a7 0 0) (a8 0) (a9 0) (a9 1), stW G a1 v1, slW G a9 (a10 0) (a11 0) r2.2.1, stW G a10 r2.2.2.1, stW G a11 r2.2.2.2, ouW G a12 u5]) hx hb hK hP hD hS 5 0 3 rfl rfl rfl h4 dL_save_8 (by rw [eu5]; rfl) (fun H locs hP hD hS => ?_)
    refine lv_goto (tgt := 15) hx hb dL_save_9 (by decide) ?_
    refine lv_iconst (v := (0:Int32)) hx hb dL_save_15 (by decide) ?_
    cases hf
    exact g_hret hx hb hr hlocks (Nat.le_of_ble_eq_true rfl) (Nat.le_of_ble_eq_true rfl) hP hS dL_save_16
  · obtain ⟨r3, rfl, rfl, rfl⟩ := om_r ho
    have hf := bhe_r hf
    have hP : gP G [maW a0 (a1 0) (a2 0) (a3 0) (a4 0) (a7 0 0) (a8 0) (a9 0) (a9 1), stW G a1 v1, slW G a9 (a10 0) (a11 0) r3.2.1, stW G a10 r3.2.2.1, stW G a11 r3.2.2.2, ouW G a12 v12] H := hP
    have hD : gD A [maW a0 (a1 0) (a2 0) (a3 0) (a4 0) (a7 0 0) (a8 0) (a9 0) (a9 1), stW G a1 v1, slW G a9 (a10 0) (a11 0) r3.2.1, stW G a10 r3.2.2.1, stW G a11 r3.2.2.2, ouW G a12 v12] := hD
    by_cases c6 : r3.1 = "java/lang/IndexOutOfBoundsException"
    · rw [if_pos c6] at hf
      rw [c6] at hcl
      refine vx_catch (name := "java/lang/IndexOutOfBoundsException") hown [] ⟨0, 9, 12, 28⟩ [] (by rw [hex]; rfl) (fun z hz => absurd hz List.not_mem_nil) (by decide) (by decide) (hts _ kL_save_0) (ng_use rfl (hTH.2.2.2.2 _ vc_IndexOutOfBoundsException)) hce hcv hcl ?_
      refine lv_astore_n (lv' := [(3, .ref q9), (0, .ref (a0 0)), (1, .int i1), (2, .ref (a12 0))]) hx hb dL_save_12 rfl hl (by decide) rfl (fun ls hl => ?_)
      refine lv_iconst (v := (1:Int32)) hx hb dL_save_13 (by decide) ?_
      cases hf
      exact g_hret hx hb hr hlocks (Nat.le_of_ble_eq_true rfl) (Nat.le_of_ble_eq_true rfl) hP hS dL_save_14
    · rw [if_neg c6] at hf
      cases hf
theorem kL_restore_0 : Cond.classLink RL 28 "java/lang/IndexOutOfBoundsException" ∈ wsL_restore := (List.mem_cons_of_mem _ (List.mem_append_left _ (List.mem_append_left _ (List.mem_append_left _ (List.mem_append_left _ (List.mem_append_left _ (List.mem_append_left _ (List.mem_of_getElem? (i := 0) rfl))))))))
theorem kL_restore_1 : Cond.classLink RL 15 "java/lang/IllegalStateException" ∈ wsL_restore := (List.mem_cons_of_mem _ (List.mem_append_left _ (List.mem_append_left _ (List.mem_append_left _ (List.mem_append_left _ (List.mem_append_left _ (List.mem_append_left _ (List.mem_of_getElem? (i := 1) rfl))))))))
set_option maxHeartbeats 4000000 in
set_option maxRecDepth 100000 in
theorem c_L_restore (l : Launch) (hl0 : l.stackTraces = false) (G : uG) (a0 : Nat → Nat) (a1 : Nat → Nat) (a2 : Nat → Nat) (a3 : Nat → Nat) (a4 : Nat → Nat) (a5 : Nat → Nat) (a6 : Nat → Nat) (a7 : Nat → Nat → Nat) (a8 : Nat → Nat) (a9 : Nat → Nat) (a10 : Nat → Nat) (a11 : Nat → Nat) (a12 : Nat → Nat) (v1 : StV) (v7 : PaV) (v9 : SlV) (v10 : StV) (v11 : StV) (v12 : OuV) (i1 : Int32) {q : Int32 × (StV × PaV × OuV)} (hf : f_L_restore v1 v7 v9 v10 v11 v12 i1 = some q) : mH l yL_restore wsL_restore ({ frames := 8, cells := 2, slots := 12, locals := 133 } : Room) G [.ref (a0 0), .int i1, .ref (a12 0)] [maW a0 (a1 0) (a2 0) (a3 0) (a4 0) (a7 0 0) (a8 0) (a9 0) (a9 1), stW G a1 v1, paW G a7 v7, slW G a9 (a10 0) (a11 0) v9, stW G a10 v10, stW G a11 v11, ouW G a12 v12] [maW a0 (a1 0) (a2 0) (a3 0) (a4 0) (a7 0 0) (a8 0) (a9 0) (a9 1), stW G a1 q.2.1, paW G a7 q.2.2.1, slW G a9 (a10 0) (a11 0) v9, stW G a10 v10, stW G a11 v11, ouW G a12 q.2.2.2] (qI G [maW a0 (a1 0) (a2 0) (a3 0) (a4 0) (a7 0 0) (a8 0) (a9 0) (a9 1), stW G a1 q.2.1, paW G a7 q.2.2.1, slW G a9 (a10 0) (a11 0) v9, stW G a10 v10, stW G a11 v11, ouW G a12 q.2.2.2] q.1) 2 12 := by
  unfold f_L_restore at hf
  refine mH_of (cc := cL_restore) (maxL := 4) (ret := (some .int)) (hh := [(0, 9, 12, 28), (0, 9, 15, 15)]) (by decide) rfl rfl (Nat.le_of_ble_eq_true rfl) ?_
  intro p e s m args below meth c A ls S hK hA hex hTH hP hD hS hl
  obtain ⟨hx, hb, hml, hown, hts, hr, hlocks⟩ := id S
  have hl : lv_has ls 4 [(0, .ref (a0 0)), (1, .int i1), (2, .ref (a12 0))] := hl
  refine lv_aload_n hx hb dL_restore_0 rfl (lv_at hl 2 rfl) ?_
  refine lv_iconst (v := (0:Int32)) hx hb dL_restore_1 (by decide) ?_
  refine lv_aload_n hx hb dL_restore_2 rfl (lv_at hl 0 rfl) ?_
  refine lv_iload_n hx hb dL_restore_3 rfl (lv_at hl 1 rfl) ?_
  obtain ⟨q1, hq1, hf⟩ := bh_some hf
  refine g_callXVi S (cells' := 2) (slots' := 12) (As := [.int i1]) (c_X5_restore l hl0 G a0 a1 a2 a3 a4 a5 a6 a7 a8 a9 a10 a11 v1 v7 v9 v10 v11 i1 hq1) (cwV 1 hts gL_restore_X5_restore rfl rfl rfl hd_X5_restore ⟨Nat.le_of_ble_eq_true rfl, Nat.le_of_ble_eq_true rfl⟩) hTH hK hP hD hS hA (is := [0, 1, 2, 3, 4, 5]) rfl rfl 0 rfl rfl rfl rfl hl.1 rfl (Nat.le_of_ble_eq_true rfl) dL_restore_4 ⟨Nat.le_of_ble_eq_true rfl, Nat.le_of_ble_eq_true rfl⟩ rfl rfl (fun x u ho H locs hP hD hS => ?_) (fun E u ho ce q9 H locs hP hD hS hce hcv hcl => ?_)
  · obtain ⟨r2, rfl, rfl, rfl⟩ := om_l ho
    have hf := bhe_l hf
    have hP : gP G [maW a0 (a1 0) (a2 0) (a3 0) (a4 0) (a7 0 0) (a8 0) (a9 0) (a9 1), stW G a1 r2.2.1, paW G a7 r2.2.2, slW G a9 (a10 0) (a11 0) v9, stW G a10 v10, stW G a11 v11, ouW G a12 v12] H := hP
    have hD : gD A [maW a0 (a1 0) (a2 0) (a3 0) (a4 0) (a7 0 0) (a8 0) (a9 0) (a9 1), stW G a1 r2.2.1, paW G a7 r2.2.2, slW G a9 (a10 0) (a11 0) v9, stW G a10 v10, stW G a11 v11, ouW G a12 v12] := hD
    refine lv_i2l (v := r2.1.toInt64) hx hb dL_restore_7 rfl ?_
    obtain ⟨h4, hf⟩ := gi_some hf
    obtain ⟨u5, eu5, hf⟩ := lt_some hf
    refine g_last (gs' := [maW a0 (a1 0) (a2 0) (a3 0) (a4 0) (a7 0 0) (a8 0) (a9 0) (a9 1), stW G a1 r2.2.1, paW G a7 r2.2.2, slW G a9 (a10 0) (a11 0) v9, stW G a10 v10, stW G a11 v11, ouW G a12 u5]) hx hb hK hP hD hS 6 0 3 rfl rfl rfl h4 dL_restore_8 (by rw [eu5]; rfl) (fun H locs hP hD hS => ?_)
    refine lv_goto (tgt := 18) hx hb dL_restore_9 (by decide) ?_
    refine lv_iconst (v := (0:Int32)) hx hb dL_restore_18 (by decide) ?_
    cases hf
    exact g_hret hx hb hr hlocks (Nat.le_of_ble_eq_true rfl) (Nat.le_of_ble_eq_true rfl) hP hS dL_restore_19
  · obtain ⟨r3, rfl, rfl, rfl⟩ := om_r ho
    have hf := bhe_r hf
    have hP : gP G [maW a0 (a1 0) (a2 0) (a3 0) (a4 0) (a7 0 0) (a8 0) (a9 0) (a9 1), stW G a1 r3.2.1, paW G a7 r3.2.2, slW G a9 (a10 0) (a11 0) v9, stW G a10 v10, stW G a11 v11, ouW G a12 v12] H := hP
    have hD : gD A [maW a0 (a1 0) (a2 0) (a3 0) (a4 0) (a7 0 0) (a8 0) (a9 0) (a9 1), stW G a1 r3.2.1, paW G a7 r3.2.2, slW G a9 (a10 0) (a11 0) v9, stW G a10 v10, stW G a11 v11, ouW G a12 v12] := hD
    by_cases c6 : r3.1 = "java/lang/IndexOutOfBoundsException"
    · rw [if_pos c6] at hf
      rw [c6] at hcl
      refine vx_catch (name := "java/lang/IndexOutOfBoundsException") hown [] ⟨0, 9, 12, 28⟩ [⟨0, 9, 15, 15⟩] (by rw [hex]; rfl) (fun z hz => absurd hz List.not_mem_nil) (by decide) (by decide) (hts _ kL_restore_0) (ng_use rfl (hTH.2.2.2.2 _ vc_IndexOutOfBoundsException)) hce hcv hcl ?_
      refine lv_astore_n (lv' := [(3, .ref q9), (0, .ref (a0 0)), (1, .int i1), (2, .ref (a12 0))]) hx hb dL_restore_12 rfl hl (by decide) rfl (fun ls hl => ?_)
      refine lv_iconst (v := (1:Int32)) hx hb dL_restore_13 (by decide) ?_
      cases hf
      exact g_hret hx hb hr hlocks (Nat.le_of_ble_eq_true rfl) (Nat.le_of_ble_eq_true rfl) hP hS dL_restore_14
    · rw [if_neg c6] at hf
      by_cases c7 : r3.1 = "java/lang/IllegalStateException"
      · rw [if_pos c7] at hf
        rw [c7] at hcl
        refine vx_catch (name := "java/lang/IllegalStateException") hown [⟨0, 9, 12, 28⟩] ⟨0, 9, 15, 15⟩ [] (by rw [hex]; rfl) (List.forall_mem_cons.mpr ⟨Or.inr ⟨by decide, "java/lang/IndexOutOfBoundsException", (hts _ kL_restore_0), hTH.2.2.2.1 _ (List.mem_of_getElem? (i := 1) rfl)⟩, (fun z hz => absurd hz List.not_mem_nil)⟩) (by decide) (by decide) (hts _ kL_restore_1) (ng_use rfl (hTH.2.2.2.2 _ vc_IllegalStateException)) hce hcv hcl ?_
        refine lv_astore_n (lv' := [(3, .ref q9), (0, .ref (a0 0)), (1, .int i1), (2, .ref (a12 0))]) hx hb dL_restore_15 rfl hl (by decide) rfl (fun ls hl => ?_)
        refine lv_iconst (v := (2:Int32)) hx hb dL_restore_16 (by decide) ?_
        cases hf
        exact g_hret hx hb hr hlocks (Nat.le_of_ble_eq_true rfl) (Nat.le_of_ble_eq_true rfl) hP hS dL_restore_17
      · rw [if_neg c7] at hf
        cases hf
