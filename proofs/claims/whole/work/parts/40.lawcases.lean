theorem hd_L_about : yL_about.cls = RL ∧ yL_about.cls ≠ "java/lang/invoke/MethodHandle" ∧ yL_about.cls ≠ "java/lang/invoke/VarHandle" ∧ (parseMethodDescriptor yL_about.desc).map (fun d => d.parameters.length) = some 3 := by decide +kernel
theorem hd_L_addMember : yL_addMember.cls = RL ∧ yL_addMember.cls ≠ "java/lang/invoke/MethodHandle" ∧ yL_addMember.cls ≠ "java/lang/invoke/VarHandle" ∧ (parseMethodDescriptor yL_addMember.desc).map (fun d => d.parameters.length) = some 3 := by decide +kernel
theorem hd_L_append : yL_append.cls = RL ∧ yL_append.cls ≠ "java/lang/invoke/MethodHandle" ∧ yL_append.cls ≠ "java/lang/invoke/VarHandle" ∧ (parseMethodDescriptor yL_append.desc).map (fun d => d.parameters.length) = some 3 := by decide +kernel
theorem hd_L_bid : yL_bid.cls = RL ∧ yL_bid.cls ≠ "java/lang/invoke/MethodHandle" ∧ yL_bid.cls ≠ "java/lang/invoke/VarHandle" ∧ (parseMethodDescriptor yL_bid.desc).map (fun d => d.parameters.length) = some 4 := by decide +kernel
theorem hd_L_chain : yL_chain.cls = RL ∧ yL_chain.cls ≠ "java/lang/invoke/MethodHandle" ∧ yL_chain.cls ≠ "java/lang/invoke/VarHandle" ∧ (parseMethodDescriptor yL_chain.desc).map (fun d => d.parameters.length) = some 3 := by decide +kernel
theorem hd_L_change : yL_change.cls = RL ∧ yL_change.cls ≠ "java/lang/invoke/MethodHandle" ∧ yL_change.cls ≠ "java/lang/invoke/VarHandle" ∧ (parseMethodDescriptor yL_change.desc).map (fun d => d.parameters.length) = some 3 := by decide +kernel
theorem hd_L_give : yL_give.cls = RL ∧ yL_give.cls ≠ "java/lang/invoke/MethodHandle" ∧ yL_give.cls ≠ "java/lang/invoke/VarHandle" ∧ (parseMethodDescriptor yL_give.desc).map (fun d => d.parameters.length) = some 4 := by decide +kernel
theorem hd_L_inTheEnd : yL_inTheEnd.cls = RL ∧ yL_inTheEnd.cls ≠ "java/lang/invoke/MethodHandle" ∧ yL_inTheEnd.cls ≠ "java/lang/invoke/VarHandle" ∧ (parseMethodDescriptor yL_inTheEnd.desc).map (fun d => d.parameters.length) = some 3 := by decide +kernel
theorem hd_L_leastBid : yL_leastBid.cls = RL ∧ yL_leastBid.cls ≠ "java/lang/invoke/MethodHandle" ∧ yL_leastBid.cls ≠ "java/lang/invoke/VarHandle" ∧ (parseMethodDescriptor yL_leastBid.desc).map (fun d => d.parameters.length) = some 3 := by decide +kernel
theorem hd_L_leave : yL_leave.cls = RL ∧ yL_leave.cls ≠ "java/lang/invoke/MethodHandle" ∧ yL_leave.cls ≠ "java/lang/invoke/VarHandle" ∧ (parseMethodDescriptor yL_leave.desc).map (fun d => d.parameters.length) = some 3 := by decide +kernel
theorem hd_L_load : yL_load.cls = RL ∧ yL_load.cls ≠ "java/lang/invoke/MethodHandle" ∧ yL_load.cls ≠ "java/lang/invoke/VarHandle" ∧ (parseMethodDescriptor yL_load.desc).map (fun d => d.parameters.length) = some 2 := by decide +kernel
theorem hd_L_member : yL_member.cls = RL ∧ yL_member.cls ≠ "java/lang/invoke/MethodHandle" ∧ yL_member.cls ≠ "java/lang/invoke/VarHandle" ∧ (parseMethodDescriptor yL_member.desc).map (fun d => d.parameters.length) = some 4 := by decide +kernel
theorem hd_L_month : yL_month.cls = RL ∧ yL_month.cls ≠ "java/lang/invoke/MethodHandle" ∧ yL_month.cls ≠ "java/lang/invoke/VarHandle" ∧ (parseMethodDescriptor yL_month.desc).map (fun d => d.parameters.length) = some 2 := by decide +kernel
theorem hd_L_owes : yL_owes.cls = RL ∧ yL_owes.cls ≠ "java/lang/invoke/MethodHandle" ∧ yL_owes.cls ≠ "java/lang/invoke/VarHandle" ∧ (parseMethodDescriptor yL_owes.desc).map (fun d => d.parameters.length) = some 4 := by decide +kernel
theorem hd_L_rate : yL_rate.cls = RL ∧ yL_rate.cls ≠ "java/lang/invoke/MethodHandle" ∧ yL_rate.cls ≠ "java/lang/invoke/VarHandle" ∧ (parseMethodDescriptor yL_rate.desc).map (fun d => d.parameters.length) = some 3 := by decide +kernel
theorem hd_L_repay : yL_repay.cls = RL ∧ yL_repay.cls ≠ "java/lang/invoke/MethodHandle" ∧ yL_repay.cls ≠ "java/lang/invoke/VarHandle" ∧ (parseMethodDescriptor yL_repay.desc).map (fun d => d.parameters.length) = some 4 := by decide +kernel
theorem hd_L_restore : yL_restore.cls = RL ∧ yL_restore.cls ≠ "java/lang/invoke/MethodHandle" ∧ yL_restore.cls ≠ "java/lang/invoke/VarHandle" ∧ (parseMethodDescriptor yL_restore.desc).map (fun d => d.parameters.length) = some 3 := by decide +kernel
theorem hd_L_runScript : yL_runScript.cls = RL ∧ yL_runScript.cls ≠ "java/lang/invoke/MethodHandle" ∧ yL_runScript.cls ≠ "java/lang/invoke/VarHandle" ∧ (parseMethodDescriptor yL_runScript.desc).map (fun d => d.parameters.length) = some 4 := by decide +kernel
theorem hd_L_save : yL_save.cls = RL ∧ yL_save.cls ≠ "java/lang/invoke/MethodHandle" ∧ yL_save.cls ≠ "java/lang/invoke/VarHandle" ∧ (parseMethodDescriptor yL_save.desc).map (fun d => d.parameters.length) = some 3 := by decide +kernel
theorem hd_L_setContribution : yL_setContribution.cls = RL ∧ yL_setContribution.cls ≠ "java/lang/invoke/MethodHandle" ∧ yL_setContribution.cls ≠ "java/lang/invoke/VarHandle" ∧ (parseMethodDescriptor yL_setContribution.desc).map (fun d => d.parameters.length) = some 3 := by decide +kernel
theorem hd_L_setGuarantor : yL_setGuarantor.cls = RL ∧ yL_setGuarantor.cls ≠ "java/lang/invoke/MethodHandle" ∧ yL_setGuarantor.cls ≠ "java/lang/invoke/VarHandle" ∧ (parseMethodDescriptor yL_setGuarantor.desc).map (fun d => d.parameters.length) = some 4 := by decide +kernel
theorem hd_L_simulate : yL_simulate.cls = RL ∧ yL_simulate.cls ≠ "java/lang/invoke/MethodHandle" ∧ yL_simulate.cls ≠ "java/lang/invoke/VarHandle" ∧ (parseMethodDescriptor yL_simulate.desc).map (fun d => d.parameters.length) = some 4 := by decide +kernel
theorem hd_L_stayAway : yL_stayAway.cls = RL ∧ yL_stayAway.cls ≠ "java/lang/invoke/MethodHandle" ∧ yL_stayAway.cls ≠ "java/lang/invoke/VarHandle" ∧ (parseMethodDescriptor yL_stayAway.desc).map (fun d => d.parameters.length) = some 4 := by decide +kernel
theorem hd_L_undo : yL_undo.cls = RL ∧ yL_undo.cls ≠ "java/lang/invoke/MethodHandle" ∧ yL_undo.cls ≠ "java/lang/invoke/VarHandle" ∧ (parseMethodDescriptor yL_undo.desc).map (fun d => d.parameters.length) = some 2 := by decide +kernel
theorem hd_L_when : yL_when.cls = RL ∧ yL_when.cls ≠ "java/lang/invoke/MethodHandle" ∧ yL_when.cls ≠ "java/lang/invoke/VarHandle" ∧ (parseMethodDescriptor yL_when.desc).map (fun d => d.parameters.length) = some 3 := by decide +kernel
theorem hd_X5_clearText : yX5_clearText.cls = RX5 ∧ yX5_clearText.cls ≠ "java/lang/invoke/MethodHandle" ∧ yX5_clearText.cls ≠ "java/lang/invoke/VarHandle" ∧ (parseMethodDescriptor yX5_clearText.desc).map (fun d => d.parameters.length) = some 0 := by decide +kernel
theorem hd_X5_errorPosition : yX5_errorPosition.cls = RX5 ∧ yX5_errorPosition.cls ≠ "java/lang/invoke/MethodHandle" ∧ yX5_errorPosition.cls ≠ "java/lang/invoke/VarHandle" ∧ (parseMethodDescriptor yX5_errorPosition.desc).map (fun d => d.parameters.length) = some 0 := by decide +kernel
theorem hd_X5_pillar : yX5_pillar.cls = RX5 ∧ yX5_pillar.cls ≠ "java/lang/invoke/MethodHandle" ∧ yX5_pillar.cls ≠ "java/lang/invoke/VarHandle" ∧ (parseMethodDescriptor yX5_pillar.desc).map (fun d => d.parameters.length) = some 0 := by decide +kernel
theorem hd_X5_pot : yX5_pot.cls = RX5 ∧ yX5_pot.cls ≠ "java/lang/invoke/MethodHandle" ∧ yX5_pot.cls ≠ "java/lang/invoke/VarHandle" ∧ (parseMethodDescriptor yX5_pot.desc).map (fun d => d.parameters.length) = some 0 := by decide +kernel
theorem hd_X5_winner : yX5_winner.cls = RX5 ∧ yX5_winner.cls ≠ "java/lang/invoke/MethodHandle" ∧ yX5_winner.cls ≠ "java/lang/invoke/VarHandle" ∧ (parseMethodDescriptor yX5_winner.desc).map (fun d => d.parameters.length) = some 0 := by decide +kernel
theorem hd_X6_about : yX6_about.cls = RX6 ∧ yX6_about.cls ≠ "java/lang/invoke/MethodHandle" ∧ yX6_about.cls ≠ "java/lang/invoke/VarHandle" ∧ (parseMethodDescriptor yX6_about.desc).map (fun d => d.parameters.length) = some 1 := by decide +kernel
theorem hd_X6_addMember : yX6_addMember.cls = RX6 ∧ yX6_addMember.cls ≠ "java/lang/invoke/MethodHandle" ∧ yX6_addMember.cls ≠ "java/lang/invoke/VarHandle" ∧ (parseMethodDescriptor yX6_addMember.desc).map (fun d => d.parameters.length) = some 1 := by decide +kernel
theorem hd_X6_append : yX6_append.cls = RX6 ∧ yX6_append.cls ≠ "java/lang/invoke/MethodHandle" ∧ yX6_append.cls ≠ "java/lang/invoke/VarHandle" ∧ (parseMethodDescriptor yX6_append.desc).map (fun d => d.parameters.length) = some 1 := by decide +kernel
theorem hd_X6_bid : yX6_bid.cls = RX6 ∧ yX6_bid.cls ≠ "java/lang/invoke/MethodHandle" ∧ yX6_bid.cls ≠ "java/lang/invoke/VarHandle" ∧ (parseMethodDescriptor yX6_bid.desc).map (fun d => d.parameters.length) = some 2 := by decide +kernel
theorem hd_X6_chain : yX6_chain.cls = RX6 ∧ yX6_chain.cls ≠ "java/lang/invoke/MethodHandle" ∧ yX6_chain.cls ≠ "java/lang/invoke/VarHandle" ∧ (parseMethodDescriptor yX6_chain.desc).map (fun d => d.parameters.length) = some 1 := by decide +kernel
theorem hd_X6_change : yX6_change.cls = RX6 ∧ yX6_change.cls ≠ "java/lang/invoke/MethodHandle" ∧ yX6_change.cls ≠ "java/lang/invoke/VarHandle" ∧ (parseMethodDescriptor yX6_change.desc).map (fun d => d.parameters.length) = some 1 := by decide +kernel
theorem hd_X6_clearText : yX6_clearText.cls = RX6 ∧ yX6_clearText.cls ≠ "java/lang/invoke/MethodHandle" ∧ yX6_clearText.cls ≠ "java/lang/invoke/VarHandle" ∧ (parseMethodDescriptor yX6_clearText.desc).map (fun d => d.parameters.length) = some 0 := by decide +kernel
theorem hd_X6_errorPosition : yX6_errorPosition.cls = RX6 ∧ yX6_errorPosition.cls ≠ "java/lang/invoke/MethodHandle" ∧ yX6_errorPosition.cls ≠ "java/lang/invoke/VarHandle" ∧ (parseMethodDescriptor yX6_errorPosition.desc).map (fun d => d.parameters.length) = some 0 := by decide +kernel
theorem hd_X6_give : yX6_give.cls = RX6 ∧ yX6_give.cls ≠ "java/lang/invoke/MethodHandle" ∧ yX6_give.cls ≠ "java/lang/invoke/VarHandle" ∧ (parseMethodDescriptor yX6_give.desc).map (fun d => d.parameters.length) = some 2 := by decide +kernel
theorem hd_X6_inTheEnd : yX6_inTheEnd.cls = RX6 ∧ yX6_inTheEnd.cls ≠ "java/lang/invoke/MethodHandle" ∧ yX6_inTheEnd.cls ≠ "java/lang/invoke/VarHandle" ∧ (parseMethodDescriptor yX6_inTheEnd.desc).map (fun d => d.parameters.length) = some 1 := by decide +kernel
theorem hd_X6_leastBid : yX6_leastBid.cls = RX6 ∧ yX6_leastBid.cls ≠ "java/lang/invoke/MethodHandle" ∧ yX6_leastBid.cls ≠ "java/lang/invoke/VarHandle" ∧ (parseMethodDescriptor yX6_leastBid.desc).map (fun d => d.parameters.length) = some 1 := by decide +kernel
theorem hd_X6_leave : yX6_leave.cls = RX6 ∧ yX6_leave.cls ≠ "java/lang/invoke/MethodHandle" ∧ yX6_leave.cls ≠ "java/lang/invoke/VarHandle" ∧ (parseMethodDescriptor yX6_leave.desc).map (fun d => d.parameters.length) = some 1 := by decide +kernel
theorem hd_X6_load : yX6_load.cls = RX6 ∧ yX6_load.cls ≠ "java/lang/invoke/MethodHandle" ∧ yX6_load.cls ≠ "java/lang/invoke/VarHandle" ∧ (parseMethodDescriptor yX6_load.desc).map (fun d => d.parameters.length) = some 0 := by decide +kernel
theorem hd_X6_member : yX6_member.cls = RX6 ∧ yX6_member.cls ≠ "java/lang/invoke/MethodHandle" ∧ yX6_member.cls ≠ "java/lang/invoke/VarHandle" ∧ (parseMethodDescriptor yX6_member.desc).map (fun d => d.parameters.length) = some 2 := by decide +kernel
theorem hd_X6_month : yX6_month.cls = RX6 ∧ yX6_month.cls ≠ "java/lang/invoke/MethodHandle" ∧ yX6_month.cls ≠ "java/lang/invoke/VarHandle" ∧ (parseMethodDescriptor yX6_month.desc).map (fun d => d.parameters.length) = some 0 := by decide +kernel
theorem hd_X6_owes : yX6_owes.cls = RX6 ∧ yX6_owes.cls ≠ "java/lang/invoke/MethodHandle" ∧ yX6_owes.cls ≠ "java/lang/invoke/VarHandle" ∧ (parseMethodDescriptor yX6_owes.desc).map (fun d => d.parameters.length) = some 2 := by decide +kernel
theorem hd_X6_pillar : yX6_pillar.cls = RX6 ∧ yX6_pillar.cls ≠ "java/lang/invoke/MethodHandle" ∧ yX6_pillar.cls ≠ "java/lang/invoke/VarHandle" ∧ (parseMethodDescriptor yX6_pillar.desc).map (fun d => d.parameters.length) = some 0 := by decide +kernel
theorem hd_X6_pot : yX6_pot.cls = RX6 ∧ yX6_pot.cls ≠ "java/lang/invoke/MethodHandle" ∧ yX6_pot.cls ≠ "java/lang/invoke/VarHandle" ∧ (parseMethodDescriptor yX6_pot.desc).map (fun d => d.parameters.length) = some 0 := by decide +kernel
theorem hd_X6_rate : yX6_rate.cls = RX6 ∧ yX6_rate.cls ≠ "java/lang/invoke/MethodHandle" ∧ yX6_rate.cls ≠ "java/lang/invoke/VarHandle" ∧ (parseMethodDescriptor yX6_rate.desc).map (fun d => d.parameters.length) = some 1 := by decide +kernel
theorem hd_X6_repay : yX6_repay.cls = RX6 ∧ yX6_repay.cls ≠ "java/lang/invoke/MethodHandle" ∧ yX6_repay.cls ≠ "java/lang/invoke/VarHandle" ∧ (parseMethodDescriptor yX6_repay.desc).map (fun d => d.parameters.length) = some 2 := by decide +kernel
theorem hd_X6_restore : yX6_restore.cls = RX6 ∧ yX6_restore.cls ≠ "java/lang/invoke/MethodHandle" ∧ yX6_restore.cls ≠ "java/lang/invoke/VarHandle" ∧ (parseMethodDescriptor yX6_restore.desc).map (fun d => d.parameters.length) = some 1 := by decide +kernel
theorem hd_X6_runScript : yX6_runScript.cls = RX6 ∧ yX6_runScript.cls ≠ "java/lang/invoke/MethodHandle" ∧ yX6_runScript.cls ≠ "java/lang/invoke/VarHandle" ∧ (parseMethodDescriptor yX6_runScript.desc).map (fun d => d.parameters.length) = some 2 := by decide +kernel
theorem hd_X6_save : yX6_save.cls = RX6 ∧ yX6_save.cls ≠ "java/lang/invoke/MethodHandle" ∧ yX6_save.cls ≠ "java/lang/invoke/VarHandle" ∧ (parseMethodDescriptor yX6_save.desc).map (fun d => d.parameters.length) = some 1 := by decide +kernel
theorem hd_X6_setContribution : yX6_setContribution.cls = RX6 ∧ yX6_setContribution.cls ≠ "java/lang/invoke/MethodHandle" ∧ yX6_setContribution.cls ≠ "java/lang/invoke/VarHandle" ∧ (parseMethodDescriptor yX6_setContribution.desc).map (fun d => d.parameters.length) = some 1 := by decide +kernel
theorem hd_X6_setGuarantor : yX6_setGuarantor.cls = RX6 ∧ yX6_setGuarantor.cls ≠ "java/lang/invoke/MethodHandle" ∧ yX6_setGuarantor.cls ≠ "java/lang/invoke/VarHandle" ∧ (parseMethodDescriptor yX6_setGuarantor.desc).map (fun d => d.parameters.length) = some 2 := by decide +kernel
theorem hd_X6_simulate : yX6_simulate.cls = RX6 ∧ yX6_simulate.cls ≠ "java/lang/invoke/MethodHandle" ∧ yX6_simulate.cls ≠ "java/lang/invoke/VarHandle" ∧ (parseMethodDescriptor yX6_simulate.desc).map (fun d => d.parameters.length) = some 2 := by decide +kernel
theorem hd_X6_stayAway : yX6_stayAway.cls = RX6 ∧ yX6_stayAway.cls ≠ "java/lang/invoke/MethodHandle" ∧ yX6_stayAway.cls ≠ "java/lang/invoke/VarHandle" ∧ (parseMethodDescriptor yX6_stayAway.desc).map (fun d => d.parameters.length) = some 2 := by decide +kernel
theorem hd_X6_thrown : yX6_thrown.cls = RX6 ∧ yX6_thrown.cls ≠ "java/lang/invoke/MethodHandle" ∧ yX6_thrown.cls ≠ "java/lang/invoke/VarHandle" ∧ (parseMethodDescriptor yX6_thrown.desc).map (fun d => d.parameters.length) = some 0 := by decide +kernel
theorem hd_X6_undo : yX6_undo.cls = RX6 ∧ yX6_undo.cls ≠ "java/lang/invoke/MethodHandle" ∧ yX6_undo.cls ≠ "java/lang/invoke/VarHandle" ∧ (parseMethodDescriptor yX6_undo.desc).map (fun d => d.parameters.length) = some 0 := by decide +kernel
theorem hd_X6_when : yX6_when.cls = RX6 ∧ yX6_when.cls ≠ "java/lang/invoke/MethodHandle" ∧ yX6_when.cls ≠ "java/lang/invoke/VarHandle" ∧ (parseMethodDescriptor yX6_when.desc).map (fun d => d.parameters.length) = some 1 := by decide +kernel
theorem hd_X6_winner : yX6_winner.cls = RX6 ∧ yX6_winner.cls ≠ "java/lang/invoke/MethodHandle" ∧ yX6_winner.cls ≠ "java/lang/invoke/VarHandle" ∧ (parseMethodDescriptor yX6_winner.desc).map (fun d => d.parameters.length) = some 0 := by decide +kernel
theorem kL_law_0 : Cond.constantLong RL 192 (4294967295) ∈ wsL_law := (List.mem_append_left _ (List.mem_append_left _ (List.mem_append_left _ (List.mem_append_left _ (List.mem_append_left _ (List.mem_append_left _ (List.mem_append_left _ (List.mem_append_left _ (List.mem_append_left _ (List.mem_append_left _ (List.mem_append_left _ (List.mem_append_left _ (List.mem_of_getElem? (i := 7) rfl)))))))))))))
set_option maxHeartbeats 8000000 in
set_option maxRecDepth 100000 in
theorem w_law_172 {p : Program} {l : Launch} (hl0 : l.stackTraces = false) {e : Env} {s : State} {m : MethodId} {below : List Frame} {meth : Method} {c : Code} {b L : Nat} {xs : Nat → Int32} {A : Nat → Prop} (S : Ev p s m #[Value.ref b] meth c cL_law 7 (some .boolean) RL wsL_law) {G : uG} (hK : kK G s) (hA : ∀ q, s.heap.size ≤ q → A q) (hTH : gTH A s s.heap) (hX : va_X b L xs s s.heap) (hbl : b < s.heap.size) (hbA : ¬ A b) (a0 : Nat → Nat) (a1 : Nat → Nat) (a2 : Nat → Nat) (a3 : Nat → Nat) (a4 : Nat → Nat) (a5 : Nat → Nat) (a6 : Nat → Nat) (a7 : Nat → Nat → Nat) (a8 : Nat → Nat) (a9 : Nat → Nat) (a10 : Nat → Nat) (a11 : Nat → Nat) (a12 : Nat → Nat) (a13 : Nat → Nat) (i4 : Int32) (v1 : StV) (v2 : StV) (v3 : RdV) (v5 : StV) (v6 : RdV) (v7 : PaV) (v8 : TxV) (v9 : SlV) (v10 : StV) (v11 : StV) (v12 : MdV) (v13 : OuV) {w9 : LwV} {Q : State → Prop} {c9 s9 : Nat} (hc9 : c9 + 4 ≤ 601024) (hs9 : s9 + 24 ≤ 7293033) (hf : f_law_172 xs L i4 v1 v2 v3 v5 v6 v7 v8 v9 v10 v11 v12 v13 = some w9) {H : Heap} {locs : List Loc} {ls : Array Slot} (hP : gP G [maW a0 (a1 0) (a2 0) (a3 0) (a4 0) (a7 0 0) (a8 0) (a9 0) (a9 1), stW G a1 v1, stW G a2 v2, rdW G a3 v3, scW a4 (a5 0) (a6 0), stW G a5 v5, rdW G a6 v6, paW G a7 v7, txW G a8 v8, slW G a9 (a10 0) (a11 0) v9, stW G a10 v10, stW G a11 v11, mdW G a12 v12, ouW G a13 v13] H) (hD : gD A [maW a0 (a1 0) (a2 0) (a3 0) (a4 0) (a7 0 0) (a8 0) (a9 0) (a9 1), stW G a1 v1, stW G a2 v2, rdW G a3 v3, scW a4 (a5 0) (a6 0), stW G a5 v5, rdW G a6 v6, paW G a7 v7, txW G a8 v8, slW G a9 (a10 0) (a11 0) v9, stW G a10 v10, stW G a11 v11, mdW G a12 v12, ouW G a13 v13]) (hS : va_S A s.heap H locs) (hl : lv_has ls 7 [(0, .ref b), (1, .ref (a0 0)), (2, .ref (a12 0)), (3, .ref (a13 0)), (4, .int i4)]) (K : ∀ (H : Heap) (locs : List Loc) (ls : Array Slot), gP G [maW a0 (a1 0) (a2 0) (a3 0) (a4 0) (a7 0 0) (a8 0) (a9 0) (a9 1), stW G a1 w9.1, stW G a2 w9.2.1, rdW G a3 w9.2.2.1, scW a4 (a5 0) (a6 0), stW G a5 w9.2.2.2.1, rdW G a6 w9.2.2.2.2.1, paW G a7 w9.2.2.2.2.2.1, txW G a8 w9.2.2.2.2.2.2.1, slW G a9 (a10 0) (a11 0) w9.2.2.2.2.2.2.2.1, stW G a10 w9.2.2.2.2.2.2.2.2.1, stW G a11 w9.2.2.2.2.2.2.2.2.2.1, mdW G a12 w9.2.2.2.2.2.2.2.2.2.2.1, ouW G a13 w9.2.2.2.2.2.2.2.2.2.2.2] H → gD A [maW a0 (a1 0) (a2 0) (a3 0) (a4 0) (a7 0 0) (a8 0) (a9 0) (a9 1), stW G a1 w9.1, stW G a2 w9.2.1, rdW G a3 w9.2.2.1, scW a4 (a5 0) (a6 0), stW G a5 w9.2.2.2.1, rdW G a6 w9.2.2.2.2.1, paW G a7 w9.2.2.2.2.2.1, txW G a8 w9.2.2.2.2.2.2.1, slW G a9 (a10 0) (a11 0) w9.2.2.2.2.2.2.2.1, stW G a10 w9.2.2.2.2.2.2.2.2.1, stW G a11 w9.2.2.2.2.2.2.2.2.2.1, mdW G a12 w9.2.2.2.2.2.2.2.2.2.2.1, ouW G a13 w9.2.2.2.2.2.2.2.2.2.2.2] → va_S A s.heap H locs → lv_has ls 7 [(0, .ref b), (1, .ref (a0 0)), (2, .ref (a12 0)), (3, .ref (a13 0)), (4, .int i4)] → W p l e room_1 s m #[Value.ref b] below meth c H locs (c9 + 4) (s9 + 24) Q (F0 m 1796 ls [])) : W p l e room_1 s m #[Value.ref b] below meth c H locs (c9) (s9) Q (F0 m 172 ls []) := by
  obtain ⟨hx, hb, hml, hown, hts, hr, hlocks⟩ := id S
  unfold f_law_172 at hf
  refine lv_aload_n hx hb dL_law_172 rfl (lv_at hl 1 rfl) ?_
  refine lv_aload_n hx hb dL_law_173 rfl (lv_at hl 0 rfl) ?_
  refine lv_iload hx hb dL_law_174 (lv_at hl 4 rfl) ?_
  refine lv_iconst (v := (1:Int32)) hx hb dL_law_176 (by decide) ?_
  refine lv_iadd hx hb dL_law_177 ?_
  obtain ⟨h1, hf⟩ := gi_some hf
  refine va_sld hx hb hX hbl hbA hS h1 dL_law_178 ?_
  refine lv_aload_n hx hb dL_law_179 rfl (lv_at hl 3 rfl) ?_
  obtain ⟨q2, hq2, hf⟩ := bd_some hf
  refine g_callHi S (As := [.ref (a0 0), .int (xs (i4 + (1:Int32)).toNatClampNeg), .ref (a13 0)]) (gs' := [maW a0 (a1 0) (a2 0) (a3 0) (a4 0) (a7 0 0) (a8 0) (a9 0) (a9 1), stW G a1 v1, stW G a2 v2, rdW G a3 v3, scW a4 (a5 0) (a6 0), stW G a5 v5, rdW G a6 v6, paW G a7 v7, txW G a8 q2.2.1, slW G a9 (a10 0) (a11 0) v9, stW G a10 v10, stW G a11 v11, mdW G a12 v12, ouW G a13 q2.2.2]) (c_L_append l hl0 G a0 a1 a2 a3 a4 a5 a6 a7 a8 a9 a10 a11 a13 v8 v13 (xs (i4 + (1:Int32)).toNatClampNeg) hq2) (vx_cwSW 3 hts gL_law_L_append rfl rfl rfl hd_L_append.2 ⟨(Nat.le_of_ble_eq_true rfl), (Nat.le_of_ble_eq_true rfl)⟩) hTH hK hP hD hS hA (is := [0, 8, 13]) rfl rfl rfl hl.1 rfl (Nat.le_of_ble_eq_true rfl) dL_law_180 ⟨by show c9 + 2 ≤ 601024; omega, by show s9 + 12 ≤ 7293033; omega⟩ rfl (fun H locs hP hD hS => ?_)
  refine lv_istore (lv' := [(5, .int q2.1), (0, .ref b), (1, .ref (a0 0)), (2, .ref (a12 0)), (3, .ref (a13 0)), (4, .int i4)]) hx hb dL_law_183 hl (by decide) rfl (fun ls hl => ?_)
  refine lv_aload_n hx hb dL_law_185 rfl (lv_at hl 3 rfl) ?_
  refine lv_aload_n hx hb dL_law_186 rfl (lv_at hl 1 rfl) ?_
  refine lv_iload hx hb dL_law_187 (lv_at hl 5 rfl) ?_
  refine lv_iconst (v := (1:Int32)) hx hb dL_law_189 (by decide) ?_
  refine lv_iadd hx hb dL_law_190 ?_
  obtain ⟨h3, hf⟩ := gi_some hf
  refine va_sld hx hb hX hbl hbA hS h3 dL_law_191 ?_
  obtain ⟨q4, hq4, hf⟩ := bd_some hf
  refine g_callVi S (As := [.int (xs (i4 + (1:Int32)).toNatClampNeg)]) (gs' := [maW a0 (a1 0) (a2 0) (a3 0) (a4 0) (a7 0 0) (a8 0) (a9 0) (a9 1), stW G a1 v1, stW G a2 v2, rdW G a3 v3, scW a4 (a5 0) (a6 0), stW G a5 v5, rdW G a6 v6, paW G a7 v7, txW G a8 q2.2.1, slW G a9 (a10 0) (a11 0) v9, stW G a10 v10, stW G a11 v11, mdW G a12 q4.2, ouW G a13 q2.2.2]) (c_X6_append l G a12 v12 (xs (i4 + (1:Int32)).toNatClampNeg) hq4) (cwV 1 hts gL_law_X6_append rfl rfl rfl hd_X6_append ⟨Nat.le_of_ble_eq_true rfl, Nat.le_of_ble_eq_true rfl⟩) hK hP hD hS hA (is := [12]) rfl rfl 12 rfl rfl rfl rfl hl.1 rfl (Nat.le_of_ble_eq_true rfl) dL_law_192 ⟨by show c9 + 2 + 0 ≤ 601024; omega, by show s9 + 12 + 0 ≤ 7293033; omega⟩ rfl (fun H locs hP hD hS => ?_)
  refine lv_istore (lv' := [(6, .int q4.1), (5, .int q2.1), (0, .ref b), (1, .ref (a0 0)), (2, .ref (a12 0)), (3, .ref (a13 0)), (4, .int i4)]) hx hb dL_law_195 hl (by decide) rfl (fun ls hl => ?_)
  refine lv_aload_n hx hb dL_law_197 rfl (lv_at hl 4 rfl) ?_
  obtain ⟨q5, hq5, hf⟩ := bd_some hf
  refine g_callVi S (As := []) (gs' := [maW a0 (a1 0) (a2 0) (a3 0) (a4 0) (a7 0 0) (a8 0) (a9 0) (a9 1), stW G a1 v1, stW G a2 v2, rdW G a3 v3, scW a4 (a5 0) (a6 0), stW G a5 v5, rdW G a6 v6, paW G a7 v7, txW G a8 q2.2.1, slW G a9 (a10 0) (a11 0) v9, stW G a10 v10, stW G a11 v11, mdW G a12 q4.2, ouW G a13 q2.2.2]) (c_X6_thrown l G a12 q4.2 hq5) (cwV 0 hts gL_law_X6_thrown rfl rfl rfl hd_X6_thrown ⟨Nat.le_of_ble_eq_true rfl, Nat.le_of_ble_eq_true rfl⟩) hK hP hD hS hA (is := [12]) rfl rfl 12 rfl rfl rfl rfl hl.1 rfl (Nat.le_of_ble_eq_true rfl) dL_law_198 ⟨by show c9 + 2 + 0 ≤ 601024; omega, by show s9 + 12 + 0 ≤ 7293033; omega⟩ rfl (fun H locs hP hD hS => ?_)
  refine lv_iload hx hb dL_law_201 (lv_at hl 1 rfl) ?_
  refine lv_icmp_eq (tgt := 208) hx hb dL_law_203 (by decide) (fun c6 => ?_) (fun c6 => ?_)
  · rw [if_pos c6] at hf
    refine lv_iload hx hb dL_law_208 (lv_at hl 1 rfl) ?_
    refine lv_if_ne (tgt := 225) hx hb dL_law_210 (by decide) (fun c7 => ?_) (fun c7 => ?_)
    · rw [if_neg c7] at hf
      refine lv_goto (tgt := 1796) hx hb dL_law_225 (by decide) ?_
      cases hf
      refine W.widen (k := c9 + 4) (n := s9 + 24) (by omega) (by omega) ?_
      exact K H locs ls hP hD hS (lv_sub hl [2, 3, 4, 5, 6] rfl)
    · rw [if_pos c7] at hf
      refine lv_aload_n hx hb dL_law_213 rfl (lv_at hl 5 rfl) ?_
      refine lv_iconst (v := (0:Int32)) hx hb dL_law_214 (by decide) ?_
      obtain ⟨h8, hf⟩ := gi_some hf
      refine g_lald hx hb hK hP 13 0 3 rfl rfl rfl h8 dL_law_215 ?_
      refine lv_iload hx hb dL_law_216 (lv_at hl 0 rfl) ?_
      refine lv_i2l (v := q4.1.toInt64) hx hb dL_law_218 rfl ?_
      refine W.lcmp hx hb dL_law_219 ?_
      obtain ⟨x9, ex9, hf⟩ := lt_some hf
      refine lv_nmi ex9 ?_
      refine lv_if_eq (tgt := 225) hx hb dL_law_220 (by decide) (fun c10 => ?_) (fun c10 => ?_)
      · rw [if_pos c10] at hf
        refine lv_goto (tgt := 1796) hx hb dL_law_225 (by decide) ?_
        cases hf
        refine W.widen (k := c9 + 4) (n := s9 + 24) (by omega) (by omega) ?_
        exact K H locs ls hP hD hS (lv_sub hl [2, 3, 4, 5, 6] rfl)
      · rw [if_neg c10] at hf
        refine lv_iconst (v := (0:Int32)) hx hb dL_law_223 (by decide) ?_
        cases hf
  · rw [if_neg c6] at hf
    refine lv_iconst (v := (0:Int32)) hx hb dL_law_206 (by decide) ?_
    cases hf
set_option maxHeartbeats 8000000 in
set_option maxRecDepth 100000 in
theorem w_law_228 {p : Program} {l : Launch} (hl0 : l.stackTraces = false) {e : Env} {s : State} {m : MethodId} {below : List Frame} {meth : Method} {c : Code} {b L : Nat} {xs : Nat → Int32} {A : Nat → Prop} (S : Ev p s m #[Value.ref b] meth c cL_law 7 (some .boolean) RL wsL_law) {G : uG} (hK : kK G s) (hA : ∀ q, s.heap.size ≤ q → A q) (hTH : gTH A s s.heap) (hX : va_X b L xs s s.heap) (hbl : b < s.heap.size) (hbA : ¬ A b) (a0 : Nat → Nat) (a1 : Nat → Nat) (a2 : Nat → Nat) (a3 : Nat → Nat) (a4 : Nat → Nat) (a5 : Nat → Nat) (a6 : Nat → Nat) (a7 : Nat → Nat → Nat) (a8 : Nat → Nat) (a9 : Nat → Nat) (a10 : Nat → Nat) (a11 : Nat → Nat) (a12 : Nat → Nat) (a13 : Nat → Nat) (i4 : Int32) (v1 : StV) (v2 : StV) (v3 : RdV) (v5 : StV) (v6 : RdV) (v7 : PaV) (v8 : TxV) (v9 : SlV) (v10 : StV) (v11 : StV) (v12 : MdV) (v13 : OuV) {w9 : LwV} {Q : State → Prop} {c9 s9 : Nat} (hc9 : c9 + 4 ≤ 601024) (hs9 : s9 + 24 ≤ 7293033) (hf : f_law_228 xs L i4 v1 v2 v3 v5 v6 v7 v8 v9 v10 v11 v12 v13 = some w9) {H : Heap} {locs : List Loc} {ls : Array Slot} (hP : gP G [maW a0 (a1 0) (a2 0) (a3 0) (a4 0) (a7 0 0) (a8 0) (a9 0) (a9 1), stW G a1 v1, stW G a2 v2, rdW G a3 v3, scW a4 (a5 0) (a6 0), stW G a5 v5, rdW G a6 v6, paW G a7 v7, txW G a8 v8, slW G a9 (a10 0) (a11 0) v9, stW G a10 v10, stW G a11 v11, mdW G a12 v12, ouW G a13 v13] H) (hD : gD A [maW a0 (a1 0) (a2 0) (a3 0) (a4 0) (a7 0 0) (a8 0) (a9 0) (a9 1), stW G a1 v1, stW G a2 v2, rdW G a3 v3, scW a4 (a5 0) (a6 0), stW G a5 v5, rdW G a6 v6, paW G a7 v7, txW G a8 v8, slW G a9 (a10 0) (a11 0) v9, stW G a10 v10, stW G a11 v11, mdW G a12 v12, ouW G a13 v13]) (hS : va_S A s.heap H locs) (hl : lv_has ls 7 [(0, .ref b), (1, .ref (a0 0)), (2, .ref (a12 0)), (3, .ref (a13 0)), (4, .int i4)]) (K : ∀ (H : Heap) (locs : List Loc) (ls : Array Slot), gP G [maW a0 (a1 0) (a2 0) (a3 0) (a4 0) (a7 0 0) (a8 0) (a9 0) (a9 1), stW G a1 w9.1, stW G a2 w9.2.1, rdW G a3 w9.2.2.1, scW a4 (a5 0) (a6 0), stW G a5 w9.2.2.2.1, rdW G a6 w9.2.2.2.2.1, paW G a7 w9.2.2.2.2.2.1, txW G a8 w9.2.2.2.2.2.2.1, slW G a9 (a10 0) (a11 0) w9.2.2.2.2.2.2.2.1, stW G a10 w9.2.2.2.2.2.2.2.2.1, stW G a11 w9.2.2.2.2.2.2.2.2.2.1, mdW G a12 w9.2.2.2.2.2.2.2.2.2.2.1, ouW G a13 w9.2.2.2.2.2.2.2.2.2.2.2] H → gD A [maW a0 (a1 0) (a2 0) (a3 0) (a4 0) (a7 0 0) (a8 0) (a9 0) (a9 1), stW G a1 w9.1, stW G a2 w9.2.1, rdW G a3 w9.2.2.1, scW a4 (a5 0) (a6 0), stW G a5 w9.2.2.2.1, rdW G a6 w9.2.2.2.2.1, paW G a7 w9.2.2.2.2.2.1, txW G a8 w9.2.2.2.2.2.2.1, slW G a9 (a10 0) (a11 0) w9.2.2.2.2.2.2.2.1, stW G a10 w9.2.2.2.2.2.2.2.2.1, stW G a11 w9.2.2.2.2.2.2.2.2.2.1, mdW G a12 w9.2.2.2.2.2.2.2.2.2.2.1, ouW G a13 w9.2.2.2.2.2.2.2.2.2.2.2] → va_S A s.heap H locs → lv_has ls 7 [(0, .ref b), (1, .ref (a0 0)), (2, .ref (a12 0)), (3, .ref (a13 0)), (4, .int i4)] → W p l e room_1 s m #[Value.ref b] below meth c H locs (c9 + 4) (s9 + 24) Q (F0 m 1796 ls [])) : W p l e room_1 s m #[Value.ref b] below meth c H locs (c9) (s9) Q (F0 m 228 ls []) := by
  obtain ⟨hx, hb, hml, hown, hts, hr, hlocks⟩ := id S
  unfold f_law_228 at hf
  refine lv_aload_n hx hb dL_law_228 rfl (lv_at hl 1 rfl) ?_
  obtain ⟨q11, hq11, hf⟩ := bd_some hf
  refine g_callVi S (As := []) (gs' := [maW a0 (a1 0) (a2 0) (a3 0) (a4 0) (a7 0 0) (a8 0) (a9 0) (a9 1), stW G a1 v1, stW G a2 v2, rdW G a3 v3, scW a4 (a5 0) (a6 0), stW G a5 v5, rdW G a6 v6, paW G a7 v7, txW G a8 q11.2, slW G a9 (a10 0) (a11 0) v9, stW G a10 v10, stW G a11 v11, mdW G a12 v12, ouW G a13 v13]) (c_X5_clearText l G a0 a1 a2 a3 a4 a5 a6 a7 a8 a9 a10 a11 v8 hq11) (cwV 0 hts gL_law_X5_clearText rfl rfl rfl hd_X5_clearText ⟨Nat.le_of_ble_eq_true rfl, Nat.le_of_ble_eq_true rfl⟩) hK hP hD hS hA (is := [0, 8]) rfl rfl 0 rfl rfl rfl rfl hl.1 rfl (Nat.le_of_ble_eq_true rfl) dL_law_229 ⟨by show c9 + 0 ≤ 601024; omega, by show s9 + 0 ≤ 7293033; omega⟩ rfl (fun H locs hP hD hS => ?_)
  refine lv_aload_n hx hb dL_law_232 rfl (lv_at hl 2 rfl) ?_
  obtain ⟨q12, hq12, hf⟩ := bd_some hf
  refine g_callVi S (As := []) (gs' := [maW a0 (a1 0) (a2 0) (a3 0) (a4 0) (a7 0 0) (a8 0) (a9 0) (a9 1), stW G a1 v1, stW G a2 v2, rdW G a3 v3, scW a4 (a5 0) (a6 0), stW G a5 v5, rdW G a6 v6, paW G a7 v7, txW G a8 q11.2, slW G a9 (a10 0) (a11 0) v9, stW G a10 v10, stW G a11 v11, mdW G a12 q12.2, ouW G a13 v13]) (c_X6_clearText l G a12 v12 hq12) (cwV 0 hts gL_law_X6_clearText rfl rfl rfl hd_X6_clearText ⟨Nat.le_of_ble_eq_true rfl, Nat.le_of_ble_eq_true rfl⟩) hK hP hD hS hA (is := [12]) rfl rfl 12 rfl rfl rfl rfl hl.1 rfl (Nat.le_of_ble_eq_true rfl) dL_law_233 ⟨by show c9 + 0 ≤ 601024; omega, by show s9 + 0 ≤ 7293033; omega⟩ rfl (fun H locs hP hD hS => ?_)
  refine lv_icmp_eq (tgt := 1796) hx hb dL_law_236 (by decide) (fun c13 => ?_) (fun c13 => ?_)
  · rw [if_pos c13] at hf
    cases hf
    refine W.widen (k := c9 + 4) (n := s9 + 24) (by omega) (by omega) ?_
    exact K H locs ls hP hD hS (lv_sub hl [0, 1, 2, 3, 4] rfl)
  · rw [if_neg c13] at hf
    refine lv_iconst (v := (0:Int32)) hx hb dL_law_239 (by decide) ?_
    cases hf
set_option maxHeartbeats 8000000 in
set_option maxRecDepth 100000 in
theorem w_law_241 {p : Program} {l : Launch} (hl0 : l.stackTraces = false) {e : Env} {s : State} {m : MethodId} {below : List Frame} {meth : Method} {c : Code} {b L : Nat} {xs : Nat → Int32} {A : Nat → Prop} (S : Ev p s m #[Value.ref b] meth c cL_law 7 (some .boolean) RL wsL_law) {G : uG} (hK : kK G s) (hA : ∀ q, s.heap.size ≤ q → A q) (hTH : gTH A s s.heap) (hX : va_X b L xs s s.heap) (hbl : b < s.heap.size) (hbA : ¬ A b) (a0 : Nat → Nat) (a1 : Nat → Nat) (a2 : Nat → Nat) (a3 : Nat → Nat) (a4 : Nat → Nat) (a5 : Nat → Nat) (a6 : Nat → Nat) (a7 : Nat → Nat → Nat) (a8 : Nat → Nat) (a9 : Nat → Nat) (a10 : Nat → Nat) (a11 : Nat → Nat) (a12 : Nat → Nat) (a13 : Nat → Nat) (i4 : Int32) (v1 : StV) (v2 : StV) (v3 : RdV) (v5 : StV) (v6 : RdV) (v7 : PaV) (v8 : TxV) (v9 : SlV) (v10 : StV) (v11 : StV) (v12 : MdV) (v13 : OuV) {w9 : LwV} {Q : State → Prop} {c9 s9 : Nat} (hc9 : c9 + 4 ≤ 601024) (hs9 : s9 + 24 ≤ 7293033) (hf : f_law_241 xs L i4 v1 v2 v3 v5 v6 v7 v8 v9 v10 v11 v12 v13 = some w9) {H : Heap} {locs : List Loc} {ls : Array Slot} (hP : gP G [maW a0 (a1 0) (a2 0) (a3 0) (a4 0) (a7 0 0) (a8 0) (a9 0) (a9 1), stW G a1 v1, stW G a2 v2, rdW G a3 v3, scW a4 (a5 0) (a6 0), stW G a5 v5, rdW G a6 v6, paW G a7 v7, txW G a8 v8, slW G a9 (a10 0) (a11 0) v9, stW G a10 v10, stW G a11 v11, mdW G a12 v12, ouW G a13 v13] H) (hD : gD A [maW a0 (a1 0) (a2 0) (a3 0) (a4 0) (a7 0 0) (a8 0) (a9 0) (a9 1), stW G a1 v1, stW G a2 v2, rdW G a3 v3, scW a4 (a5 0) (a6 0), stW G a5 v5, rdW G a6 v6, paW G a7 v7, txW G a8 v8, slW G a9 (a10 0) (a11 0) v9, stW G a10 v10, stW G a11 v11, mdW G a12 v12, ouW G a13 v13]) (hS : va_S A s.heap H locs) (hl : lv_has ls 7 [(0, .ref b), (1, .ref (a0 0)), (2, .ref (a12 0)), (3, .ref (a13 0)), (4, .int i4)]) (K : ∀ (H : Heap) (locs : List Loc) (ls : Array Slot), gP G [maW a0 (a1 0) (a2 0) (a3 0) (a4 0) (a7 0 0) (a8 0) (a9 0) (a9 1), stW G a1 w9.1, stW G a2 w9.2.1, rdW G a3 w9.2.2.1, scW a4 (a5 0) (a6 0), stW G a5 w9.2.2.2.1, rdW G a6 w9.2.2.2.2.1, paW G a7 w9.2.2.2.2.2.1, txW G a8 w9.2.2.2.2.2.2.1, slW G a9 (a10 0) (a11 0) w9.2.2.2.2.2.2.2.1, stW G a10 w9.2.2.2.2.2.2.2.2.1, stW G a11 w9.2.2.2.2.2.2.2.2.2.1, mdW G a12 w9.2.2.2.2.2.2.2.2.2.2.1, ouW G a13 w9.2.2.2.2.2.2.2.2.2.2.2] H → gD A [maW a0 (a1 0) (a2 0) (a3 0) (a4 0) (a7 0 0) (a8 0) (a9 0) (a9 1), stW G a1 w9.1, stW G a2 w9.2.1, rdW G a3 w9.2.2.1, scW a4 (a5 0) (a6 0), stW G a5 w9.2.2.2.1, rdW G a6 w9.2.2.2.2.1, paW G a7 w9.2.2.2.2.2.1, txW G a8 w9.2.2.2.2.2.2.1, slW G a9 (a10 0) (a11 0) w9.2.2.2.2.2.2.2.1, stW G a10 w9.2.2.2.2.2.2.2.2.1, stW G a11 w9.2.2.2.2.2.2.2.2.2.1, mdW G a12 w9.2.2.2.2.2.2.2.2.2.2.1, ouW G a13 w9.2.2.2.2.2.2.2.2.2.2.2] → va_S A s.heap H locs → lv_has ls 7 [(0, .ref b), (1, .ref (a0 0)), (2, .ref (a12 0)), (3, .ref (a13 0)), (4, .int i4)] → W p l e room_1 s m #[Value.ref b] below meth c H locs (c9 + 4) (s9 + 24) Q (F0 m 1796 ls [])) : W p l e room_1 s m #[Value.ref b] below meth c H locs (c9) (s9) Q (F0 m 241 ls []) := by
  obtain ⟨hx, hb, hml, hown, hts, hr, hlocks⟩ := id S
  unfold f_law_241 at hf
  refine lv_aload_n hx hb dL_law_241 rfl (lv_at hl 1 rfl) ?_
  obtain ⟨q14, hq14, hf⟩ := bd_some hf
  refine g_callVi S (As := []) (gs' := [maW a0 (a1 0) (a2 0) (a3 0) (a4 0) (a7 0 0) (a8 0) (a9 0) (a9 1), stW G a1 v1, stW G a2 q14.2.1, rdW G a3 v3, scW a4 (a5 0) (a6 0), stW G a5 v5, rdW G a6 v6, paW G a7 v7, txW G a8 q14.2.2, slW G a9 (a10 0) (a11 0) v9, stW G a10 v10, stW G a11 v11, mdW G a12 v12, ouW G a13 v13]) (c_X5_errorPosition l G a0 a1 a2 a3 a4 a5 a6 a7 a8 a9 a10 a11 v2 v8 hq14) (cwV 0 hts gL_law_X5_errorPosition rfl rfl rfl hd_X5_errorPosition ⟨Nat.le_of_ble_eq_true rfl, Nat.le_of_ble_eq_true rfl⟩) hK hP hD hS hA (is := [0, 2, 8]) rfl rfl 0 rfl rfl rfl rfl hl.1 rfl (Nat.le_of_ble_eq_true rfl) dL_law_242 ⟨by show c9 + 0 ≤ 601024; omega, by show s9 + 0 ≤ 7293033; omega⟩ rfl (fun H locs hP hD hS => ?_)
  refine lv_aload_n hx hb dL_law_245 rfl (lv_at hl 2 rfl) ?_
  obtain ⟨q15, hq15, hf⟩ := bd_some hf
  refine g_callVi S (As := []) (gs' := [maW a0 (a1 0) (a2 0) (a3 0) (a4 0) (a7 0 0) (a8 0) (a9 0) (a9 1), stW G a1 v1, stW G a2 q14.2.1, rdW G a3 v3, scW a4 (a5 0) (a6 0), stW G a5 v5, rdW G a6 v6, paW G a7 v7, txW G a8 q14.2.2, slW G a9 (a10 0) (a11 0) v9, stW G a10 v10, stW G a11 v11, mdW G a12 q15.2, ouW G a13 v13]) (c_X6_errorPosition l G a12 v12 hq15) (cwV 0 hts gL_law_X6_errorPosition rfl rfl rfl hd_X6_errorPosition ⟨Nat.le_of_ble_eq_true rfl, Nat.le_of_ble_eq_true rfl⟩) hK hP hD hS hA (is := [12]) rfl rfl 12 rfl rfl rfl rfl hl.1 rfl (Nat.le_of_ble_eq_true rfl) dL_law_246 ⟨by show c9 + 0 ≤ 601024; omega, by show s9 + 0 ≤ 7293033; omega⟩ rfl (fun H locs hP hD hS => ?_)
  refine lv_icmp_eq (tgt := 1796) hx hb dL_law_249 (by decide) (fun c16 => ?_) (fun c16 => ?_)
  · rw [if_pos c16] at hf
    cases hf
    refine W.widen (k := c9 + 4) (n := s9 + 24) (by omega) (by omega) ?_
    exact K H locs ls hP hD hS (lv_sub hl [0, 1, 2, 3, 4] rfl)
  · rw [if_neg c16] at hf
    refine lv_iconst (v := (0:Int32)) hx hb dL_law_252 (by decide) ?_
    cases hf
set_option maxHeartbeats 8000000 in
set_option maxRecDepth 100000 in
theorem w_law_254 {p : Program} {l : Launch} (hl0 : l.stackTraces = false) {e : Env} {s : State} {m : MethodId} {below : List Frame} {meth : Method} {c : Code} {b L : Nat} {xs : Nat → Int32} {A : Nat → Prop} (S : Ev p s m #[Value.ref b] meth c cL_law 7 (some .boolean) RL wsL_law) {G : uG} (hK : kK G s) (hA : ∀ q, s.heap.size ≤ q → A q) (hTH : gTH A s s.heap) (hX : va_X b L xs s s.heap) (hbl : b < s.heap.size) (hbA : ¬ A b) (a0 : Nat → Nat) (a1 : Nat → Nat) (a2 : Nat → Nat) (a3 : Nat → Nat) (a4 : Nat → Nat) (a5 : Nat → Nat) (a6 : Nat → Nat) (a7 : Nat → Nat → Nat) (a8 : Nat → Nat) (a9 : Nat → Nat) (a10 : Nat → Nat) (a11 : Nat → Nat) (a12 : Nat → Nat) (a13 : Nat → Nat) (i4 : Int32) (v1 : StV) (v2 : StV) (v3 : RdV) (v5 : StV) (v6 : RdV) (v7 : PaV) (v8 : TxV) (v9 : SlV) (v10 : StV) (v11 : StV) (v12 : MdV) (v13 : OuV) {w9 : LwV} {Q : State → Prop} {c9 s9 : Nat} (hc9 : c9 + 4 ≤ 601024) (hs9 : s9 + 24 ≤ 7293033) (hf : f_law_254 xs L i4 v1 v2 v3 v5 v6 v7 v8 v9 v10 v11 v12 v13 = some w9) {H : Heap} {locs : List Loc} {ls : Array Slot} (hP : gP G [maW a0 (a1 0) (a2 0) (a3 0) (a4 0) (a7 0 0) (a8 0) (a9 0) (a9 1), stW G a1 v1, stW G a2 v2, rdW G a3 v3, scW a4 (a5 0) (a6 0), stW G a5 v5, rdW G a6 v6, paW G a7 v7, txW G a8 v8, slW G a9 (a10 0) (a11 0) v9, stW G a10 v10, stW G a11 v11, mdW G a12 v12, ouW G a13 v13] H) (hD : gD A [maW a0 (a1 0) (a2 0) (a3 0) (a4 0) (a7 0 0) (a8 0) (a9 0) (a9 1), stW G a1 v1, stW G a2 v2, rdW G a3 v3, scW a4 (a5 0) (a6 0), stW G a5 v5, rdW G a6 v6, paW G a7 v7, txW G a8 v8, slW G a9 (a10 0) (a11 0) v9, stW G a10 v10, stW G a11 v11, mdW G a12 v12, ouW G a13 v13]) (hS : va_S A s.heap H locs) (hl : lv_has ls 7 [(0, .ref b), (1, .ref (a0 0)), (2, .ref (a12 0)), (3, .ref (a13 0)), (4, .int i4)]) (K : ∀ (H : Heap) (locs : List Loc) (ls : Array Slot), gP G [maW a0 (a1 0) (a2 0) (a3 0) (a4 0) (a7 0 0) (a8 0) (a9 0) (a9 1), stW G a1 w9.1, stW G a2 w9.2.1, rdW G a3 w9.2.2.1, scW a4 (a5 0) (a6 0), stW G a5 w9.2.2.2.1, rdW G a6 w9.2.2.2.2.1, paW G a7 w9.2.2.2.2.2.1, txW G a8 w9.2.2.2.2.2.2.1, slW G a9 (a10 0) (a11 0) w9.2.2.2.2.2.2.2.1, stW G a10 w9.2.2.2.2.2.2.2.2.1, stW G a11 w9.2.2.2.2.2.2.2.2.2.1, mdW G a12 w9.2.2.2.2.2.2.2.2.2.2.1, ouW G a13 w9.2.2.2.2.2.2.2.2.2.2.2] H → gD A [maW a0 (a1 0) (a2 0) (a3 0) (a4 0) (a7 0 0) (a8 0) (a9 0) (a9 1), stW G a1 w9.1, stW G a2 w9.2.1, rdW G a3 w9.2.2.1, scW a4 (a5 0) (a6 0), stW G a5 w9.2.2.2.1, rdW G a6 w9.2.2.2.2.1, paW G a7 w9.2.2.2.2.2.1, txW G a8 w9.2.2.2.2.2.2.1, slW G a9 (a10 0) (a11 0) w9.2.2.2.2.2.2.2.1, stW G a10 w9.2.2.2.2.2.2.2.2.1, stW G a11 w9.2.2.2.2.2.2.2.2.2.1, mdW G a12 w9.2.2.2.2.2.2.2.2.2.2.1, ouW G a13 w9.2.2.2.2.2.2.2.2.2.2.2] → va_S A s.heap H locs → lv_has ls 7 [(0, .ref b), (1, .ref (a0 0)), (2, .ref (a12 0)), (3, .ref (a13 0)), (4, .int i4)] → W p l e room_1 s m #[Value.ref b] below meth c H locs (c9 + 4) (s9 + 24) Q (F0 m 1796 ls [])) : W p l e room_1 s m #[Value.ref b] below meth c H locs (c9) (s9) Q (F0 m 254 ls []) := by
  obtain ⟨hx, hb, hml, hown, hts, hr, hlocks⟩ := id S
  unfold f_law_254 at hf
  refine lv_aload_n hx hb dL_law_254 rfl (lv_at hl 1 rfl) ?_
  refine lv_aload_n hx hb dL_law_255 rfl (lv_at hl 3 rfl) ?_
  obtain ⟨q17, hq17, hf⟩ := bd_some hf
  refine g_callHi S (As := [.ref (a0 0), .ref (a13 0)]) (gs' := [maW a0 (a1 0) (a2 0) (a3 0) (a4 0) (a7 0 0) (a8 0) (a9 0) (a9 1), stW G a1 q17.2.1, stW G a2 q17.2.2.1, rdW G a3 v3, scW a4 (a5 0) (a6 0), stW G a5 v5, rdW G a6 v6, paW G a7 q17.2.2.2.1, txW G a8 q17.2.2.2.2.1, slW G a9 (a10 0) (a11 0) q17.2.2.2.2.2.1, stW G a10 v10, stW G a11 v11, mdW G a12 v12, ouW G a13 q17.2.2.2.2.2.2]) (c_L_load l hl0 G a0 a1 a2 a3 a4 a5 a6 a7 a8 a9 a10 a11 a13 v1 v2 v7 v8 v9 v13 hq17) (vx_cwSW 2 hts gL_law_L_load rfl rfl rfl hd_L_load.2 ⟨(Nat.le_of_ble_eq_true rfl), (Nat.le_of_ble_eq_true rfl)⟩) hTH hK hP hD hS hA (is := [0, 1, 2, 7, 8, 9, 13]) rfl rfl rfl hl.1 rfl (Nat.le_of_ble_eq_true rfl) dL_law_256 ⟨by show c9 + 1 ≤ 601024; omega, by show s9 + 6 ≤ 7293033; omega⟩ rfl (fun H locs hP hD hS => ?_)
  refine lv_istore (lv' := [(5, .int q17.1), (0, .ref b), (1, .ref (a0 0)), (2, .ref (a12 0)), (3, .ref (a13 0)), (4, .int i4)]) hx hb dL_law_259 hl (by decide) rfl (fun ls hl => ?_)
  refine lv_aload_n hx hb dL_law_261 rfl (lv_at hl 3 rfl) ?_
  obtain ⟨q18, hq18, hf⟩ := bd_some hf
  refine g_callVi S (As := []) (gs' := [maW a0 (a1 0) (a2 0) (a3 0) (a4 0) (a7 0 0) (a8 0) (a9 0) (a9 1), stW G a1 q17.2.1, stW G a2 q17.2.2.1, rdW G a3 v3, scW a4 (a5 0) (a6 0), stW G a5 v5, rdW G a6 v6, paW G a7 q17.2.2.2.1, txW G a8 q17.2.2.2.2.1, slW G a9 (a10 0) (a11 0) q17.2.2.2.2.2.1, stW G a10 v10, stW G a11 v11, mdW G a12 q18.2, ouW G a13 q17.2.2.2.2.2.2]) (c_X6_load l G a12 v12 hq18) (cwV 0 hts gL_law_X6_load rfl rfl rfl hd_X6_load ⟨Nat.le_of_ble_eq_true rfl, Nat.le_of_ble_eq_true rfl⟩) hK hP hD hS hA (is := [12]) rfl rfl 12 rfl rfl rfl rfl hl.1 rfl (Nat.le_of_ble_eq_true rfl) dL_law_262 ⟨by show c9 + 1 + 0 ≤ 601024; omega, by show s9 + 6 + 0 ≤ 7293033; omega⟩ rfl (fun H locs hP hD hS => ?_)
  refine lv_istore (lv' := [(6, .int q18.1), (5, .int q17.1), (0, .ref b), (1, .ref (a0 0)), (2, .ref (a12 0)), (3, .ref (a13 0)), (4, .int i4)]) hx hb dL_law_265 hl (by decide) rfl (fun ls hl => ?_)
  refine lv_aload_n hx hb dL_law_267 rfl (lv_at hl 4 rfl) ?_
  obtain ⟨q19, hq19, hf⟩ := bd_some hf
  refine g_callVi S (As := []) (gs' := [maW a0 (a1 0) (a2 0) (a3 0) (a4 0) (a7 0 0) (a8 0) (a9 0) (a9 1), stW G a1 q17.2.1, stW G a2 q17.2.2.1, rdW G a3 v3, scW a4 (a5 0) (a6 0), stW G a5 v5, rdW G a6 v6, paW G a7 q17.2.2.2.1, txW G a8 q17.2.2.2.2.1, slW G a9 (a10 0) (a11 0) q17.2.2.2.2.2.1, stW G a10 v10, stW G a11 v11, mdW G a12 q18.2, ouW G a13 q17.2.2.2.2.2.2]) (c_X6_thrown l G a12 q18.2 hq19) (cwV 0 hts gL_law_X6_thrown rfl rfl rfl hd_X6_thrown ⟨Nat.le_of_ble_eq_true rfl, Nat.le_of_ble_eq_true rfl⟩) hK hP hD hS hA (is := [12]) rfl rfl 12 rfl rfl rfl rfl hl.1 rfl (Nat.le_of_ble_eq_true rfl) dL_law_268 ⟨by show c9 + 1 + 0 ≤ 601024; omega, by show s9 + 6 + 0 ≤ 7293033; omega⟩ rfl (fun H locs hP hD hS => ?_)
  refine lv_iload hx hb dL_law_271 (lv_at hl 1 rfl) ?_
  refine lv_icmp_eq (tgt := 278) hx hb dL_law_273 (by decide) (fun c20 => ?_) (fun c20 => ?_)
  · rw [if_pos c20] at hf
    refine lv_iload hx hb dL_law_278 (lv_at hl 1 rfl) ?_
    refine lv_if_ne (tgt := 295) hx hb dL_law_280 (by decide) (fun c21 => ?_) (fun c21 => ?_)
    · rw [if_neg c21] at hf
      refine lv_goto (tgt := 1796) hx hb dL_law_295 (by decide) ?_
      cases hf
      refine W.widen (k := c9 + 4) (n := s9 + 24) (by omega) (by omega) ?_
      exact K H locs ls hP hD hS (lv_sub hl [2, 3, 4, 5, 6] rfl)
    · rw [if_pos c21] at hf
      refine lv_aload_n hx hb dL_law_283 rfl (lv_at hl 5 rfl) ?_
      refine lv_iconst (v := (0:Int32)) hx hb dL_law_284 (by decide) ?_
      obtain ⟨h22, hf⟩ := gi_some hf
      refine g_lald hx hb hK hP 13 0 3 rfl rfl rfl h22 dL_law_285 ?_
      obtain ⟨x23, ex23, hf⟩ := lt_some hf
      refine lv_nml ex23 ?_
      refine lv_iload hx hb dL_law_286 (lv_at hl 0 rfl) ?_
      refine lv_i2l (v := q18.1.toInt64) hx hb dL_law_288 rfl ?_
      refine W.lcmp hx hb dL_law_289 ?_
      refine lv_if_eq (tgt := 295) hx hb dL_law_290 (by decide) (fun c24 => ?_) (fun c24 => ?_)
      · rw [if_pos c24] at hf
        refine lv_goto (tgt := 1796) hx hb dL_law_295 (by decide) ?_
        cases hf
        refine W.widen (k := c9 + 4) (n := s9 + 24) (by omega) (by omega) ?_
        exact K H locs ls hP hD hS (lv_sub hl [2, 3, 4, 5, 6] rfl)
      · rw [if_neg c24] at hf
        refine lv_iconst (v := (0:Int32)) hx hb dL_law_293 (by decide) ?_
        cases hf
  · rw [if_neg c20] at hf
    refine lv_iconst (v := (0:Int32)) hx hb dL_law_276 (by decide) ?_
    cases hf
set_option maxHeartbeats 8000000 in
set_option maxRecDepth 100000 in
theorem w_law_298 {p : Program} {l : Launch} (hl0 : l.stackTraces = false) {e : Env} {s : State} {m : MethodId} {below : List Frame} {meth : Method} {c : Code} {b L : Nat} {xs : Nat → Int32} {A : Nat → Prop} (S : Ev p s m #[Value.ref b] meth c cL_law 7 (some .boolean) RL wsL_law) {G : uG} (hK : kK G s) (hA : ∀ q, s.heap.size ≤ q → A q) (hTH : gTH A s s.heap) (hX : va_X b L xs s s.heap) (hbl : b < s.heap.size) (hbA : ¬ A b) (a0 : Nat → Nat) (a1 : Nat → Nat) (a2 : Nat → Nat) (a3 : Nat → Nat) (a4 : Nat → Nat) (a5 : Nat → Nat) (a6 : Nat → Nat) (a7 : Nat → Nat → Nat) (a8 : Nat → Nat) (a9 : Nat → Nat) (a10 : Nat → Nat) (a11 : Nat → Nat) (a12 : Nat → Nat) (a13 : Nat → Nat) (i4 : Int32) (v1 : StV) (v2 : StV) (v3 : RdV) (v5 : StV) (v6 : RdV) (v7 : PaV) (v8 : TxV) (v9 : SlV) (v10 : StV) (v11 : StV) (v12 : MdV) (v13 : OuV) {w9 : LwV} {Q : State → Prop} {c9 s9 : Nat} (hc9 : c9 + 4 ≤ 601024) (hs9 : s9 + 24 ≤ 7293033) (hf : f_law_298 xs L i4 v1 v2 v3 v5 v6 v7 v8 v9 v10 v11 v12 v13 = some w9) {H : Heap} {locs : List Loc} {ls : Array Slot} (hP : gP G [maW a0 (a1 0) (a2 0) (a3 0) (a4 0) (a7 0 0) (a8 0) (a9 0) (a9 1), stW G a1 v1, stW G a2 v2, rdW G a3 v3, scW a4 (a5 0) (a6 0), stW G a5 v5, rdW G a6 v6, paW G a7 v7, txW G a8 v8, slW G a9 (a10 0) (a11 0) v9, stW G a10 v10, stW G a11 v11, mdW G a12 v12, ouW G a13 v13] H) (hD : gD A [maW a0 (a1 0) (a2 0) (a3 0) (a4 0) (a7 0 0) (a8 0) (a9 0) (a9 1), stW G a1 v1, stW G a2 v2, rdW G a3 v3, scW a4 (a5 0) (a6 0), stW G a5 v5, rdW G a6 v6, paW G a7 v7, txW G a8 v8, slW G a9 (a10 0) (a11 0) v9, stW G a10 v10, stW G a11 v11, mdW G a12 v12, ouW G a13 v13]) (hS : va_S A s.heap H locs) (hl : lv_has ls 7 [(0, .ref b), (1, .ref (a0 0)), (2, .ref (a12 0)), (3, .ref (a13 0)), (4, .int i4)]) (K : ∀ (H : Heap) (locs : List Loc) (ls : Array Slot), gP G [maW a0 (a1 0) (a2 0) (a3 0) (a4 0) (a7 0 0) (a8 0) (a9 0) (a9 1), stW G a1 w9.1, stW G a2 w9.2.1, rdW G a3 w9.2.2.1, scW a4 (a5 0) (a6 0), stW G a5 w9.2.2.2.1, rdW G a6 w9.2.2.2.2.1, paW G a7 w9.2.2.2.2.2.1, txW G a8 w9.2.2.2.2.2.2.1, slW G a9 (a10 0) (a11 0) w9.2.2.2.2.2.2.2.1, stW G a10 w9.2.2.2.2.2.2.2.2.1, stW G a11 w9.2.2.2.2.2.2.2.2.2.1, mdW G a12 w9.2.2.2.2.2.2.2.2.2.2.1, ouW G a13 w9.2.2.2.2.2.2.2.2.2.2.2] H → gD A [maW a0 (a1 0) (a2 0) (a3 0) (a4 0) (a7 0 0) (a8 0) (a9 0) (a9 1), stW G a1 w9.1, stW G a2 w9.2.1, rdW G a3 w9.2.2.1, scW a4 (a5 0) (a6 0), stW G a5 w9.2.2.2.1, rdW G a6 w9.2.2.2.2.1, paW G a7 w9.2.2.2.2.2.1, txW G a8 w9.2.2.2.2.2.2.1, slW G a9 (a10 0) (a11 0) w9.2.2.2.2.2.2.2.1, stW G a10 w9.2.2.2.2.2.2.2.2.1, stW G a11 w9.2.2.2.2.2.2.2.2.2.1, mdW G a12 w9.2.2.2.2.2.2.2.2.2.2.1, ouW G a13 w9.2.2.2.2.2.2.2.2.2.2.2] → va_S A s.heap H locs → lv_has ls 7 [(0, .ref b), (1, .ref (a0 0)), (2, .ref (a12 0)), (3, .ref (a13 0)), (4, .int i4)] → W p l e room_1 s m #[Value.ref b] below meth c H locs (c9 + 4) (s9 + 24) Q (F0 m 1796 ls [])) : W p l e room_1 s m #[Value.ref b] below meth c H locs (c9) (s9) Q (F0 m 298 ls []) := by
  obtain ⟨hx, hb, hml, hown, hts, hr, hlocks⟩ := id S
  unfold f_law_298 at hf
  refine lv_aload_n hx hb dL_law_298 rfl (lv_at hl 1 rfl) ?_
  refine lv_aload_n hx hb dL_law_299 rfl (lv_at hl 0 rfl) ?_
  refine lv_iload hx hb dL_law_300 (lv_at hl 4 rfl) ?_
  refine lv_iconst (v := (1:Int32)) hx hb dL_law_302 (by decide) ?_
  refine lv_iadd hx hb dL_law_303 ?_
  obtain ⟨h25, hf⟩ := gi_some hf
  refine va_sld hx hb hX hbl hbA hS h25 dL_law_304 ?_
  refine lv_aload_n hx hb dL_law_305 rfl (lv_at hl 3 rfl) ?_
  obtain ⟨q26, hq26, hf⟩ := bd_some hf
  refine g_callHi S (As := [.ref (a0 0), .int (xs (i4 + (1:Int32)).toNatClampNeg), .ref (a13 0)]) (gs' := [maW a0 (a1 0) (a2 0) (a3 0) (a4 0) (a7 0 0) (a8 0) (a9 0) (a9 1), stW G a1 v1, stW G a2 v2, rdW G a3 v3, scW a4 (a5 0) (a6 0), stW G a5 v5, rdW G a6 v6, paW G a7 v7, txW G a8 v8, slW G a9 (a10 0) (a11 0) v9, stW G a10 v10, stW G a11 v11, mdW G a12 v12, ouW G a13 q26.2]) (c_L_about l hl0 G a0 a1 a2 a3 a4 a5 a6 a7 a8 a9 a10 a11 a13 v1 v13 (xs (i4 + (1:Int32)).toNatClampNeg) hq26) (vx_cwSW 3 hts gL_law_L_about rfl rfl rfl hd_L_about.2 ⟨(Nat.le_of_ble_eq_true rfl), (Nat.le_of_ble_eq_true rfl)⟩) hTH hK hP hD hS hA (is := [0, 1, 13]) rfl rfl rfl hl.1 rfl (Nat.le_of_ble_eq_true rfl) dL_law_306 ⟨by show c9 + 1 ≤ 601024; omega, by show s9 + 6 ≤ 7293033; omega⟩ rfl (fun H locs hP hD hS => ?_)
  refine lv_istore (lv' := [(5, .int q26.1), (0, .ref b), (1, .ref (a0 0)), (2, .ref (a12 0)), (3, .ref (a13 0)), (4, .int i4)]) hx hb dL_law_309 hl (by decide) rfl (fun ls hl => ?_)
  refine lv_aload_n hx hb dL_law_311 rfl (lv_at hl 3 rfl) ?_
  refine lv_aload_n hx hb dL_law_312 rfl (lv_at hl 1 rfl) ?_
  refine lv_iload hx hb dL_law_313 (lv_at hl 5 rfl) ?_
  refine lv_iconst (v := (1:Int32)) hx hb dL_law_315 (by decide) ?_
  refine lv_iadd hx hb dL_law_316 ?_
  obtain ⟨h27, hf⟩ := gi_some hf
  refine va_sld hx hb hX hbl hbA hS h27 dL_law_317 ?_
  obtain ⟨q28, hq28, hf⟩ := bd_some hf
  refine g_callVi S (As := [.int (xs (i4 + (1:Int32)).toNatClampNeg)]) (gs' := [maW a0 (a1 0) (a2 0) (a3 0) (a4 0) (a7 0 0) (a8 0) (a9 0) (a9 1), stW G a1 v1, stW G a2 v2, rdW G a3 v3, scW a4 (a5 0) (a6 0), stW G a5 v5, rdW G a6 v6, paW G a7 v7, txW G a8 v8, slW G a9 (a10 0) (a11 0) v9, stW G a10 v10, stW G a11 v11, mdW G a12 q28.2, ouW G a13 q26.2]) (c_X6_about l G a12 v12 (xs (i4 + (1:Int32)).toNatClampNeg) hq28) (cwV 1 hts gL_law_X6_about rfl rfl rfl hd_X6_about ⟨Nat.le_of_ble_eq_true rfl, Nat.le_of_ble_eq_true rfl⟩) hK hP hD hS hA (is := [12]) rfl rfl 12 rfl rfl rfl rfl hl.1 rfl (Nat.le_of_ble_eq_true rfl) dL_law_318 ⟨by show c9 + 1 + 0 ≤ 601024; omega, by show s9 + 6 + 0 ≤ 7293033; omega⟩ rfl (fun H locs hP hD hS => ?_)
  refine lv_istore (lv' := [(6, .int q28.1), (5, .int q26.1), (0, .ref b), (1, .ref (a0 0)), (2, .ref (a12 0)), (3, .ref (a13 0)), (4, .int i4)]) hx hb dL_law_321 hl (by decide) rfl (fun ls hl => ?_)
  refine lv_aload_n hx hb dL_law_323 rfl (lv_at hl 4 rfl) ?_
  obtain ⟨q29, hq29, hf⟩ := bd_some hf
  refine g_callVi S (As := []) (gs' := [maW a0 (a1 0) (a2 0) (a3 0) (a4 0) (a7 0 0) (a8 0) (a9 0) (a9 1), stW G a1 v1, stW G a2 v2, rdW G a3 v3, scW a4 (a5 0) (a6 0), stW G a5 v5, rdW G a6 v6, paW G a7 v7, txW G a8 v8, slW G a9 (a10 0) (a11 0) v9, stW G a10 v10, stW G a11 v11, mdW G a12 q28.2, ouW G a13 q26.2]) (c_X6_thrown l G a12 q28.2 hq29) (cwV 0 hts gL_law_X6_thrown rfl rfl rfl hd_X6_thrown ⟨Nat.le_of_ble_eq_true rfl, Nat.le_of_ble_eq_true rfl⟩) hK hP hD hS hA (is := [12]) rfl rfl 12 rfl rfl rfl rfl hl.1 rfl (Nat.le_of_ble_eq_true rfl) dL_law_324 ⟨by show c9 + 1 + 0 ≤ 601024; omega, by show s9 + 6 + 0 ≤ 7293033; omega⟩ rfl (fun H locs hP hD hS => ?_)
  refine lv_iload hx hb dL_law_327 (lv_at hl 1 rfl) ?_
  refine lv_icmp_eq (tgt := 334) hx hb dL_law_329 (by decide) (fun c30 => ?_) (fun c30 => ?_)
  · rw [if_pos c30] at hf
    refine lv_iload hx hb dL_law_334 (lv_at hl 1 rfl) ?_
    refine lv_if_ne (tgt := 351) hx hb dL_law_336 (by decide) (fun c31 => ?_) (fun c31 => ?_)
    · rw [if_neg c31] at hf
      refine lv_goto (tgt := 1796) hx hb dL_law_351 (by decide) ?_
      cases hf
      refine W.widen (k := c9 + 4) (n := s9 + 24) (by omega) (by omega) ?_
      exact K H locs ls hP hD hS (lv_sub hl [2, 3, 4, 5, 6] rfl)
    · rw [if_pos c31] at hf
      refine lv_aload_n hx hb dL_law_339 rfl (lv_at hl 5 rfl) ?_
      refine lv_iconst (v := (0:Int32)) hx hb dL_law_340 (by decide) ?_
      obtain ⟨h32, hf⟩ := gi_some hf
      refine g_lald hx hb hK hP 13 0 3 rfl rfl rfl h32 dL_law_341 ?_
      refine lv_iload hx hb dL_law_342 (lv_at hl 0 rfl) ?_
      refine lv_i2l (v := q28.1.toInt64) hx hb dL_law_344 rfl ?_
      refine W.lcmp hx hb dL_law_345 ?_
      obtain ⟨x33, ex33, hf⟩ := lt_some hf
      refine lv_nmi ex33 ?_
      refine lv_if_eq (tgt := 351) hx hb dL_law_346 (by decide) (fun c34 => ?_) (fun c34 => ?_)
      · rw [if_pos c34] at hf
        refine lv_goto (tgt := 1796) hx hb dL_law_351 (by decide) ?_
        cases hf
        refine W.widen (k := c9 + 4) (n := s9 + 24) (by omega) (by omega) ?_
        exact K H locs ls hP hD hS (lv_sub hl [2, 3, 4, 5, 6] rfl)
      · rw [if_neg c34] at hf
        refine lv_iconst (v := (0:Int32)) hx hb dL_law_349 (by decide) ?_
        cases hf
  · rw [if_neg c30] at hf
    refine lv_iconst (v := (0:Int32)) hx hb dL_law_332 (by decide) ?_
    cases hf
set_option maxHeartbeats 8000000 in
set_option maxRecDepth 100000 in
theorem w_law_354 {p : Program} {l : Launch} (hl0 : l.stackTraces = false) {e : Env} {s : State} {m : MethodId} {below : List Frame} {meth : Method} {c : Code} {b L : Nat} {xs : Nat → Int32} {A : Nat → Prop} (S : Ev p s m #[Value.ref b] meth c cL_law 7 (some .boolean) RL wsL_law) {G : uG} (hK : kK G s) (hA : ∀ q, s.heap.size ≤ q → A q) (hTH : gTH A s s.heap) (hX : va_X b L xs s s.heap) (hbl : b < s.heap.size) (hbA : ¬ A b) (a0 : Nat → Nat) (a1 : Nat → Nat) (a2 : Nat → Nat) (a3 : Nat → Nat) (a4 : Nat → Nat) (a5 : Nat → Nat) (a6 : Nat → Nat) (a7 : Nat → Nat → Nat) (a8 : Nat → Nat) (a9 : Nat → Nat) (a10 : Nat → Nat) (a11 : Nat → Nat) (a12 : Nat → Nat) (a13 : Nat → Nat) (i4 : Int32) (v1 : StV) (v2 : StV) (v3 : RdV) (v5 : StV) (v6 : RdV) (v7 : PaV) (v8 : TxV) (v9 : SlV) (v10 : StV) (v11 : StV) (v12 : MdV) (v13 : OuV) {w9 : LwV} {Q : State → Prop} {c9 s9 : Nat} (hc9 : c9 + 4 ≤ 601024) (hs9 : s9 + 24 ≤ 7293033) (hf : f_law_354 xs L i4 v1 v2 v3 v5 v6 v7 v8 v9 v10 v11 v12 v13 = some w9) {H : Heap} {locs : List Loc} {ls : Array Slot} (hP : gP G [maW a0 (a1 0) (a2 0) (a3 0) (a4 0) (a7 0 0) (a8 0) (a9 0) (a9 1), stW G a1 v1, stW G a2 v2, rdW G a3 v3, scW a4 (a5 0) (a6 0), stW G a5 v5, rdW G a6 v6, paW G a7 v7, txW G a8 v8, slW G a9 (a10 0) (a11 0) v9, stW G a10 v10, stW G a11 v11, mdW G a12 v12, ouW G a13 v13] H) (hD : gD A [maW a0 (a1 0) (a2 0) (a3 0) (a4 0) (a7 0 0) (a8 0) (a9 0) (a9 1), stW G a1 v1, stW G a2 v2, rdW G a3 v3, scW a4 (a5 0) (a6 0), stW G a5 v5, rdW G a6 v6, paW G a7 v7, txW G a8 v8, slW G a9 (a10 0) (a11 0) v9, stW G a10 v10, stW G a11 v11, mdW G a12 v12, ouW G a13 v13]) (hS : va_S A s.heap H locs) (hl : lv_has ls 7 [(0, .ref b), (1, .ref (a0 0)), (2, .ref (a12 0)), (3, .ref (a13 0)), (4, .int i4)]) (K : ∀ (H : Heap) (locs : List Loc) (ls : Array Slot), gP G [maW a0 (a1 0) (a2 0) (a3 0) (a4 0) (a7 0 0) (a8 0) (a9 0) (a9 1), stW G a1 w9.1, stW G a2 w9.2.1, rdW G a3 w9.2.2.1, scW a4 (a5 0) (a6 0), stW G a5 w9.2.2.2.1, rdW G a6 w9.2.2.2.2.1, paW G a7 w9.2.2.2.2.2.1, txW G a8 w9.2.2.2.2.2.2.1, slW G a9 (a10 0) (a11 0) w9.2.2.2.2.2.2.2.1, stW G a10 w9.2.2.2.2.2.2.2.2.1, stW G a11 w9.2.2.2.2.2.2.2.2.2.1, mdW G a12 w9.2.2.2.2.2.2.2.2.2.2.1, ouW G a13 w9.2.2.2.2.2.2.2.2.2.2.2] H → gD A [maW a0 (a1 0) (a2 0) (a3 0) (a4 0) (a7 0 0) (a8 0) (a9 0) (a9 1), stW G a1 w9.1, stW G a2 w9.2.1, rdW G a3 w9.2.2.1, scW a4 (a5 0) (a6 0), stW G a5 w9.2.2.2.1, rdW G a6 w9.2.2.2.2.1, paW G a7 w9.2.2.2.2.2.1, txW G a8 w9.2.2.2.2.2.2.1, slW G a9 (a10 0) (a11 0) w9.2.2.2.2.2.2.2.1, stW G a10 w9.2.2.2.2.2.2.2.2.1, stW G a11 w9.2.2.2.2.2.2.2.2.2.1, mdW G a12 w9.2.2.2.2.2.2.2.2.2.2.1, ouW G a13 w9.2.2.2.2.2.2.2.2.2.2.2] → va_S A s.heap H locs → lv_has ls 7 [(0, .ref b), (1, .ref (a0 0)), (2, .ref (a12 0)), (3, .ref (a13 0)), (4, .int i4)] → W p l e room_1 s m #[Value.ref b] below meth c H locs (c9 + 4) (s9 + 24) Q (F0 m 1796 ls [])) : W p l e room_1 s m #[Value.ref b] below meth c H locs (c9) (s9) Q (F0 m 354 ls []) := by
  obtain ⟨hx, hb, hml, hown, hts, hr, hlocks⟩ := id S
  unfold f_law_354 at hf
  refine lv_aload_n hx hb dL_law_354 rfl (lv_at hl 1 rfl) ?_
  refine lv_aload_n hx hb dL_law_355 rfl (lv_at hl 0 rfl) ?_
  refine lv_iload hx hb dL_law_356 (lv_at hl 4 rfl) ?_
  refine lv_iconst (v := (1:Int32)) hx hb dL_law_358 (by decide) ?_
  refine lv_iadd hx hb dL_law_359 ?_
  obtain ⟨h35, hf⟩ := gi_some hf
  refine va_sld hx hb hX hbl hbA hS h35 dL_law_360 ?_
  refine lv_aload_n hx hb dL_law_361 rfl (lv_at hl 0 rfl) ?_
  refine lv_iload hx hb dL_law_362 (lv_at hl 4 rfl) ?_
  refine lv_iconst (v := (2:Int32)) hx hb dL_law_364 (by decide) ?_
  refine lv_iadd hx hb dL_law_365 ?_
  obtain ⟨h36, hf⟩ := gi_some hf
  refine va_sld hx hb hX hbl hbA hS h36 dL_law_366 ?_
  refine lv_aload_n hx hb dL_law_367 rfl (lv_at hl 3 rfl) ?_
  obtain ⟨q37, hq37, hf⟩ := bd_some hf
  refine g_callHi S (As := [.ref (a0 0), .int (xs (i4 + (1:Int32)).toNatClampNeg), .int (xs (i4 + (2:Int32)).toNatClampNeg), .ref (a13 0)]) (gs' := [maW a0 (a1 0) (a2 0) (a3 0) (a4 0) (a7 0 0) (a8 0) (a9 0) (a9 1), stW G a1 v1, stW G a2 v2, rdW G a3 v3, scW a4 (a5 0) (a6 0), stW G a5 v5, rdW G a6 v6, paW G a7 v7, txW G a8 v8, slW G a9 (a10 0) (a11 0) v9, stW G a10 v10, stW G a11 v11, mdW G a12 v12, ouW G a13 q37.2]) (c_L_member l hl0 G a0 a1 a2 a3 a4 a5 a6 a7 a8 a9 a10 a11 a13 v1 v13 (xs (i4 + (1:Int32)).toNatClampNeg) (xs (i4 + (2:Int32)).toNatClampNeg) hq37) (vx_cwSW 4 hts gL_law_L_member rfl rfl rfl hd_L_member.2 ⟨(Nat.le_of_ble_eq_true rfl), (Nat.le_of_ble_eq_true rfl)⟩) hTH hK hP hD hS hA (is := [0, 1, 13]) rfl rfl rfl hl.1 rfl (Nat.le_of_ble_eq_true rfl) dL_law_368 ⟨by show c9 + 2 ≤ 601024; omega, by show s9 + 12 ≤ 7293033; omega⟩ rfl (fun H locs hP hD hS => ?_)
  refine lv_istore (lv' := [(5, .int q37.1), (0, .ref b), (1, .ref (a0 0)), (2, .ref (a12 0)), (3, .ref (a13 0)), (4, .int i4)]) hx hb dL_law_371 hl (by decide) rfl (fun ls hl => ?_)
  refine lv_aload_n hx hb dL_law_373 rfl (lv_at hl 3 rfl) ?_
  refine lv_aload_n hx hb dL_law_374 rfl (lv_at hl 1 rfl) ?_
  refine lv_iload hx hb dL_law_375 (lv_at hl 5 rfl) ?_
  refine lv_iconst (v := (1:Int32)) hx hb dL_law_377 (by decide) ?_
  refine lv_iadd hx hb dL_law_378 ?_
  obtain ⟨h38, hf⟩ := gi_some hf
  refine va_sld hx hb hX hbl hbA hS h38 dL_law_379 ?_
  refine lv_aload_n hx hb dL_law_380 rfl (lv_at hl 1 rfl) ?_
  refine lv_iload hx hb dL_law_381 (lv_at hl 5 rfl) ?_
  refine lv_iconst (v := (2:Int32)) hx hb dL_law_383 (by decide) ?_
  refine lv_iadd hx hb dL_law_384 ?_
  obtain ⟨h39, hf⟩ := gi_some hf
  refine va_sld hx hb hX hbl hbA hS h39 dL_law_385 ?_
  obtain ⟨q40, hq40, hf⟩ := bd_some hf
  refine g_callVi S (As := [.int (xs (i4 + (1:Int32)).toNatClampNeg), .int (xs (i4 + (2:Int32)).toNatClampNeg)]) (gs' := [maW a0 (a1 0) (a2 0) (a3 0) (a4 0) (a7 0 0) (a8 0) (a9 0) (a9 1), stW G a1 v1, stW G a2 v2, rdW G a3 v3, scW a4 (a5 0) (a6 0), stW G a5 v5, rdW G a6 v6, paW G a7 v7, txW G a8 v8, slW G a9 (a10 0) (a11 0) v9, stW G a10 v10, stW G a11 v11, mdW G a12 q40.2, ouW G a13 q37.2]) (c_X6_member l G a12 v12 (xs (i4 + (1:Int32)).toNatClampNeg) (xs (i4 + (2:Int32)).toNatClampNeg) hq40) (cwV 2 hts gL_law_X6_member rfl rfl rfl hd_X6_member ⟨Nat.le_of_ble_eq_true rfl, Nat.le_of_ble_eq_true rfl⟩) hK hP hD hS hA (is := [12]) rfl rfl 12 rfl rfl rfl rfl hl.1 rfl (Nat.le_of_ble_eq_true rfl) dL_law_386 ⟨by show c9 + 2 + 0 ≤ 601024; omega, by show s9 + 12 + 0 ≤ 7293033; omega⟩ rfl (fun H locs hP hD hS => ?_)
  refine lv_istore (lv' := [(6, .int q40.1), (5, .int q37.1), (0, .ref b), (1, .ref (a0 0)), (2, .ref (a12 0)), (3, .ref (a13 0)), (4, .int i4)]) hx hb dL_law_389 hl (by decide) rfl (fun ls hl => ?_)
  refine lv_aload_n hx hb dL_law_391 rfl (lv_at hl 4 rfl) ?_
  obtain ⟨q41, hq41, hf⟩ := bd_some hf
  refine g_callVi S (As := []) (gs' := [maW a0 (a1 0) (a2 0) (a3 0) (a4 0) (a7 0 0) (a8 0) (a9 0) (a9 1), stW G a1 v1, stW G a2 v2, rdW G a3 v3, scW a4 (a5 0) (a6 0), stW G a5 v5, rdW G a6 v6, paW G a7 v7, txW G a8 v8, slW G a9 (a10 0) (a11 0) v9, stW G a10 v10, stW G a11 v11, mdW G a12 q40.2, ouW G a13 q37.2]) (c_X6_thrown l G a12 q40.2 hq41) (cwV 0 hts gL_law_X6_thrown rfl rfl rfl hd_X6_thrown ⟨Nat.le_of_ble_eq_true rfl, Nat.le_of_ble_eq_true rfl⟩) hK hP hD hS hA (is := [12]) rfl rfl 12 rfl rfl rfl rfl hl.1 rfl (Nat.le_of_ble_eq_true rfl) dL_law_392 ⟨by show c9 + 2 + 0 ≤ 601024; omega, by show s9 + 12 + 0 ≤ 7293033; omega⟩ rfl (fun H locs hP hD hS => ?_)
  refine lv_iload hx hb dL_law_395 (lv_at hl 1 rfl) ?_
  refine lv_icmp_eq (tgt := 402) hx hb dL_law_397 (by decide) (fun c42 => ?_) (fun c42 => ?_)
  · rw [if_pos c42] at hf
    refine lv_iload hx hb dL_law_402 (lv_at hl 1 rfl) ?_
    refine lv_if_ne (tgt := 419) hx hb dL_law_404 (by decide) (fun c43 => ?_) (fun c43 => ?_)
    · rw [if_neg c43] at hf
      refine lv_goto (tgt := 1796) hx hb dL_law_419 (by decide) ?_
      cases hf
      refine W.widen (k := c9 + 4) (n := s9 + 24) (by omega) (by omega) ?_
      exact K H locs ls hP hD hS (lv_sub hl [2, 3, 4, 5, 6] rfl)
    · rw [if_pos c43] at hf
      refine lv_aload_n hx hb dL_law_407 rfl (lv_at hl 5 rfl) ?_
      refine lv_iconst (v := (0:Int32)) hx hb dL_law_408 (by decide) ?_
      obtain ⟨h44, hf⟩ := gi_some hf
      refine g_lald hx hb hK hP 13 0 3 rfl rfl rfl h44 dL_law_409 ?_
      refine lv_iload hx hb dL_law_410 (lv_at hl 0 rfl) ?_
      refine lv_i2l (v := q40.1.toInt64) hx hb dL_law_412 rfl ?_
      refine W.lcmp hx hb dL_law_413 ?_
      obtain ⟨x45, ex45, hf⟩ := lt_some hf
      refine lv_nmi ex45 ?_
      refine lv_if_eq (tgt := 419) hx hb dL_law_414 (by decide) (fun c46 => ?_) (fun c46 => ?_)
      · rw [if_pos c46] at hf
        refine lv_goto (tgt := 1796) hx hb dL_law_419 (by decide) ?_
        cases hf
        refine W.widen (k := c9 + 4) (n := s9 + 24) (by omega) (by omega) ?_
        exact K H locs ls hP hD hS (lv_sub hl [2, 3, 4, 5, 6] rfl)
      · rw [if_neg c46] at hf
        refine lv_iconst (v := (0:Int32)) hx hb dL_law_417 (by decide) ?_
        cases hf
  · rw [if_neg c42] at hf
    refine lv_iconst (v := (0:Int32)) hx hb dL_law_400 (by decide) ?_
    cases hf
set_option maxHeartbeats 8000000 in
set_option maxRecDepth 100000 in
theorem w_law_422 {p : Program} {l : Launch} (hl0 : l.stackTraces = false) {e : Env} {s : State} {m : MethodId} {below : List Frame} {meth : Method} {c : Code} {b L : Nat} {xs : Nat → Int32} {A : Nat → Prop} (S : Ev p s m #[Value.ref b] meth c cL_law 7 (some .boolean) RL wsL_law) {G : uG} (hK : kK G s) (hA : ∀ q, s.heap.size ≤ q → A q) (hTH : gTH A s s.heap) (hX : va_X b L xs s s.heap) (hbl : b < s.heap.size) (hbA : ¬ A b) (a0 : Nat → Nat) (a1 : Nat → Nat) (a2 : Nat → Nat) (a3 : Nat → Nat) (a4 : Nat → Nat) (a5 : Nat → Nat) (a6 : Nat → Nat) (a7 : Nat → Nat → Nat) (a8 : Nat → Nat) (a9 : Nat → Nat) (a10 : Nat → Nat) (a11 : Nat → Nat) (a12 : Nat → Nat) (a13 : Nat → Nat) (i4 : Int32) (v1 : StV) (v2 : StV) (v3 : RdV) (v5 : StV) (v6 : RdV) (v7 : PaV) (v8 : TxV) (v9 : SlV) (v10 : StV) (v11 : StV) (v12 : MdV) (v13 : OuV) {w9 : LwV} {Q : State → Prop} {c9 s9 : Nat} (hc9 : c9 + 4 ≤ 601024) (hs9 : s9 + 24 ≤ 7293033) (hf : f_law_422 xs L i4 v1 v2 v3 v5 v6 v7 v8 v9 v10 v11 v12 v13 = some w9) {H : Heap} {locs : List Loc} {ls : Array Slot} (hP : gP G [maW a0 (a1 0) (a2 0) (a3 0) (a4 0) (a7 0 0) (a8 0) (a9 0) (a9 1), stW G a1 v1, stW G a2 v2, rdW G a3 v3, scW a4 (a5 0) (a6 0), stW G a5 v5, rdW G a6 v6, paW G a7 v7, txW G a8 v8, slW G a9 (a10 0) (a11 0) v9, stW G a10 v10, stW G a11 v11, mdW G a12 v12, ouW G a13 v13] H) (hD : gD A [maW a0 (a1 0) (a2 0) (a3 0) (a4 0) (a7 0 0) (a8 0) (a9 0) (a9 1), stW G a1 v1, stW G a2 v2, rdW G a3 v3, scW a4 (a5 0) (a6 0), stW G a5 v5, rdW G a6 v6, paW G a7 v7, txW G a8 v8, slW G a9 (a10 0) (a11 0) v9, stW G a10 v10, stW G a11 v11, mdW G a12 v12, ouW G a13 v13]) (hS : va_S A s.heap H locs) (hl : lv_has ls 7 [(0, .ref b), (1, .ref (a0 0)), (2, .ref (a12 0)), (3, .ref (a13 0)), (4, .int i4)]) (K : ∀ (H : Heap) (locs : List Loc) (ls : Array Slot), gP G [maW a0 (a1 0) (a2 0) (a3 0) (a4 0) (a7 0 0) (a8 0) (a9 0) (a9 1), stW G a1 w9.1, stW G a2 w9.2.1, rdW G a3 w9.2.2.1, scW a4 (a5 0) (a6 0), stW G a5 w9.2.2.2.1, rdW G a6 w9.2.2.2.2.1, paW G a7 w9.2.2.2.2.2.1, txW G a8 w9.2.2.2.2.2.2.1, slW G a9 (a10 0) (a11 0) w9.2.2.2.2.2.2.2.1, stW G a10 w9.2.2.2.2.2.2.2.2.1, stW G a11 w9.2.2.2.2.2.2.2.2.2.1, mdW G a12 w9.2.2.2.2.2.2.2.2.2.2.1, ouW G a13 w9.2.2.2.2.2.2.2.2.2.2.2] H → gD A [maW a0 (a1 0) (a2 0) (a3 0) (a4 0) (a7 0 0) (a8 0) (a9 0) (a9 1), stW G a1 w9.1, stW G a2 w9.2.1, rdW G a3 w9.2.2.1, scW a4 (a5 0) (a6 0), stW G a5 w9.2.2.2.1, rdW G a6 w9.2.2.2.2.1, paW G a7 w9.2.2.2.2.2.1, txW G a8 w9.2.2.2.2.2.2.1, slW G a9 (a10 0) (a11 0) w9.2.2.2.2.2.2.2.1, stW G a10 w9.2.2.2.2.2.2.2.2.1, stW G a11 w9.2.2.2.2.2.2.2.2.2.1, mdW G a12 w9.2.2.2.2.2.2.2.2.2.2.1, ouW G a13 w9.2.2.2.2.2.2.2.2.2.2.2] → va_S A s.heap H locs → lv_has ls 7 [(0, .ref b), (1, .ref (a0 0)), (2, .ref (a12 0)), (3, .ref (a13 0)), (4, .int i4)] → W p l e room_1 s m #[Value.ref b] below meth c H locs (c9 + 4) (s9 + 24) Q (F0 m 1796 ls [])) : W p l e room_1 s m #[Value.ref b] below meth c H locs (c9) (s9) Q (F0 m 422 ls []) := by
  obtain ⟨hx, hb, hml, hown, hts, hr, hlocks⟩ := id S
  unfold f_law_422 at hf
  refine lv_aload_n hx hb dL_law_422 rfl (lv_at hl 1 rfl) ?_
  refine lv_aload_n hx hb dL_law_423 rfl (lv_at hl 0 rfl) ?_
  refine lv_iload hx hb dL_law_424 (lv_at hl 4 rfl) ?_
  refine lv_iconst (v := (1:Int32)) hx hb dL_law_426 (by decide) ?_
  refine lv_iadd hx hb dL_law_427 ?_
  obtain ⟨h47, hf⟩ := gi_some hf
  refine va_sld hx hb hX hbl hbA hS h47 dL_law_428 ?_
  refine lv_aload_n hx hb dL_law_429 rfl (lv_at hl 0 rfl) ?_
  refine lv_iload hx hb dL_law_430 (lv_at hl 4 rfl) ?_
  refine lv_iconst (v := (2:Int32)) hx hb dL_law_432 (by decide) ?_
  refine lv_iadd hx hb dL_law_433 ?_
  obtain ⟨h48, hf⟩ := gi_some hf
  refine va_sld hx hb hX hbl hbA hS h48 dL_law_434 ?_
  refine lv_aload_n hx hb dL_law_435 rfl (lv_at hl 3 rfl) ?_
  obtain ⟨q49, hq49, hf⟩ := bd_some hf
  refine g_callHi S (As := [.ref (a0 0), .int (xs (i4 + (1:Int32)).toNatClampNeg), .int (xs (i4 + (2:Int32)).toNatClampNeg), .ref (a13 0)]) (gs' := [maW a0 (a1 0) (a2 0) (a3 0) (a4 0) (a7 0 0) (a8 0) (a9 0) (a9 1), stW G a1 v1, stW G a2 v2, rdW G a3 v3, scW a4 (a5 0) (a6 0), stW G a5 v5, rdW G a6 v6, paW G a7 v7, txW G a8 v8, slW G a9 (a10 0) (a11 0) v9, stW G a10 v10, stW G a11 v11, mdW G a12 v12, ouW G a13 q49.2]) (c_L_owes l hl0 G a0 a1 a2 a3 a4 a5 a6 a7 a8 a9 a10 a11 a13 v1 v13 (xs (i4 + (1:Int32)).toNatClampNeg) (xs (i4 + (2:Int32)).toNatClampNeg) hq49) (vx_cwSW 4 hts gL_law_L_owes rfl rfl rfl hd_L_owes.2 ⟨(Nat.le_of_ble_eq_true rfl), (Nat.le_of_ble_eq_true rfl)⟩) hTH hK hP hD hS hA (is := [0, 1, 13]) rfl rfl rfl hl.1 rfl (Nat.le_of_ble_eq_true rfl) dL_law_436 ⟨by show c9 + 3 ≤ 601024; omega, by show s9 + 18 ≤ 7293033; omega⟩ rfl (fun H locs hP hD hS => ?_)
  refine lv_istore (lv' := [(5, .int q49.1), (0, .ref b), (1, .ref (a0 0)), (2, .ref (a12 0)), (3, .ref (a13 0)), (4, .int i4)]) hx hb dL_law_439 hl (by decide) rfl (fun ls hl => ?_)
  refine lv_aload_n hx hb dL_law_441 rfl (lv_at hl 3 rfl) ?_
  refine lv_aload_n hx hb dL_law_442 rfl (lv_at hl 1 rfl) ?_
  refine lv_iload hx hb dL_law_443 (lv_at hl 5 rfl) ?_
  refine lv_iconst (v := (1:Int32)) hx hb dL_law_445 (by decide) ?_
  refine lv_iadd hx hb dL_law_446 ?_
  obtain ⟨h50, hf⟩ := gi_some hf
  refine va_sld hx hb hX hbl hbA hS h50 dL_law_447 ?_
  refine lv_aload_n hx hb dL_law_448 rfl (lv_at hl 1 rfl) ?_
  refine lv_iload hx hb dL_law_449 (lv_at hl 5 rfl) ?_
  refine lv_iconst (v := (2:Int32)) hx hb dL_law_451 (by decide) ?_
  refine lv_iadd hx hb dL_law_452 ?_
  obtain ⟨h51, hf⟩ := gi_some hf
  refine va_sld hx hb hX hbl hbA hS h51 dL_law_453 ?_
  obtain ⟨q52, hq52, hf⟩ := bd_some hf
  refine g_callVi S (As := [.int (xs (i4 + (1:Int32)).toNatClampNeg), .int (xs (i4 + (2:Int32)).toNatClampNeg)]) (gs' := [maW a0 (a1 0) (a2 0) (a3 0) (a4 0) (a7 0 0) (a8 0) (a9 0) (a9 1), stW G a1 v1, stW G a2 v2, rdW G a3 v3, scW a4 (a5 0) (a6 0), stW G a5 v5, rdW G a6 v6, paW G a7 v7, txW G a8 v8, slW G a9 (a10 0) (a11 0) v9, stW G a10 v10, stW G a11 v11, mdW G a12 q52.2, ouW G a13 q49.2]) (c_X6_owes l G a12 v12 (xs (i4 + (1:Int32)).toNatClampNeg) (xs (i4 + (2:Int32)).toNatClampNeg) hq52) (cwV 2 hts gL_law_X6_owes rfl rfl rfl hd_X6_owes ⟨Nat.le_of_ble_eq_true rfl, Nat.le_of_ble_eq_true rfl⟩) hK hP hD hS hA (is := [12]) rfl rfl 12 rfl rfl rfl rfl hl.1 rfl (Nat.le_of_ble_eq_true rfl) dL_law_454 ⟨by show c9 + 3 + 0 ≤ 601024; omega, by show s9 + 18 + 0 ≤ 7293033; omega⟩ rfl (fun H locs hP hD hS => ?_)
  refine lv_istore (lv' := [(6, .int q52.1), (5, .int q49.1), (0, .ref b), (1, .ref (a0 0)), (2, .ref (a12 0)), (3, .ref (a13 0)), (4, .int i4)]) hx hb dL_law_457 hl (by decide) rfl (fun ls hl => ?_)
  refine lv_aload_n hx hb dL_law_459 rfl (lv_at hl 4 rfl) ?_
  obtain ⟨q53, hq53, hf⟩ := bd_some hf
  refine g_callVi S (As := []) (gs' := [maW a0 (a1 0) (a2 0) (a3 0) (a4 0) (a7 0 0) (a8 0) (a9 0) (a9 1), stW G a1 v1, stW G a2 v2, rdW G a3 v3, scW a4 (a5 0) (a6 0), stW G a5 v5, rdW G a6 v6, paW G a7 v7, txW G a8 v8, slW G a9 (a10 0) (a11 0) v9, stW G a10 v10, stW G a11 v11, mdW G a12 q52.2, ouW G a13 q49.2]) (c_X6_thrown l G a12 q52.2 hq53) (cwV 0 hts gL_law_X6_thrown rfl rfl rfl hd_X6_thrown ⟨Nat.le_of_ble_eq_true rfl, Nat.le_of_ble_eq_true rfl⟩) hK hP hD hS hA (is := [12]) rfl rfl 12 rfl rfl rfl rfl hl.1 rfl (Nat.le_of_ble_eq_true rfl) dL_law_460 ⟨by show c9 + 3 + 0 ≤ 601024; omega, by show s9 + 18 + 0 ≤ 7293033; omega⟩ rfl (fun H locs hP hD hS => ?_)
  refine lv_iload hx hb dL_law_463 (lv_at hl 1 rfl) ?_
  refine lv_icmp_eq (tgt := 470) hx hb dL_law_465 (by decide) (fun c54 => ?_) (fun c54 => ?_)
  · rw [if_pos c54] at hf
    refine lv_iload hx hb dL_law_470 (lv_at hl 1 rfl) ?_
    refine lv_if_ne (tgt := 487) hx hb dL_law_472 (by decide) (fun c55 => ?_) (fun c55 => ?_)
    · rw [if_neg c55] at hf
      refine lv_goto (tgt := 1796) hx hb dL_law_487 (by decide) ?_
      cases hf
      refine W.widen (k := c9 + 4) (n := s9 + 24) (by omega) (by omega) ?_
      exact K H locs ls hP hD hS (lv_sub hl [2, 3, 4, 5, 6] rfl)
    · rw [if_pos c55] at hf
      refine lv_aload_n hx hb dL_law_475 rfl (lv_at hl 5 rfl) ?_
      refine lv_iconst (v := (0:Int32)) hx hb dL_law_476 (by decide) ?_
      obtain ⟨h56, hf⟩ := gi_some hf
      refine g_lald hx hb hK hP 13 0 3 rfl rfl rfl h56 dL_law_477 ?_
      refine lv_iload hx hb dL_law_478 (lv_at hl 0 rfl) ?_
      refine lv_i2l (v := q52.1.toInt64) hx hb dL_law_480 rfl ?_
      refine W.lcmp hx hb dL_law_481 ?_
      obtain ⟨x57, ex57, hf⟩ := lt_some hf
      refine lv_nmi ex57 ?_
      refine lv_if_eq (tgt := 487) hx hb dL_law_482 (by decide) (fun c58 => ?_) (fun c58 => ?_)
      · rw [if_pos c58] at hf
        refine lv_goto (tgt := 1796) hx hb dL_law_487 (by decide) ?_
        cases hf
        refine W.widen (k := c9 + 4) (n := s9 + 24) (by omega) (by omega) ?_
        exact K H locs ls hP hD hS (lv_sub hl [2, 3, 4, 5, 6] rfl)
      · rw [if_neg c58] at hf
        refine lv_iconst (v := (0:Int32)) hx hb dL_law_485 (by decide) ?_
        cases hf
  · rw [if_neg c54] at hf
    refine lv_iconst (v := (0:Int32)) hx hb dL_law_468 (by decide) ?_
    cases hf
set_option maxHeartbeats 8000000 in
set_option maxRecDepth 100000 in
theorem w_law_490 {p : Program} {l : Launch} (hl0 : l.stackTraces = false) {e : Env} {s : State} {m : MethodId} {below : List Frame} {meth : Method} {c : Code} {b L : Nat} {xs : Nat → Int32} {A : Nat → Prop} (S : Ev p s m #[Value.ref b] meth c cL_law 7 (some .boolean) RL wsL_law) {G : uG} (hK : kK G s) (hA : ∀ q, s.heap.size ≤ q → A q) (hTH : gTH A s s.heap) (hX : va_X b L xs s s.heap) (hbl : b < s.heap.size) (hbA : ¬ A b) (a0 : Nat → Nat) (a1 : Nat → Nat) (a2 : Nat → Nat) (a3 : Nat → Nat) (a4 : Nat → Nat) (a5 : Nat → Nat) (a6 : Nat → Nat) (a7 : Nat → Nat → Nat) (a8 : Nat → Nat) (a9 : Nat → Nat) (a10 : Nat → Nat) (a11 : Nat → Nat) (a12 : Nat → Nat) (a13 : Nat → Nat) (i4 : Int32) (v1 : StV) (v2 : StV) (v3 : RdV) (v5 : StV) (v6 : RdV) (v7 : PaV) (v8 : TxV) (v9 : SlV) (v10 : StV) (v11 : StV) (v12 : MdV) (v13 : OuV) {w9 : LwV} {Q : State → Prop} {c9 s9 : Nat} (hc9 : c9 + 4 ≤ 601024) (hs9 : s9 + 24 ≤ 7293033) (hf : f_law_490 xs L i4 v1 v2 v3 v5 v6 v7 v8 v9 v10 v11 v12 v13 = some w9) {H : Heap} {locs : List Loc} {ls : Array Slot} (hP : gP G [maW a0 (a1 0) (a2 0) (a3 0) (a4 0) (a7 0 0) (a8 0) (a9 0) (a9 1), stW G a1 v1, stW G a2 v2, rdW G a3 v3, scW a4 (a5 0) (a6 0), stW G a5 v5, rdW G a6 v6, paW G a7 v7, txW G a8 v8, slW G a9 (a10 0) (a11 0) v9, stW G a10 v10, stW G a11 v11, mdW G a12 v12, ouW G a13 v13] H) (hD : gD A [maW a0 (a1 0) (a2 0) (a3 0) (a4 0) (a7 0 0) (a8 0) (a9 0) (a9 1), stW G a1 v1, stW G a2 v2, rdW G a3 v3, scW a4 (a5 0) (a6 0), stW G a5 v5, rdW G a6 v6, paW G a7 v7, txW G a8 v8, slW G a9 (a10 0) (a11 0) v9, stW G a10 v10, stW G a11 v11, mdW G a12 v12, ouW G a13 v13]) (hS : va_S A s.heap H locs) (hl : lv_has ls 7 [(0, .ref b), (1, .ref (a0 0)), (2, .ref (a12 0)), (3, .ref (a13 0)), (4, .int i4)]) (K : ∀ (H : Heap) (locs : List Loc) (ls : Array Slot), gP G [maW a0 (a1 0) (a2 0) (a3 0) (a4 0) (a7 0 0) (a8 0) (a9 0) (a9 1), stW G a1 w9.1, stW G a2 w9.2.1, rdW G a3 w9.2.2.1, scW a4 (a5 0) (a6 0), stW G a5 w9.2.2.2.1, rdW G a6 w9.2.2.2.2.1, paW G a7 w9.2.2.2.2.2.1, txW G a8 w9.2.2.2.2.2.2.1, slW G a9 (a10 0) (a11 0) w9.2.2.2.2.2.2.2.1, stW G a10 w9.2.2.2.2.2.2.2.2.1, stW G a11 w9.2.2.2.2.2.2.2.2.2.1, mdW G a12 w9.2.2.2.2.2.2.2.2.2.2.1, ouW G a13 w9.2.2.2.2.2.2.2.2.2.2.2] H → gD A [maW a0 (a1 0) (a2 0) (a3 0) (a4 0) (a7 0 0) (a8 0) (a9 0) (a9 1), stW G a1 w9.1, stW G a2 w9.2.1, rdW G a3 w9.2.2.1, scW a4 (a5 0) (a6 0), stW G a5 w9.2.2.2.1, rdW G a6 w9.2.2.2.2.1, paW G a7 w9.2.2.2.2.2.1, txW G a8 w9.2.2.2.2.2.2.1, slW G a9 (a10 0) (a11 0) w9.2.2.2.2.2.2.2.1, stW G a10 w9.2.2.2.2.2.2.2.2.1, stW G a11 w9.2.2.2.2.2.2.2.2.2.1, mdW G a12 w9.2.2.2.2.2.2.2.2.2.2.1, ouW G a13 w9.2.2.2.2.2.2.2.2.2.2.2] → va_S A s.heap H locs → lv_has ls 7 [(0, .ref b), (1, .ref (a0 0)), (2, .ref (a12 0)), (3, .ref (a13 0)), (4, .int i4)] → W p l e room_1 s m #[Value.ref b] below meth c H locs (c9 + 4) (s9 + 24) Q (F0 m 1796 ls [])) : W p l e room_1 s m #[Value.ref b] below meth c H locs (c9) (s9) Q (F0 m 490 ls []) := by
  obtain ⟨hx, hb, hml, hown, hts, hr, hlocks⟩ := id S
  unfold f_law_490 at hf
  refine lv_aload_n hx hb dL_law_490 rfl (lv_at hl 1 rfl) ?_
  refine lv_aload_n hx hb dL_law_491 rfl (lv_at hl 0 rfl) ?_
  refine lv_iload hx hb dL_law_492 (lv_at hl 4 rfl) ?_
  refine lv_iconst (v := (1:Int32)) hx hb dL_law_494 (by decide) ?_
  refine lv_iadd hx hb dL_law_495 ?_
  obtain ⟨h59, hf⟩ := gi_some hf
  refine va_sld hx hb hX hbl hbA hS h59 dL_law_496 ?_
  refine lv_aload_n hx hb dL_law_497 rfl (lv_at hl 3 rfl) ?_
  obtain ⟨q60, hq60, hf⟩ := bd_some hf
  refine g_callHi S (As := [.ref (a0 0), .int (xs (i4 + (1:Int32)).toNatClampNeg), .ref (a13 0)]) (gs' := [maW a0 (a1 0) (a2 0) (a3 0) (a4 0) (a7 0 0) (a8 0) (a9 0) (a9 1), stW G a1 v1, stW G a2 v2, rdW G a3 v3, scW a4 (a5 0) (a6 0), stW G a5 v5, rdW G a6 v6, paW G a7 v7, txW G a8 v8, slW G a9 (a10 0) (a11 0) v9, stW G a10 v10, stW G a11 v11, mdW G a12 v12, ouW G a13 q60.2]) (c_L_chain l hl0 G a0 a1 a2 a3 a4 a5 a6 a7 a8 a9 a10 a11 a13 v1 v13 (xs (i4 + (1:Int32)).toNatClampNeg) hq60) (vx_cwSW 3 hts gL_law_L_chain rfl rfl rfl hd_L_chain.2 ⟨(Nat.le_of_ble_eq_true rfl), (Nat.le_of_ble_eq_true rfl)⟩) hTH hK hP hD hS hA (is := [0, 1, 13]) rfl rfl rfl hl.1 rfl (Nat.le_of_ble_eq_true rfl) dL_law_498 ⟨by show c9 + 1 ≤ 601024; omega, by show s9 + 6 ≤ 7293033; omega⟩ rfl (fun H locs hP hD hS => ?_)
  refine lv_istore (lv' := [(5, .int q60.1), (0, .ref b), (1, .ref (a0 0)), (2, .ref (a12 0)), (3, .ref (a13 0)), (4, .int i4)]) hx hb dL_law_501 hl (by decide) rfl (fun ls hl => ?_)
  refine lv_aload_n hx hb dL_law_503 rfl (lv_at hl 3 rfl) ?_
  refine lv_aload_n hx hb dL_law_504 rfl (lv_at hl 1 rfl) ?_
  refine lv_iload hx hb dL_law_505 (lv_at hl 5 rfl) ?_
  refine lv_iconst (v := (1:Int32)) hx hb dL_law_507 (by decide) ?_
  refine lv_iadd hx hb dL_law_508 ?_
  obtain ⟨h61, hf⟩ := gi_some hf
  refine va_sld hx hb hX hbl hbA hS h61 dL_law_509 ?_
  obtain ⟨q62, hq62, hf⟩ := bd_some hf
  refine g_callVi S (As := [.int (xs (i4 + (1:Int32)).toNatClampNeg)]) (gs' := [maW a0 (a1 0) (a2 0) (a3 0) (a4 0) (a7 0 0) (a8 0) (a9 0) (a9 1), stW G a1 v1, stW G a2 v2, rdW G a3 v3, scW a4 (a5 0) (a6 0), stW G a5 v5, rdW G a6 v6, paW G a7 v7, txW G a8 v8, slW G a9 (a10 0) (a11 0) v9, stW G a10 v10, stW G a11 v11, mdW G a12 q62.2, ouW G a13 q60.2]) (c_X6_chain l G a12 v12 (xs (i4 + (1:Int32)).toNatClampNeg) hq62) (cwV 1 hts gL_law_X6_chain rfl rfl rfl hd_X6_chain ⟨Nat.le_of_ble_eq_true rfl, Nat.le_of_ble_eq_true rfl⟩) hK hP hD hS hA (is := [12]) rfl rfl 12 rfl rfl rfl rfl hl.1 rfl (Nat.le_of_ble_eq_true rfl) dL_law_510 ⟨by show c9 + 1 + 0 ≤ 601024; omega, by show s9 + 6 + 0 ≤ 7293033; omega⟩ rfl (fun H locs hP hD hS => ?_)
  refine lv_istore (lv' := [(6, .int q62.1), (5, .int q60.1), (0, .ref b), (1, .ref (a0 0)), (2, .ref (a12 0)), (3, .ref (a13 0)), (4, .int i4)]) hx hb dL_law_513 hl (by decide) rfl (fun ls hl => ?_)
  refine lv_aload_n hx hb dL_law_515 rfl (lv_at hl 4 rfl) ?_
  obtain ⟨q63, hq63, hf⟩ := bd_some hf
  refine g_callVi S (As := []) (gs' := [maW a0 (a1 0) (a2 0) (a3 0) (a4 0) (a7 0 0) (a8 0) (a9 0) (a9 1), stW G a1 v1, stW G a2 v2, rdW G a3 v3, scW a4 (a5 0) (a6 0), stW G a5 v5, rdW G a6 v6, paW G a7 v7, txW G a8 v8, slW G a9 (a10 0) (a11 0) v9, stW G a10 v10, stW G a11 v11, mdW G a12 q62.2, ouW G a13 q60.2]) (c_X6_thrown l G a12 q62.2 hq63) (cwV 0 hts gL_law_X6_thrown rfl rfl rfl hd_X6_thrown ⟨Nat.le_of_ble_eq_true rfl, Nat.le_of_ble_eq_true rfl⟩) hK hP hD hS hA (is := [12]) rfl rfl 12 rfl rfl rfl rfl hl.1 rfl (Nat.le_of_ble_eq_true rfl) dL_law_516 ⟨by show c9 + 1 + 0 ≤ 601024; omega, by show s9 + 6 + 0 ≤ 7293033; omega⟩ rfl (fun H locs hP hD hS => ?_)
  refine lv_iload hx hb dL_law_519 (lv_at hl 1 rfl) ?_
  refine lv_icmp_eq (tgt := 526) hx hb dL_law_521 (by decide) (fun c64 => ?_) (fun c64 => ?_)
  · rw [if_pos c64] at hf
    refine lv_iload hx hb dL_law_526 (lv_at hl 1 rfl) ?_
    refine lv_if_ne (tgt := 543) hx hb dL_law_528 (by decide) (fun c65 => ?_) (fun c65 => ?_)
    · rw [if_neg c65] at hf
      refine lv_goto (tgt := 1796) hx hb dL_law_543 (by decide) ?_
      cases hf
      refine W.widen (k := c9 + 4) (n := s9 + 24) (by omega) (by omega) ?_
      exact K H locs ls hP hD hS (lv_sub hl [2, 3, 4, 5, 6] rfl)
    · rw [if_pos c65] at hf
      refine lv_aload_n hx hb dL_law_531 rfl (lv_at hl 5 rfl) ?_
      refine lv_iconst (v := (0:Int32)) hx hb dL_law_532 (by decide) ?_
      obtain ⟨h66, hf⟩ := gi_some hf
      refine g_lald hx hb hK hP 13 0 3 rfl rfl rfl h66 dL_law_533 ?_
      refine lv_iload hx hb dL_law_534 (lv_at hl 0 rfl) ?_
      refine lv_i2l (v := q62.1.toInt64) hx hb dL_law_536 rfl ?_
      refine W.lcmp hx hb dL_law_537 ?_
      obtain ⟨x67, ex67, hf⟩ := lt_some hf
      refine lv_nmi ex67 ?_
      refine lv_if_eq (tgt := 543) hx hb dL_law_538 (by decide) (fun c68 => ?_) (fun c68 => ?_)
      · rw [if_pos c68] at hf
        refine lv_goto (tgt := 1796) hx hb dL_law_543 (by decide) ?_
        cases hf
        refine W.widen (k := c9 + 4) (n := s9 + 24) (by omega) (by omega) ?_
        exact K H locs ls hP hD hS (lv_sub hl [2, 3, 4, 5, 6] rfl)
      · rw [if_neg c68] at hf
        refine lv_iconst (v := (0:Int32)) hx hb dL_law_541 (by decide) ?_
        cases hf
  · rw [if_neg c64] at hf
    refine lv_iconst (v := (0:Int32)) hx hb dL_law_524 (by decide) ?_
    cases hf
set_option maxHeartbeats 8000000 in
set_option maxRecDepth 100000 in
theorem w_law_546 {p : Program} {l : Launch} (hl0 : l.stackTraces = false) {e : Env} {s : State} {m : MethodId} {below : List Frame} {meth : Method} {c : Code} {b L : Nat} {xs : Nat → Int32} {A : Nat → Prop} (S : Ev p s m #[Value.ref b] meth c cL_law 7 (some .boolean) RL wsL_law) {G : uG} (hK : kK G s) (hA : ∀ q, s.heap.size ≤ q → A q) (hTH : gTH A s s.heap) (hX : va_X b L xs s s.heap) (hbl : b < s.heap.size) (hbA : ¬ A b) (a0 : Nat → Nat) (a1 : Nat → Nat) (a2 : Nat → Nat) (a3 : Nat → Nat) (a4 : Nat → Nat) (a5 : Nat → Nat) (a6 : Nat → Nat) (a7 : Nat → Nat → Nat) (a8 : Nat → Nat) (a9 : Nat → Nat) (a10 : Nat → Nat) (a11 : Nat → Nat) (a12 : Nat → Nat) (a13 : Nat → Nat) (i4 : Int32) (v1 : StV) (v2 : StV) (v3 : RdV) (v5 : StV) (v6 : RdV) (v7 : PaV) (v8 : TxV) (v9 : SlV) (v10 : StV) (v11 : StV) (v12 : MdV) (v13 : OuV) {w9 : LwV} {Q : State → Prop} {c9 s9 : Nat} (hc9 : c9 + 4 ≤ 601024) (hs9 : s9 + 24 ≤ 7293033) (hf : f_law_546 xs L i4 v1 v2 v3 v5 v6 v7 v8 v9 v10 v11 v12 v13 = some w9) {H : Heap} {locs : List Loc} {ls : Array Slot} (hP : gP G [maW a0 (a1 0) (a2 0) (a3 0) (a4 0) (a7 0 0) (a8 0) (a9 0) (a9 1), stW G a1 v1, stW G a2 v2, rdW G a3 v3, scW a4 (a5 0) (a6 0), stW G a5 v5, rdW G a6 v6, paW G a7 v7, txW G a8 v8, slW G a9 (a10 0) (a11 0) v9, stW G a10 v10, stW G a11 v11, mdW G a12 v12, ouW G a13 v13] H) (hD : gD A [maW a0 (a1 0) (a2 0) (a3 0) (a4 0) (a7 0 0) (a8 0) (a9 0) (a9 1), stW G a1 v1, stW G a2 v2, rdW G a3 v3, scW a4 (a5 0) (a6 0), stW G a5 v5, rdW G a6 v6, paW G a7 v7, txW G a8 v8, slW G a9 (a10 0) (a11 0) v9, stW G a10 v10, stW G a11 v11, mdW G a12 v12, ouW G a13 v13]) (hS : va_S A s.heap H locs) (hl : lv_has ls 7 [(0, .ref b), (1, .ref (a0 0)), (2, .ref (a12 0)), (3, .ref (a13 0)), (4, .int i4)]) (K : ∀ (H : Heap) (locs : List Loc) (ls : Array Slot), gP G [maW a0 (a1 0) (a2 0) (a3 0) (a4 0) (a7 0 0) (a8 0) (a9 0) (a9 1), stW G a1 w9.1, stW G a2 w9.2.1, rdW G a3 w9.2.2.1, scW a4 (a5 0) (a6 0), stW G a5 w9.2.2.2.1, rdW G a6 w9.2.2.2.2.1, paW G a7 w9.2.2.2.2.2.1, txW G a8 w9.2.2.2.2.2.2.1, slW G a9 (a10 0) (a11 0) w9.2.2.2.2.2.2.2.1, stW G a10 w9.2.2.2.2.2.2.2.2.1, stW G a11 w9.2.2.2.2.2.2.2.2.2.1, mdW G a12 w9.2.2.2.2.2.2.2.2.2.2.1, ouW G a13 w9.2.2.2.2.2.2.2.2.2.2.2] H → gD A [maW a0 (a1 0) (a2 0) (a3 0) (a4 0) (a7 0 0) (a8 0) (a9 0) (a9 1), stW G a1 w9.1, stW G a2 w9.2.1, rdW G a3 w9.2.2.1, scW a4 (a5 0) (a6 0), stW G a5 w9.2.2.2.1, rdW G a6 w9.2.2.2.2.1, paW G a7 w9.2.2.2.2.2.1, txW G a8 w9.2.2.2.2.2.2.1, slW G a9 (a10 0) (a11 0) w9.2.2.2.2.2.2.2.1, stW G a10 w9.2.2.2.2.2.2.2.2.1, stW G a11 w9.2.2.2.2.2.2.2.2.2.1, mdW G a12 w9.2.2.2.2.2.2.2.2.2.2.1, ouW G a13 w9.2.2.2.2.2.2.2.2.2.2.2] → va_S A s.heap H locs → lv_has ls 7 [(0, .ref b), (1, .ref (a0 0)), (2, .ref (a12 0)), (3, .ref (a13 0)), (4, .int i4)] → W p l e room_1 s m #[Value.ref b] below meth c H locs (c9 + 4) (s9 + 24) Q (F0 m 1796 ls [])) : W p l e room_1 s m #[Value.ref b] below meth c H locs (c9) (s9) Q (F0 m 546 ls []) := by
  obtain ⟨hx, hb, hml, hown, hts, hr, hlocks⟩ := id S
  unfold f_law_546 at hf
  refine lv_aload_n hx hb dL_law_546 rfl (lv_at hl 1 rfl) ?_
  refine lv_aload_n hx hb dL_law_547 rfl (lv_at hl 0 rfl) ?_
  refine lv_iload hx hb dL_law_548 (lv_at hl 4 rfl) ?_
  refine lv_iconst (v := (1:Int32)) hx hb dL_law_550 (by decide) ?_
  refine lv_iadd hx hb dL_law_551 ?_
  obtain ⟨h69, hf⟩ := gi_some hf
  refine va_sld hx hb hX hbl hbA hS h69 dL_law_552 ?_
  refine lv_aload_n hx hb dL_law_553 rfl (lv_at hl 3 rfl) ?_
  obtain ⟨q70, hq70, hf⟩ := bd_some hf
  refine g_callHi S (As := [.ref (a0 0), .int (xs (i4 + (1:Int32)).toNatClampNeg), .ref (a13 0)]) (gs' := [maW a0 (a1 0) (a2 0) (a3 0) (a4 0) (a7 0 0) (a8 0) (a9 0) (a9 1), stW G a1 v1, stW G a2 v2, rdW G a3 v3, scW a4 (a5 0) (a6 0), stW G a5 v5, rdW G a6 v6, paW G a7 v7, txW G a8 v8, slW G a9 (a10 0) (a11 0) v9, stW G a10 v10, stW G a11 v11, mdW G a12 v12, ouW G a13 q70.2]) (c_L_rate l hl0 G a0 a1 a2 a3 a4 a5 a6 a7 a8 a9 a10 a11 a13 v1 v13 (xs (i4 + (1:Int32)).toNatClampNeg) hq70) (vx_cwSW 3 hts gL_law_L_rate rfl rfl rfl hd_L_rate.2 ⟨(Nat.le_of_ble_eq_true rfl), (Nat.le_of_ble_eq_true rfl)⟩) hTH hK hP hD hS hA (is := [0, 1, 13]) rfl rfl rfl hl.1 rfl (Nat.le_of_ble_eq_true rfl) dL_law_554 ⟨by show c9 + 1 ≤ 601024; omega, by show s9 + 6 ≤ 7293033; omega⟩ rfl (fun H locs hP hD hS => ?_)
  refine lv_istore (lv' := [(5, .int q70.1), (0, .ref b), (1, .ref (a0 0)), (2, .ref (a12 0)), (3, .ref (a13 0)), (4, .int i4)]) hx hb dL_law_557 hl (by decide) rfl (fun ls hl => ?_)
  refine lv_aload_n hx hb dL_law_559 rfl (lv_at hl 3 rfl) ?_
  refine lv_aload_n hx hb dL_law_560 rfl (lv_at hl 1 rfl) ?_
  refine lv_iload hx hb dL_law_561 (lv_at hl 5 rfl) ?_
  refine lv_iconst (v := (1:Int32)) hx hb dL_law_563 (by decide) ?_
  refine lv_iadd hx hb dL_law_564 ?_
  obtain ⟨h71, hf⟩ := gi_some hf
  refine va_sld hx hb hX hbl hbA hS h71 dL_law_565 ?_
  obtain ⟨q72, hq72, hf⟩ := bd_some hf
  refine g_callVi S (As := [.int (xs (i4 + (1:Int32)).toNatClampNeg)]) (gs' := [maW a0 (a1 0) (a2 0) (a3 0) (a4 0) (a7 0 0) (a8 0) (a9 0) (a9 1), stW G a1 v1, stW G a2 v2, rdW G a3 v3, scW a4 (a5 0) (a6 0), stW G a5 v5, rdW G a6 v6, paW G a7 v7, txW G a8 v8, slW G a9 (a10 0) (a11 0) v9, stW G a10 v10, stW G a11 v11, mdW G a12 q72.2, ouW G a13 q70.2]) (c_X6_rate l G a12 v12 (xs (i4 + (1:Int32)).toNatClampNeg) hq72) (cwV 1 hts gL_law_X6_rate rfl rfl rfl hd_X6_rate ⟨Nat.le_of_ble_eq_true rfl, Nat.le_of_ble_eq_true rfl⟩) hK hP hD hS hA (is := [12]) rfl rfl 12 rfl rfl rfl rfl hl.1 rfl (Nat.le_of_ble_eq_true rfl) dL_law_566 ⟨by show c9 + 1 + 0 ≤ 601024; omega, by show s9 + 6 + 0 ≤ 7293033; omega⟩ rfl (fun H locs hP hD hS => ?_)
  refine lv_istore (lv' := [(6, .int q72.1), (5, .int q70.1), (0, .ref b), (1, .ref (a0 0)), (2, .ref (a12 0)), (3, .ref (a13 0)), (4, .int i4)]) hx hb dL_law_569 hl (by decide) rfl (fun ls hl => ?_)
  refine lv_aload_n hx hb dL_law_571 rfl (lv_at hl 4 rfl) ?_
  obtain ⟨q73, hq73, hf⟩ := bd_some hf
  refine g_callVi S (As := []) (gs' := [maW a0 (a1 0) (a2 0) (a3 0) (a4 0) (a7 0 0) (a8 0) (a9 0) (a9 1), stW G a1 v1, stW G a2 v2, rdW G a3 v3, scW a4 (a5 0) (a6 0), stW G a5 v5, rdW G a6 v6, paW G a7 v7, txW G a8 v8, slW G a9 (a10 0) (a11 0) v9, stW G a10 v10, stW G a11 v11, mdW G a12 q72.2, ouW G a13 q70.2]) (c_X6_thrown l G a12 q72.2 hq73) (cwV 0 hts gL_law_X6_thrown rfl rfl rfl hd_X6_thrown ⟨Nat.le_of_ble_eq_true rfl, Nat.le_of_ble_eq_true rfl⟩) hK hP hD hS hA (is := [12]) rfl rfl 12 rfl rfl rfl rfl hl.1 rfl (Nat.le_of_ble_eq_true rfl) dL_law_572 ⟨by show c9 + 1 + 0 ≤ 601024; omega, by show s9 + 6 + 0 ≤ 7293033; omega⟩ rfl (fun H locs hP hD hS => ?_)
  refine lv_iload hx hb dL_law_575 (lv_at hl 1 rfl) ?_
  refine lv_icmp_eq (tgt := 582) hx hb dL_law_577 (by decide) (fun c74 => ?_) (fun c74 => ?_)
  · rw [if_pos c74] at hf
    refine lv_iload hx hb dL_law_582 (lv_at hl 1 rfl) ?_
    refine lv_if_ne (tgt := 599) hx hb dL_law_584 (by decide) (fun c75 => ?_) (fun c75 => ?_)
    · rw [if_neg c75] at hf
      refine lv_goto (tgt := 1796) hx hb dL_law_599 (by decide) ?_
      cases hf
      refine W.widen (k := c9 + 4) (n := s9 + 24) (by omega) (by omega) ?_
      exact K H locs ls hP hD hS (lv_sub hl [2, 3, 4, 5, 6] rfl)
    · rw [if_pos c75] at hf
      refine lv_aload_n hx hb dL_law_587 rfl (lv_at hl 5 rfl) ?_
      refine lv_iconst (v := (0:Int32)) hx hb dL_law_588 (by decide) ?_
      obtain ⟨h76, hf⟩ := gi_some hf
      refine g_lald hx hb hK hP 13 0 3 rfl rfl rfl h76 dL_law_589 ?_
      refine lv_iload hx hb dL_law_590 (lv_at hl 0 rfl) ?_
      refine lv_i2l (v := q72.1.toInt64) hx hb dL_law_592 rfl ?_
      refine W.lcmp hx hb dL_law_593 ?_
      obtain ⟨x77, ex77, hf⟩ := lt_some hf
      refine lv_nmi ex77 ?_
      refine lv_if_eq (tgt := 599) hx hb dL_law_594 (by decide) (fun c78 => ?_) (fun c78 => ?_)
      · rw [if_pos c78] at hf
        refine lv_goto (tgt := 1796) hx hb dL_law_599 (by decide) ?_
        cases hf
        refine W.widen (k := c9 + 4) (n := s9 + 24) (by omega) (by omega) ?_
        exact K H locs ls hP hD hS (lv_sub hl [2, 3, 4, 5, 6] rfl)
      · rw [if_neg c78] at hf
        refine lv_iconst (v := (0:Int32)) hx hb dL_law_597 (by decide) ?_
        cases hf
  · rw [if_neg c74] at hf
    refine lv_iconst (v := (0:Int32)) hx hb dL_law_580 (by decide) ?_
    cases hf
set_option maxHeartbeats 8000000 in
set_option maxRecDepth 100000 in
theorem w_law_602 {p : Program} {l : Launch} (hl0 : l.stackTraces = false) {e : Env} {s : State} {m : MethodId} {below : List Frame} {meth : Method} {c : Code} {b L : Nat} {xs : Nat → Int32} {A : Nat → Prop} (S : Ev p s m #[Value.ref b] meth c cL_law 7 (some .boolean) RL wsL_law) {G : uG} (hK : kK G s) (hA : ∀ q, s.heap.size ≤ q → A q) (hTH : gTH A s s.heap) (hX : va_X b L xs s s.heap) (hbl : b < s.heap.size) (hbA : ¬ A b) (a0 : Nat → Nat) (a1 : Nat → Nat) (a2 : Nat → Nat) (a3 : Nat → Nat) (a4 : Nat → Nat) (a5 : Nat → Nat) (a6 : Nat → Nat) (a7 : Nat → Nat → Nat) (a8 : Nat → Nat) (a9 : Nat → Nat) (a10 : Nat → Nat) (a11 : Nat → Nat) (a12 : Nat → Nat) (a13 : Nat → Nat) (i4 : Int32) (v1 : StV) (v2 : StV) (v3 : RdV) (v5 : StV) (v6 : RdV) (v7 : PaV) (v8 : TxV) (v9 : SlV) (v10 : StV) (v11 : StV) (v12 : MdV) (v13 : OuV) {w9 : LwV} {Q : State → Prop} {c9 s9 : Nat} (hc9 : c9 + 4 ≤ 601024) (hs9 : s9 + 24 ≤ 7293033) (hf : f_law_602 xs L i4 v1 v2 v3 v5 v6 v7 v8 v9 v10 v11 v12 v13 = some w9) {H : Heap} {locs : List Loc} {ls : Array Slot} (hP : gP G [maW a0 (a1 0) (a2 0) (a3 0) (a4 0) (a7 0 0) (a8 0) (a9 0) (a9 1), stW G a1 v1, stW G a2 v2, rdW G a3 v3, scW a4 (a5 0) (a6 0), stW G a5 v5, rdW G a6 v6, paW G a7 v7, txW G a8 v8, slW G a9 (a10 0) (a11 0) v9, stW G a10 v10, stW G a11 v11, mdW G a12 v12, ouW G a13 v13] H) (hD : gD A [maW a0 (a1 0) (a2 0) (a3 0) (a4 0) (a7 0 0) (a8 0) (a9 0) (a9 1), stW G a1 v1, stW G a2 v2, rdW G a3 v3, scW a4 (a5 0) (a6 0), stW G a5 v5, rdW G a6 v6, paW G a7 v7, txW G a8 v8, slW G a9 (a10 0) (a11 0) v9, stW G a10 v10, stW G a11 v11, mdW G a12 v12, ouW G a13 v13]) (hS : va_S A s.heap H locs) (hl : lv_has ls 7 [(0, .ref b), (1, .ref (a0 0)), (2, .ref (a12 0)), (3, .ref (a13 0)), (4, .int i4)]) (K : ∀ (H : Heap) (locs : List Loc) (ls : Array Slot), gP G [maW a0 (a1 0) (a2 0) (a3 0) (a4 0) (a7 0 0) (a8 0) (a9 0) (a9 1), stW G a1 w9.1, stW G a2 w9.2.1, rdW G a3 w9.2.2.1, scW a4 (a5 0) (a6 0), stW G a5 w9.2.2.2.1, rdW G a6 w9.2.2.2.2.1, paW G a7 w9.2.2.2.2.2.1, txW G a8 w9.2.2.2.2.2.2.1, slW G a9 (a10 0) (a11 0) w9.2.2.2.2.2.2.2.1, stW G a10 w9.2.2.2.2.2.2.2.2.1, stW G a11 w9.2.2.2.2.2.2.2.2.2.1, mdW G a12 w9.2.2.2.2.2.2.2.2.2.2.1, ouW G a13 w9.2.2.2.2.2.2.2.2.2.2.2] H → gD A [maW a0 (a1 0) (a2 0) (a3 0) (a4 0) (a7 0 0) (a8 0) (a9 0) (a9 1), stW G a1 w9.1, stW G a2 w9.2.1, rdW G a3 w9.2.2.1, scW a4 (a5 0) (a6 0), stW G a5 w9.2.2.2.1, rdW G a6 w9.2.2.2.2.1, paW G a7 w9.2.2.2.2.2.1, txW G a8 w9.2.2.2.2.2.2.1, slW G a9 (a10 0) (a11 0) w9.2.2.2.2.2.2.2.1, stW G a10 w9.2.2.2.2.2.2.2.2.1, stW G a11 w9.2.2.2.2.2.2.2.2.2.1, mdW G a12 w9.2.2.2.2.2.2.2.2.2.2.1, ouW G a13 w9.2.2.2.2.2.2.2.2.2.2.2] → va_S A s.heap H locs → lv_has ls 7 [(0, .ref b), (1, .ref (a0 0)), (2, .ref (a12 0)), (3, .ref (a13 0)), (4, .int i4)] → W p l e room_1 s m #[Value.ref b] below meth c H locs (c9 + 4) (s9 + 24) Q (F0 m 1796 ls [])) : W p l e room_1 s m #[Value.ref b] below meth c H locs (c9) (s9) Q (F0 m 602 ls []) := by
  obtain ⟨hx, hb, hml, hown, hts, hr, hlocks⟩ := id S
  unfold f_law_602 at hf
  refine lv_aload_n hx hb dL_law_602 rfl (lv_at hl 1 rfl) ?_
  refine lv_aload_n hx hb dL_law_603 rfl (lv_at hl 0 rfl) ?_
  refine lv_iload hx hb dL_law_604 (lv_at hl 4 rfl) ?_
  refine lv_iconst (v := (1:Int32)) hx hb dL_law_606 (by decide) ?_
  refine lv_iadd hx hb dL_law_607 ?_
  obtain ⟨h79, hf⟩ := gi_some hf
  refine va_sld hx hb hX hbl hbA hS h79 dL_law_608 ?_
  refine lv_aload_n hx hb dL_law_609 rfl (lv_at hl 3 rfl) ?_
  obtain ⟨q80, hq80, hf⟩ := bd_some hf
  refine g_callHi S (As := [.ref (a0 0), .int (xs (i4 + (1:Int32)).toNatClampNeg), .ref (a13 0)]) (gs' := [maW a0 (a1 0) (a2 0) (a3 0) (a4 0) (a7 0 0) (a8 0) (a9 0) (a9 1), stW G a1 q80.2.1, stW G a2 v2, rdW G a3 v3, scW a4 (a5 0) (a6 0), stW G a5 v5, rdW G a6 v6, paW G a7 q80.2.2.1, txW G a8 v8, slW G a9 (a10 0) (a11 0) v9, stW G a10 v10, stW G a11 v11, mdW G a12 v12, ouW G a13 q80.2.2.2]) (c_L_addMember l hl0 G a0 a1 a2 a3 a4 a5 a6 a7 a8 a9 a10 a11 a13 v1 v7 v13 (xs (i4 + (1:Int32)).toNatClampNeg) hq80) (vx_cwSW 3 hts gL_law_L_addMember rfl rfl rfl hd_L_addMember.2 ⟨(Nat.le_of_ble_eq_true rfl), (Nat.le_of_ble_eq_true rfl)⟩) hTH hK hP hD hS hA (is := [0, 1, 7, 13]) rfl rfl rfl hl.1 rfl (Nat.le_of_ble_eq_true rfl) dL_law_610 ⟨by show c9 + 2 ≤ 601024; omega, by show s9 + 12 ≤ 7293033; omega⟩ rfl (fun H locs hP hD hS => ?_)
  refine lv_istore (lv' := [(5, .int q80.1), (0, .ref b), (1, .ref (a0 0)), (2, .ref (a12 0)), (3, .ref (a13 0)), (4, .int i4)]) hx hb dL_law_613 hl (by decide) rfl (fun ls hl => ?_)
  refine lv_aload_n hx hb dL_law_615 rfl (lv_at hl 3 rfl) ?_
  refine lv_aload_n hx hb dL_law_616 rfl (lv_at hl 1 rfl) ?_
  refine lv_iload hx hb dL_law_617 (lv_at hl 5 rfl) ?_
  refine lv_iconst (v := (1:Int32)) hx hb dL_law_619 (by decide) ?_
  refine lv_iadd hx hb dL_law_620 ?_
  obtain ⟨h81, hf⟩ := gi_some hf
  refine va_sld hx hb hX hbl hbA hS h81 dL_law_621 ?_
  obtain ⟨q82, hq82, hf⟩ := bd_some hf
  refine g_callVi S (As := [.int (xs (i4 + (1:Int32)).toNatClampNeg)]) (gs' := [maW a0 (a1 0) (a2 0) (a3 0) (a4 0) (a7 0 0) (a8 0) (a9 0) (a9 1), stW G a1 q80.2.1, stW G a2 v2, rdW G a3 v3, scW a4 (a5 0) (a6 0), stW G a5 v5, rdW G a6 v6, paW G a7 q80.2.2.1, txW G a8 v8, slW G a9 (a10 0) (a11 0) v9, stW G a10 v10, stW G a11 v11, mdW G a12 q82.2, ouW G a13 q80.2.2.2]) (c_X6_addMember l G a12 v12 (xs (i4 + (1:Int32)).toNatClampNeg) hq82) (cwV 1 hts gL_law_X6_addMember rfl rfl rfl hd_X6_addMember ⟨Nat.le_of_ble_eq_true rfl, Nat.le_of_ble_eq_true rfl⟩) hK hP hD hS hA (is := [12]) rfl rfl 12 rfl rfl rfl rfl hl.1 rfl (Nat.le_of_ble_eq_true rfl) dL_law_622 ⟨by show c9 + 2 + 0 ≤ 601024; omega, by show s9 + 12 + 0 ≤ 7293033; omega⟩ rfl (fun H locs hP hD hS => ?_)
  refine lv_istore (lv' := [(6, .int q82.1), (5, .int q80.1), (0, .ref b), (1, .ref (a0 0)), (2, .ref (a12 0)), (3, .ref (a13 0)), (4, .int i4)]) hx hb dL_law_625 hl (by decide) rfl (fun ls hl => ?_)
  refine lv_aload_n hx hb dL_law_627 rfl (lv_at hl 4 rfl) ?_
  obtain ⟨q83, hq83, hf⟩ := bd_some hf
  refine g_callVi S (As := []) (gs' := [maW a0 (a1 0) (a2 0) (a3 0) (a4 0) (a7 0 0) (a8 0) (a9 0) (a9 1), stW G a1 q80.2.1, stW G a2 v2, rdW G a3 v3, scW a4 (a5 0) (a6 0), stW G a5 v5, rdW G a6 v6, paW G a7 q80.2.2.1, txW G a8 v8, slW G a9 (a10 0) (a11 0) v9, stW G a10 v10, stW G a11 v11, mdW G a12 q82.2, ouW G a13 q80.2.2.2]) (c_X6_thrown l G a12 q82.2 hq83) (cwV 0 hts gL_law_X6_thrown rfl rfl rfl hd_X6_thrown ⟨Nat.le_of_ble_eq_true rfl, Nat.le_of_ble_eq_true rfl⟩) hK hP hD hS hA (is := [12]) rfl rfl 12 rfl rfl rfl rfl hl.1 rfl (Nat.le_of_ble_eq_true rfl) dL_law_628 ⟨by show c9 + 2 + 0 ≤ 601024; omega, by show s9 + 12 + 0 ≤ 7293033; omega⟩ rfl (fun H locs hP hD hS => ?_)
  refine lv_iload hx hb dL_law_631 (lv_at hl 1 rfl) ?_
  refine lv_icmp_eq (tgt := 638) hx hb dL_law_633 (by decide) (fun c84 => ?_) (fun c84 => ?_)
  · rw [if_pos c84] at hf
    refine lv_iload hx hb dL_law_638 (lv_at hl 1 rfl) ?_
    refine lv_if_ne (tgt := 655) hx hb dL_law_640 (by decide) (fun c85 => ?_) (fun c85 => ?_)
    · rw [if_neg c85] at hf
      refine lv_goto (tgt := 1796) hx hb dL_law_655 (by decide) ?_
      cases hf
      refine W.widen (k := c9 + 4) (n := s9 + 24) (by omega) (by omega) ?_
      exact K H locs ls hP hD hS (lv_sub hl [2, 3, 4, 5, 6] rfl)
    · rw [if_pos c85] at hf
      refine lv_aload_n hx hb dL_law_643 rfl (lv_at hl 5 rfl) ?_
      refine lv_iconst (v := (0:Int32)) hx hb dL_law_644 (by decide) ?_
      obtain ⟨h86, hf⟩ := gi_some hf
      refine g_lald hx hb hK hP 13 0 3 rfl rfl rfl h86 dL_law_645 ?_
      refine lv_iload hx hb dL_law_646 (lv_at hl 0 rfl) ?_
      refine lv_i2l (v := q82.1.toInt64) hx hb dL_law_648 rfl ?_
      refine W.lcmp hx hb dL_law_649 ?_
      obtain ⟨x87, ex87, hf⟩ := lt_some hf
      refine lv_nmi ex87 ?_
      refine lv_if_eq (tgt := 655) hx hb dL_law_650 (by decide) (fun c88 => ?_) (fun c88 => ?_)
      · rw [if_pos c88] at hf
        refine lv_goto (tgt := 1796) hx hb dL_law_655 (by decide) ?_
        cases hf
        refine W.widen (k := c9 + 4) (n := s9 + 24) (by omega) (by omega) ?_
        exact K H locs ls hP hD hS (lv_sub hl [2, 3, 4, 5, 6] rfl)
      · rw [if_neg c88] at hf
        refine lv_iconst (v := (0:Int32)) hx hb dL_law_653 (by decide) ?_
        cases hf
  · rw [if_neg c84] at hf
    refine lv_iconst (v := (0:Int32)) hx hb dL_law_636 (by decide) ?_
    cases hf
set_option maxHeartbeats 8000000 in
set_option maxRecDepth 100000 in
theorem w_law_658 {p : Program} {l : Launch} (hl0 : l.stackTraces = false) {e : Env} {s : State} {m : MethodId} {below : List Frame} {meth : Method} {c : Code} {b L : Nat} {xs : Nat → Int32} {A : Nat → Prop} (S : Ev p s m #[Value.ref b] meth c cL_law 7 (some .boolean) RL wsL_law) {G : uG} (hK : kK G s) (hA : ∀ q, s.heap.size ≤ q → A q) (hTH : gTH A s s.heap) (hX : va_X b L xs s s.heap) (hbl : b < s.heap.size) (hbA : ¬ A b) (a0 : Nat → Nat) (a1 : Nat → Nat) (a2 : Nat → Nat) (a3 : Nat → Nat) (a4 : Nat → Nat) (a5 : Nat → Nat) (a6 : Nat → Nat) (a7 : Nat → Nat → Nat) (a8 : Nat → Nat) (a9 : Nat → Nat) (a10 : Nat → Nat) (a11 : Nat → Nat) (a12 : Nat → Nat) (a13 : Nat → Nat) (i4 : Int32) (v1 : StV) (v2 : StV) (v3 : RdV) (v5 : StV) (v6 : RdV) (v7 : PaV) (v8 : TxV) (v9 : SlV) (v10 : StV) (v11 : StV) (v12 : MdV) (v13 : OuV) {w9 : LwV} {Q : State → Prop} {c9 s9 : Nat} (hc9 : c9 + 4 ≤ 601024) (hs9 : s9 + 24 ≤ 7293033) (hf : f_law_658 xs L i4 v1 v2 v3 v5 v6 v7 v8 v9 v10 v11 v12 v13 = some w9) {H : Heap} {locs : List Loc} {ls : Array Slot} (hP : gP G [maW a0 (a1 0) (a2 0) (a3 0) (a4 0) (a7 0 0) (a8 0) (a9 0) (a9 1), stW G a1 v1, stW G a2 v2, rdW G a3 v3, scW a4 (a5 0) (a6 0), stW G a5 v5, rdW G a6 v6, paW G a7 v7, txW G a8 v8, slW G a9 (a10 0) (a11 0) v9, stW G a10 v10, stW G a11 v11, mdW G a12 v12, ouW G a13 v13] H) (hD : gD A [maW a0 (a1 0) (a2 0) (a3 0) (a4 0) (a7 0 0) (a8 0) (a9 0) (a9 1), stW G a1 v1, stW G a2 v2, rdW G a3 v3, scW a4 (a5 0) (a6 0), stW G a5 v5, rdW G a6 v6, paW G a7 v7, txW G a8 v8, slW G a9 (a10 0) (a11 0) v9, stW G a10 v10, stW G a11 v11, mdW G a12 v12, ouW G a13 v13]) (hS : va_S A s.heap H locs) (hl : lv_has ls 7 [(0, .ref b), (1, .ref (a0 0)), (2, .ref (a12 0)), (3, .ref (a13 0)), (4, .int i4)]) (K : ∀ (H : Heap) (locs : List Loc) (ls : Array Slot), gP G [maW a0 (a1 0) (a2 0) (a3 0) (a4 0) (a7 0 0) (a8 0) (a9 0) (a9 1), stW G a1 w9.1, stW G a2 w9.2.1, rdW G a3 w9.2.2.1, scW a4 (a5 0) (a6 0), stW G a5 w9.2.2.2.1, rdW G a6 w9.2.2.2.2.1, paW G a7 w9.2.2.2.2.2.1, txW G a8 w9.2.2.2.2.2.2.1, slW G a9 (a10 0) (a11 0) w9.2.2.2.2.2.2.2.1, stW G a10 w9.2.2.2.2.2.2.2.2.1, stW G a11 w9.2.2.2.2.2.2.2.2.2.1, mdW G a12 w9.2.2.2.2.2.2.2.2.2.2.1, ouW G a13 w9.2.2.2.2.2.2.2.2.2.2.2] H → gD A [maW a0 (a1 0) (a2 0) (a3 0) (a4 0) (a7 0 0) (a8 0) (a9 0) (a9 1), stW G a1 w9.1, stW G a2 w9.2.1, rdW G a3 w9.2.2.1, scW a4 (a5 0) (a6 0), stW G a5 w9.2.2.2.1, rdW G a6 w9.2.2.2.2.1, paW G a7 w9.2.2.2.2.2.1, txW G a8 w9.2.2.2.2.2.2.1, slW G a9 (a10 0) (a11 0) w9.2.2.2.2.2.2.2.1, stW G a10 w9.2.2.2.2.2.2.2.2.1, stW G a11 w9.2.2.2.2.2.2.2.2.2.1, mdW G a12 w9.2.2.2.2.2.2.2.2.2.2.1, ouW G a13 w9.2.2.2.2.2.2.2.2.2.2.2] → va_S A s.heap H locs → lv_has ls 7 [(0, .ref b), (1, .ref (a0 0)), (2, .ref (a12 0)), (3, .ref (a13 0)), (4, .int i4)] → W p l e room_1 s m #[Value.ref b] below meth c H locs (c9 + 4) (s9 + 24) Q (F0 m 1796 ls [])) : W p l e room_1 s m #[Value.ref b] below meth c H locs (c9) (s9) Q (F0 m 658 ls []) := by
  obtain ⟨hx, hb, hml, hown, hts, hr, hlocks⟩ := id S
  unfold f_law_658 at hf
  refine lv_aload_n hx hb dL_law_658 rfl (lv_at hl 1 rfl) ?_
  refine lv_aload_n hx hb dL_law_659 rfl (lv_at hl 0 rfl) ?_
  refine lv_iload hx hb dL_law_660 (lv_at hl 4 rfl) ?_
  refine lv_iconst (v := (1:Int32)) hx hb dL_law_662 (by decide) ?_
  refine lv_iadd hx hb dL_law_663 ?_
  obtain ⟨h89, hf⟩ := gi_some hf
  refine va_sld hx hb hX hbl hbA hS h89 dL_law_664 ?_
  refine lv_aload_n hx hb dL_law_665 rfl (lv_at hl 3 rfl) ?_
  obtain ⟨q90, hq90, hf⟩ := bd_some hf
  refine g_callHi S (As := [.ref (a0 0), .int (xs (i4 + (1:Int32)).toNatClampNeg), .ref (a13 0)]) (gs' := [maW a0 (a1 0) (a2 0) (a3 0) (a4 0) (a7 0 0) (a8 0) (a9 0) (a9 1), stW G a1 q90.2.1, stW G a2 v2, rdW G a3 v3, scW a4 (a5 0) (a6 0), stW G a5 v5, rdW G a6 v6, paW G a7 q90.2.2.1, txW G a8 v8, slW G a9 (a10 0) (a11 0) v9, stW G a10 v10, stW G a11 v11, mdW G a12 v12, ouW G a13 q90.2.2.2]) (c_L_setContribution l hl0 G a0 a1 a2 a3 a4 a5 a6 a7 a8 a9 a10 a11 a13 v1 v7 v13 (xs (i4 + (1:Int32)).toNatClampNeg) hq90) (vx_cwSW 3 hts gL_law_L_setContribution rfl rfl rfl hd_L_setContribution.2 ⟨(Nat.le_of_ble_eq_true rfl), (Nat.le_of_ble_eq_true rfl)⟩) hTH hK hP hD hS hA (is := [0, 1, 7, 13]) rfl rfl rfl hl.1 rfl (Nat.le_of_ble_eq_true rfl) dL_law_666 ⟨by show c9 + 1 ≤ 601024; omega, by show s9 + 6 ≤ 7293033; omega⟩ rfl (fun H locs hP hD hS => ?_)
  refine lv_istore (lv' := [(5, .int q90.1), (0, .ref b), (1, .ref (a0 0)), (2, .ref (a12 0)), (3, .ref (a13 0)), (4, .int i4)]) hx hb dL_law_669 hl (by decide) rfl (fun ls hl => ?_)
  refine lv_aload_n hx hb dL_law_671 rfl (lv_at hl 3 rfl) ?_
  refine lv_aload_n hx hb dL_law_672 rfl (lv_at hl 1 rfl) ?_
  refine lv_iload hx hb dL_law_673 (lv_at hl 5 rfl) ?_
  refine lv_iconst (v := (1:Int32)) hx hb dL_law_675 (by decide) ?_
  refine lv_iadd hx hb dL_law_676 ?_
  obtain ⟨h91, hf⟩ := gi_some hf
  refine va_sld hx hb hX hbl hbA hS h91 dL_law_677 ?_
  obtain ⟨q92, hq92, hf⟩ := bd_some hf
  refine g_callVi S (As := [.int (xs (i4 + (1:Int32)).toNatClampNeg)]) (gs' := [maW a0 (a1 0) (a2 0) (a3 0) (a4 0) (a7 0 0) (a8 0) (a9 0) (a9 1), stW G a1 q90.2.1, stW G a2 v2, rdW G a3 v3, scW a4 (a5 0) (a6 0), stW G a5 v5, rdW G a6 v6, paW G a7 q90.2.2.1, txW G a8 v8, slW G a9 (a10 0) (a11 0) v9, stW G a10 v10, stW G a11 v11, mdW G a12 q92.2, ouW G a13 q90.2.2.2]) (c_X6_setContribution l G a12 v12 (xs (i4 + (1:Int32)).toNatClampNeg) hq92) (cwV 1 hts gL_law_X6_setContribution rfl rfl rfl hd_X6_setContribution ⟨Nat.le_of_ble_eq_true rfl, Nat.le_of_ble_eq_true rfl⟩) hK hP hD hS hA (is := [12]) rfl rfl 12 rfl rfl rfl rfl hl.1 rfl (Nat.le_of_ble_eq_true rfl) dL_law_678 ⟨by show c9 + 1 + 0 ≤ 601024; omega, by show s9 + 6 + 0 ≤ 7293033; omega⟩ rfl (fun H locs hP hD hS => ?_)
  refine lv_istore (lv' := [(6, .int q92.1), (5, .int q90.1), (0, .ref b), (1, .ref (a0 0)), (2, .ref (a12 0)), (3, .ref (a13 0)), (4, .int i4)]) hx hb dL_law_681 hl (by decide) rfl (fun ls hl => ?_)
  refine lv_aload_n hx hb dL_law_683 rfl (lv_at hl 4 rfl) ?_
  obtain ⟨q93, hq93, hf⟩ := bd_some hf
  refine g_callVi S (As := []) (gs' := [maW a0 (a1 0) (a2 0) (a3 0) (a4 0) (a7 0 0) (a8 0) (a9 0) (a9 1), stW G a1 q90.2.1, stW G a2 v2, rdW G a3 v3, scW a4 (a5 0) (a6 0), stW G a5 v5, rdW G a6 v6, paW G a7 q90.2.2.1, txW G a8 v8, slW G a9 (a10 0) (a11 0) v9, stW G a10 v10, stW G a11 v11, mdW G a12 q92.2, ouW G a13 q90.2.2.2]) (c_X6_thrown l G a12 q92.2 hq93) (cwV 0 hts gL_law_X6_thrown rfl rfl rfl hd_X6_thrown ⟨Nat.le_of_ble_eq_true rfl, Nat.le_of_ble_eq_true rfl⟩) hK hP hD hS hA (is := [12]) rfl rfl 12 rfl rfl rfl rfl hl.1 rfl (Nat.le_of_ble_eq_true rfl) dL_law_684 ⟨by show c9 + 1 + 0 ≤ 601024; omega, by show s9 + 6 + 0 ≤ 7293033; omega⟩ rfl (fun H locs hP hD hS => ?_)
  refine lv_iload hx hb dL_law_687 (lv_at hl 1 rfl) ?_
  refine lv_icmp_eq (tgt := 694) hx hb dL_law_689 (by decide) (fun c94 => ?_) (fun c94 => ?_)
  · rw [if_pos c94] at hf
    refine lv_iload hx hb dL_law_694 (lv_at hl 1 rfl) ?_
    refine lv_if_ne (tgt := 711) hx hb dL_law_696 (by decide) (fun c95 => ?_) (fun c95 => ?_)
    · rw [if_neg c95] at hf
      refine lv_goto (tgt := 1796) hx hb dL_law_711 (by decide) ?_
      cases hf
      refine W.widen (k := c9 + 4) (n := s9 + 24) (by omega) (by omega) ?_
      exact K H locs ls hP hD hS (lv_sub hl [2, 3, 4, 5, 6] rfl)
    · rw [if_pos c95] at hf
      refine lv_aload_n hx hb dL_law_699 rfl (lv_at hl 5 rfl) ?_
      refine lv_iconst (v := (0:Int32)) hx hb dL_law_700 (by decide) ?_
      obtain ⟨h96, hf⟩ := gi_some hf
      refine g_lald hx hb hK hP 13 0 3 rfl rfl rfl h96 dL_law_701 ?_
      refine lv_iload hx hb dL_law_702 (lv_at hl 0 rfl) ?_
      refine lv_i2l (v := q92.1.toInt64) hx hb dL_law_704 rfl ?_
      refine W.lcmp hx hb dL_law_705 ?_
      obtain ⟨x97, ex97, hf⟩ := lt_some hf
      refine lv_nmi ex97 ?_
      refine lv_if_eq (tgt := 711) hx hb dL_law_706 (by decide) (fun c98 => ?_) (fun c98 => ?_)
      · rw [if_pos c98] at hf
        refine lv_goto (tgt := 1796) hx hb dL_law_711 (by decide) ?_
        cases hf
        refine W.widen (k := c9 + 4) (n := s9 + 24) (by omega) (by omega) ?_
        exact K H locs ls hP hD hS (lv_sub hl [2, 3, 4, 5, 6] rfl)
      · rw [if_neg c98] at hf
        refine lv_iconst (v := (0:Int32)) hx hb dL_law_709 (by decide) ?_
        cases hf
  · rw [if_neg c94] at hf
    refine lv_iconst (v := (0:Int32)) hx hb dL_law_692 (by decide) ?_
    cases hf
set_option maxHeartbeats 8000000 in
set_option maxRecDepth 100000 in
theorem w_law_714 {p : Program} {l : Launch} (hl0 : l.stackTraces = false) {e : Env} {s : State} {m : MethodId} {below : List Frame} {meth : Method} {c : Code} {b L : Nat} {xs : Nat → Int32} {A : Nat → Prop} (S : Ev p s m #[Value.ref b] meth c cL_law 7 (some .boolean) RL wsL_law) {G : uG} (hK : kK G s) (hA : ∀ q, s.heap.size ≤ q → A q) (hTH : gTH A s s.heap) (hX : va_X b L xs s s.heap) (hbl : b < s.heap.size) (hbA : ¬ A b) (a0 : Nat → Nat) (a1 : Nat → Nat) (a2 : Nat → Nat) (a3 : Nat → Nat) (a4 : Nat → Nat) (a5 : Nat → Nat) (a6 : Nat → Nat) (a7 : Nat → Nat → Nat) (a8 : Nat → Nat) (a9 : Nat → Nat) (a10 : Nat → Nat) (a11 : Nat → Nat) (a12 : Nat → Nat) (a13 : Nat → Nat) (i4 : Int32) (v1 : StV) (v2 : StV) (v3 : RdV) (v5 : StV) (v6 : RdV) (v7 : PaV) (v8 : TxV) (v9 : SlV) (v10 : StV) (v11 : StV) (v12 : MdV) (v13 : OuV) {w9 : LwV} {Q : State → Prop} {c9 s9 : Nat} (hc9 : c9 + 4 ≤ 601024) (hs9 : s9 + 24 ≤ 7293033) (hf : f_law_714 xs L i4 v1 v2 v3 v5 v6 v7 v8 v9 v10 v11 v12 v13 = some w9) {H : Heap} {locs : List Loc} {ls : Array Slot} (hP : gP G [maW a0 (a1 0) (a2 0) (a3 0) (a4 0) (a7 0 0) (a8 0) (a9 0) (a9 1), stW G a1 v1, stW G a2 v2, rdW G a3 v3, scW a4 (a5 0) (a6 0), stW G a5 v5, rdW G a6 v6, paW G a7 v7, txW G a8 v8, slW G a9 (a10 0) (a11 0) v9, stW G a10 v10, stW G a11 v11, mdW G a12 v12, ouW G a13 v13] H) (hD : gD A [maW a0 (a1 0) (a2 0) (a3 0) (a4 0) (a7 0 0) (a8 0) (a9 0) (a9 1), stW G a1 v1, stW G a2 v2, rdW G a3 v3, scW a4 (a5 0) (a6 0), stW G a5 v5, rdW G a6 v6, paW G a7 v7, txW G a8 v8, slW G a9 (a10 0) (a11 0) v9, stW G a10 v10, stW G a11 v11, mdW G a12 v12, ouW G a13 v13]) (hS : va_S A s.heap H locs) (hl : lv_has ls 7 [(0, .ref b), (1, .ref (a0 0)), (2, .ref (a12 0)), (3, .ref (a13 0)), (4, .int i4)]) (K : ∀ (H : Heap) (locs : List Loc) (ls : Array Slot), gP G [maW a0 (a1 0) (a2 0) (a3 0) (a4 0) (a7 0 0) (a8 0) (a9 0) (a9 1), stW G a1 w9.1, stW G a2 w9.2.1, rdW G a3 w9.2.2.1, scW a4 (a5 0) (a6 0), stW G a5 w9.2.2.2.1, rdW G a6 w9.2.2.2.2.1, paW G a7 w9.2.2.2.2.2.1, txW G a8 w9.2.2.2.2.2.2.1, slW G a9 (a10 0) (a11 0) w9.2.2.2.2.2.2.2.1, stW G a10 w9.2.2.2.2.2.2.2.2.1, stW G a11 w9.2.2.2.2.2.2.2.2.2.1, mdW G a12 w9.2.2.2.2.2.2.2.2.2.2.1, ouW G a13 w9.2.2.2.2.2.2.2.2.2.2.2] H → gD A [maW a0 (a1 0) (a2 0) (a3 0) (a4 0) (a7 0 0) (a8 0) (a9 0) (a9 1), stW G a1 w9.1, stW G a2 w9.2.1, rdW G a3 w9.2.2.1, scW a4 (a5 0) (a6 0), stW G a5 w9.2.2.2.1, rdW G a6 w9.2.2.2.2.1, paW G a7 w9.2.2.2.2.2.1, txW G a8 w9.2.2.2.2.2.2.1, slW G a9 (a10 0) (a11 0) w9.2.2.2.2.2.2.2.1, stW G a10 w9.2.2.2.2.2.2.2.2.1, stW G a11 w9.2.2.2.2.2.2.2.2.2.1, mdW G a12 w9.2.2.2.2.2.2.2.2.2.2.1, ouW G a13 w9.2.2.2.2.2.2.2.2.2.2.2] → va_S A s.heap H locs → lv_has ls 7 [(0, .ref b), (1, .ref (a0 0)), (2, .ref (a12 0)), (3, .ref (a13 0)), (4, .int i4)] → W p l e room_1 s m #[Value.ref b] below meth c H locs (c9 + 4) (s9 + 24) Q (F0 m 1796 ls [])) : W p l e room_1 s m #[Value.ref b] below meth c H locs (c9) (s9) Q (F0 m 714 ls []) := by
  obtain ⟨hx, hb, hml, hown, hts, hr, hlocks⟩ := id S
  unfold f_law_714 at hf
  refine lv_aload_n hx hb dL_law_714 rfl (lv_at hl 1 rfl) ?_
  refine lv_aload_n hx hb dL_law_715 rfl (lv_at hl 0 rfl) ?_
  refine lv_iload hx hb dL_law_716 (lv_at hl 4 rfl) ?_
  refine lv_iconst (v := (1:Int32)) hx hb dL_law_718 (by decide) ?_
  refine lv_iadd hx hb dL_law_719 ?_
  obtain ⟨h99, hf⟩ := gi_some hf
  refine va_sld hx hb hX hbl hbA hS h99 dL_law_720 ?_
  refine lv_aload_n hx hb dL_law_721 rfl (lv_at hl 0 rfl) ?_
  refine lv_iload hx hb dL_law_722 (lv_at hl 4 rfl) ?_
  refine lv_iconst (v := (2:Int32)) hx hb dL_law_724 (by decide) ?_
  refine lv_iadd hx hb dL_law_725 ?_
  obtain ⟨h100, hf⟩ := gi_some hf
  refine va_sld hx hb hX hbl hbA hS h100 dL_law_726 ?_
  refine lv_aload_n hx hb dL_law_727 rfl (lv_at hl 3 rfl) ?_
  obtain ⟨q101, hq101, hf⟩ := bd_some hf
  refine g_callHi S (As := [.ref (a0 0), .int (xs (i4 + (1:Int32)).toNatClampNeg), .int (xs (i4 + (2:Int32)).toNatClampNeg), .ref (a13 0)]) (gs' := [maW a0 (a1 0) (a2 0) (a3 0) (a4 0) (a7 0 0) (a8 0) (a9 0) (a9 1), stW G a1 q101.2.1, stW G a2 v2, rdW G a3 v3, scW a4 (a5 0) (a6 0), stW G a5 v5, rdW G a6 v6, paW G a7 q101.2.2.1, txW G a8 v8, slW G a9 (a10 0) (a11 0) v9, stW G a10 v10, stW G a11 v11, mdW G a12 v12, ouW G a13 q101.2.2.2]) (c_L_setGuarantor l hl0 G a0 a1 a2 a3 a4 a5 a6 a7 a8 a9 a10 a11 a13 v1 v7 v13 (xs (i4 + (1:Int32)).toNatClampNeg) (xs (i4 + (2:Int32)).toNatClampNeg) hq101) (vx_cwSW 4 hts gL_law_L_setGuarantor rfl rfl rfl hd_L_setGuarantor.2 ⟨(Nat.le_of_ble_eq_true rfl), (Nat.le_of_ble_eq_true rfl)⟩) hTH hK hP hD hS hA (is := [0, 1, 7, 13]) rfl rfl rfl hl.1 rfl (Nat.le_of_ble_eq_true rfl) dL_law_728 ⟨by show c9 + 4 ≤ 601024; omega, by show s9 + 24 ≤ 7293033; omega⟩ rfl (fun H locs hP hD hS => ?_)
  refine lv_istore (lv' := [(5, .int q101.1), (0, .ref b), (1, .ref (a0 0)), (2, .ref (a12 0)), (3, .ref (a13 0)), (4, .int i4)]) hx hb dL_law_731 hl (by decide) rfl (fun ls hl => ?_)
  refine lv_aload_n hx hb dL_law_733 rfl (lv_at hl 3 rfl) ?_
  refine lv_aload_n hx hb dL_law_734 rfl (lv_at hl 1 rfl) ?_
  refine lv_iload hx hb dL_law_735 (lv_at hl 5 rfl) ?_
  refine lv_iconst (v := (1:Int32)) hx hb dL_law_737 (by decide) ?_
  refine lv_iadd hx hb dL_law_738 ?_
  obtain ⟨h102, hf⟩ := gi_some hf
  refine va_sld hx hb hX hbl hbA hS h102 dL_law_739 ?_
  refine lv_aload_n hx hb dL_law_740 rfl (lv_at hl 1 rfl) ?_
  refine lv_iload hx hb dL_law_741 (lv_at hl 5 rfl) ?_
  refine lv_iconst (v := (2:Int32)) hx hb dL_law_743 (by decide) ?_
  refine lv_iadd hx hb dL_law_744 ?_
  obtain ⟨h103, hf⟩ := gi_some hf
  refine va_sld hx hb hX hbl hbA hS h103 dL_law_745 ?_
  obtain ⟨q104, hq104, hf⟩ := bd_some hf
  refine g_callVi S (As := [.int (xs (i4 + (1:Int32)).toNatClampNeg), .int (xs (i4 + (2:Int32)).toNatClampNeg)]) (gs' := [maW a0 (a1 0) (a2 0) (a3 0) (a4 0) (a7 0 0) (a8 0) (a9 0) (a9 1), stW G a1 q101.2.1, stW G a2 v2, rdW G a3 v3, scW a4 (a5 0) (a6 0), stW G a5 v5, rdW G a6 v6, paW G a7 q101.2.2.1, txW G a8 v8, slW G a9 (a10 0) (a11 0) v9, stW G a10 v10, stW G a11 v11, mdW G a12 q104.2, ouW G a13 q101.2.2.2]) (c_X6_setGuarantor l G a12 v12 (xs (i4 + (1:Int32)).toNatClampNeg) (xs (i4 + (2:Int32)).toNatClampNeg) hq104) (cwV 2 hts gL_law_X6_setGuarantor rfl rfl rfl hd_X6_setGuarantor ⟨Nat.le_of_ble_eq_true rfl, Nat.le_of_ble_eq_true rfl⟩) hK hP hD hS hA (is := [12]) rfl rfl 12 rfl rfl rfl rfl hl.1 rfl (Nat.le_of_ble_eq_true rfl) dL_law_746 ⟨by show c9 + 4 + 0 ≤ 601024; omega, by show s9 + 24 + 0 ≤ 7293033; omega⟩ rfl (fun H locs hP hD hS => ?_)
  refine lv_istore (lv' := [(6, .int q104.1), (5, .int q101.1), (0, .ref b), (1, .ref (a0 0)), (2, .ref (a12 0)), (3, .ref (a13 0)), (4, .int i4)]) hx hb dL_law_749 hl (by decide) rfl (fun ls hl => ?_)
  refine lv_aload_n hx hb dL_law_751 rfl (lv_at hl 4 rfl) ?_
  obtain ⟨q105, hq105, hf⟩ := bd_some hf
  refine g_callVi S (As := []) (gs' := [maW a0 (a1 0) (a2 0) (a3 0) (a4 0) (a7 0 0) (a8 0) (a9 0) (a9 1), stW G a1 q101.2.1, stW G a2 v2, rdW G a3 v3, scW a4 (a5 0) (a6 0), stW G a5 v5, rdW G a6 v6, paW G a7 q101.2.2.1, txW G a8 v8, slW G a9 (a10 0) (a11 0) v9, stW G a10 v10, stW G a11 v11, mdW G a12 q104.2, ouW G a13 q101.2.2.2]) (c_X6_thrown l G a12 q104.2 hq105) (cwV 0 hts gL_law_X6_thrown rfl rfl rfl hd_X6_thrown ⟨Nat.le_of_ble_eq_true rfl, Nat.le_of_ble_eq_true rfl⟩) hK hP hD hS hA (is := [12]) rfl rfl 12 rfl rfl rfl rfl hl.1 rfl (Nat.le_of_ble_eq_true rfl) dL_law_752 ⟨by show c9 + 4 + 0 ≤ 601024; omega, by show s9 + 24 + 0 ≤ 7293033; omega⟩ rfl (fun H locs hP hD hS => ?_)
  refine lv_iload hx hb dL_law_755 (lv_at hl 1 rfl) ?_
  refine lv_icmp_eq (tgt := 762) hx hb dL_law_757 (by decide) (fun c106 => ?_) (fun c106 => ?_)
  · rw [if_pos c106] at hf
    refine lv_iload hx hb dL_law_762 (lv_at hl 1 rfl) ?_
    refine lv_if_ne (tgt := 779) hx hb dL_law_764 (by decide) (fun c107 => ?_) (fun c107 => ?_)
    · rw [if_neg c107] at hf
      refine lv_goto (tgt := 1796) hx hb dL_law_779 (by decide) ?_
      cases hf
      refine W.widen (k := c9 + 4) (n := s9 + 24) (by omega) (by omega) ?_
      exact K H locs ls hP hD hS (lv_sub hl [2, 3, 4, 5, 6] rfl)
    · rw [if_pos c107] at hf
      refine lv_aload_n hx hb dL_law_767 rfl (lv_at hl 5 rfl) ?_
      refine lv_iconst (v := (0:Int32)) hx hb dL_law_768 (by decide) ?_
      obtain ⟨h108, hf⟩ := gi_some hf
      refine g_lald hx hb hK hP 13 0 3 rfl rfl rfl h108 dL_law_769 ?_
      refine lv_iload hx hb dL_law_770 (lv_at hl 0 rfl) ?_
      refine lv_i2l (v := q104.1.toInt64) hx hb dL_law_772 rfl ?_
      refine W.lcmp hx hb dL_law_773 ?_
      obtain ⟨x109, ex109, hf⟩ := lt_some hf
      refine lv_nmi ex109 ?_
      refine lv_if_eq (tgt := 779) hx hb dL_law_774 (by decide) (fun c110 => ?_) (fun c110 => ?_)
      · rw [if_pos c110] at hf
        refine lv_goto (tgt := 1796) hx hb dL_law_779 (by decide) ?_
        cases hf
        refine W.widen (k := c9 + 4) (n := s9 + 24) (by omega) (by omega) ?_
        exact K H locs ls hP hD hS (lv_sub hl [2, 3, 4, 5, 6] rfl)
      · rw [if_neg c110] at hf
        refine lv_iconst (v := (0:Int32)) hx hb dL_law_777 (by decide) ?_
        cases hf
  · rw [if_neg c106] at hf
    refine lv_iconst (v := (0:Int32)) hx hb dL_law_760 (by decide) ?_
    cases hf
set_option maxHeartbeats 8000000 in
set_option maxRecDepth 100000 in
theorem w_law_782 {p : Program} {l : Launch} (hl0 : l.stackTraces = false) {e : Env} {s : State} {m : MethodId} {below : List Frame} {meth : Method} {c : Code} {b L : Nat} {xs : Nat → Int32} {A : Nat → Prop} (S : Ev p s m #[Value.ref b] meth c cL_law 7 (some .boolean) RL wsL_law) {G : uG} (hK : kK G s) (hA : ∀ q, s.heap.size ≤ q → A q) (hTH : gTH A s s.heap) (hX : va_X b L xs s s.heap) (hbl : b < s.heap.size) (hbA : ¬ A b) (a0 : Nat → Nat) (a1 : Nat → Nat) (a2 : Nat → Nat) (a3 : Nat → Nat) (a4 : Nat → Nat) (a5 : Nat → Nat) (a6 : Nat → Nat) (a7 : Nat → Nat → Nat) (a8 : Nat → Nat) (a9 : Nat → Nat) (a10 : Nat → Nat) (a11 : Nat → Nat) (a12 : Nat → Nat) (a13 : Nat → Nat) (i4 : Int32) (v1 : StV) (v2 : StV) (v3 : RdV) (v5 : StV) (v6 : RdV) (v7 : PaV) (v8 : TxV) (v9 : SlV) (v10 : StV) (v11 : StV) (v12 : MdV) (v13 : OuV) {w9 : LwV} {Q : State → Prop} {c9 s9 : Nat} (hc9 : c9 + 4 ≤ 601024) (hs9 : s9 + 24 ≤ 7293033) (hf : f_law_782 xs L i4 v1 v2 v3 v5 v6 v7 v8 v9 v10 v11 v12 v13 = some w9) {H : Heap} {locs : List Loc} {ls : Array Slot} (hP : gP G [maW a0 (a1 0) (a2 0) (a3 0) (a4 0) (a7 0 0) (a8 0) (a9 0) (a9 1), stW G a1 v1, stW G a2 v2, rdW G a3 v3, scW a4 (a5 0) (a6 0), stW G a5 v5, rdW G a6 v6, paW G a7 v7, txW G a8 v8, slW G a9 (a10 0) (a11 0) v9, stW G a10 v10, stW G a11 v11, mdW G a12 v12, ouW G a13 v13] H) (hD : gD A [maW a0 (a1 0) (a2 0) (a3 0) (a4 0) (a7 0 0) (a8 0) (a9 0) (a9 1), stW G a1 v1, stW G a2 v2, rdW G a3 v3, scW a4 (a5 0) (a6 0), stW G a5 v5, rdW G a6 v6, paW G a7 v7, txW G a8 v8, slW G a9 (a10 0) (a11 0) v9, stW G a10 v10, stW G a11 v11, mdW G a12 v12, ouW G a13 v13]) (hS : va_S A s.heap H locs) (hl : lv_has ls 7 [(0, .ref b), (1, .ref (a0 0)), (2, .ref (a12 0)), (3, .ref (a13 0)), (4, .int i4)]) (K : ∀ (H : Heap) (locs : List Loc) (ls : Array Slot), gP G [maW a0 (a1 0) (a2 0) (a3 0) (a4 0) (a7 0 0) (a8 0) (a9 0) (a9 1), stW G a1 w9.1, stW G a2 w9.2.1, rdW G a3 w9.2.2.1, scW a4 (a5 0) (a6 0), stW G a5 w9.2.2.2.1, rdW G a6 w9.2.2.2.2.1, paW G a7 w9.2.2.2.2.2.1, txW G a8 w9.2.2.2.2.2.2.1, slW G a9 (a10 0) (a11 0) w9.2.2.2.2.2.2.2.1, stW G a10 w9.2.2.2.2.2.2.2.2.1, stW G a11 w9.2.2.2.2.2.2.2.2.2.1, mdW G a12 w9.2.2.2.2.2.2.2.2.2.2.1, ouW G a13 w9.2.2.2.2.2.2.2.2.2.2.2] H → gD A [maW a0 (a1 0) (a2 0) (a3 0) (a4 0) (a7 0 0) (a8 0) (a9 0) (a9 1), stW G a1 w9.1, stW G a2 w9.2.1, rdW G a3 w9.2.2.1, scW a4 (a5 0) (a6 0), stW G a5 w9.2.2.2.1, rdW G a6 w9.2.2.2.2.1, paW G a7 w9.2.2.2.2.2.1, txW G a8 w9.2.2.2.2.2.2.1, slW G a9 (a10 0) (a11 0) w9.2.2.2.2.2.2.2.1, stW G a10 w9.2.2.2.2.2.2.2.2.1, stW G a11 w9.2.2.2.2.2.2.2.2.2.1, mdW G a12 w9.2.2.2.2.2.2.2.2.2.2.1, ouW G a13 w9.2.2.2.2.2.2.2.2.2.2.2] → va_S A s.heap H locs → lv_has ls 7 [(0, .ref b), (1, .ref (a0 0)), (2, .ref (a12 0)), (3, .ref (a13 0)), (4, .int i4)] → W p l e room_1 s m #[Value.ref b] below meth c H locs (c9 + 4) (s9 + 24) Q (F0 m 1796 ls [])) : W p l e room_1 s m #[Value.ref b] below meth c H locs (c9) (s9) Q (F0 m 782 ls []) := by
  obtain ⟨hx, hb, hml, hown, hts, hr, hlocks⟩ := id S
  unfold f_law_782 at hf
  refine lv_aload_n hx hb dL_law_782 rfl (lv_at hl 1 rfl) ?_
  refine lv_aload_n hx hb dL_law_783 rfl (lv_at hl 0 rfl) ?_
  refine lv_iload hx hb dL_law_784 (lv_at hl 4 rfl) ?_
  refine lv_iconst (v := (1:Int32)) hx hb dL_law_786 (by decide) ?_
  refine lv_iadd hx hb dL_law_787 ?_
  obtain ⟨h111, hf⟩ := gi_some hf
  refine va_sld hx hb hX hbl hbA hS h111 dL_law_788 ?_
  refine lv_aload_n hx hb dL_law_789 rfl (lv_at hl 0 rfl) ?_
  refine lv_iload hx hb dL_law_790 (lv_at hl 4 rfl) ?_
  refine lv_iconst (v := (2:Int32)) hx hb dL_law_792 (by decide) ?_
  refine lv_iadd hx hb dL_law_793 ?_
  obtain ⟨h112, hf⟩ := gi_some hf
  refine va_sld hx hb hX hbl hbA hS h112 dL_law_794 ?_
  refine lv_aload_n hx hb dL_law_795 rfl (lv_at hl 3 rfl) ?_
  obtain ⟨q113, hq113, hf⟩ := bd_some hf
  refine g_callHi S (As := [.ref (a0 0), .int (xs (i4 + (1:Int32)).toNatClampNeg), .int (xs (i4 + (2:Int32)).toNatClampNeg), .ref (a13 0)]) (gs' := [maW a0 (a1 0) (a2 0) (a3 0) (a4 0) (a7 0 0) (a8 0) (a9 0) (a9 1), stW G a1 q113.2.1, stW G a2 v2, rdW G a3 v3, scW a4 (a5 0) (a6 0), stW G a5 v5, rdW G a6 v6, paW G a7 q113.2.2.1, txW G a8 v8, slW G a9 (a10 0) (a11 0) v9, stW G a10 v10, stW G a11 v11, mdW G a12 v12, ouW G a13 q113.2.2.2]) (c_L_bid l hl0 G a0 a1 a2 a3 a4 a5 a6 a7 a8 a9 a10 a11 a13 v1 v7 v13 (xs (i4 + (1:Int32)).toNatClampNeg) (xs (i4 + (2:Int32)).toNatClampNeg) hq113) (vx_cwSW 4 hts gL_law_L_bid rfl rfl rfl hd_L_bid.2 ⟨(Nat.le_of_ble_eq_true rfl), (Nat.le_of_ble_eq_true rfl)⟩) hTH hK hP hD hS hA (is := [0, 1, 7, 13]) rfl rfl rfl hl.1 rfl (Nat.le_of_ble_eq_true rfl) dL_law_796 ⟨by show c9 + 3 ≤ 601024; omega, by show s9 + 18 ≤ 7293033; omega⟩ rfl (fun H locs hP hD hS => ?_)
  refine lv_istore (lv' := [(5, .int q113.1), (0, .ref b), (1, .ref (a0 0)), (2, .ref (a12 0)), (3, .ref (a13 0)), (4, .int i4)]) hx hb dL_law_799 hl (by decide) rfl (fun ls hl => ?_)
  refine lv_aload_n hx hb dL_law_801 rfl (lv_at hl 3 rfl) ?_
  refine lv_aload_n hx hb dL_law_802 rfl (lv_at hl 1 rfl) ?_
  refine lv_iload hx hb dL_law_803 (lv_at hl 5 rfl) ?_
  refine lv_iconst (v := (1:Int32)) hx hb dL_law_805 (by decide) ?_
  refine lv_iadd hx hb dL_law_806 ?_
  obtain ⟨h114, hf⟩ := gi_some hf
  refine va_sld hx hb hX hbl hbA hS h114 dL_law_807 ?_
  refine lv_aload_n hx hb dL_law_808 rfl (lv_at hl 1 rfl) ?_
  refine lv_iload hx hb dL_law_809 (lv_at hl 5 rfl) ?_
  refine lv_iconst (v := (2:Int32)) hx hb dL_law_811 (by decide) ?_
  refine lv_iadd hx hb dL_law_812 ?_
  obtain ⟨h115, hf⟩ := gi_some hf
  refine va_sld hx hb hX hbl hbA hS h115 dL_law_813 ?_
  obtain ⟨q116, hq116, hf⟩ := bd_some hf
  refine g_callVi S (As := [.int (xs (i4 + (1:Int32)).toNatClampNeg), .int (xs (i4 + (2:Int32)).toNatClampNeg)]) (gs' := [maW a0 (a1 0) (a2 0) (a3 0) (a4 0) (a7 0 0) (a8 0) (a9 0) (a9 1), stW G a1 q113.2.1, stW G a2 v2, rdW G a3 v3, scW a4 (a5 0) (a6 0), stW G a5 v5, rdW G a6 v6, paW G a7 q113.2.2.1, txW G a8 v8, slW G a9 (a10 0) (a11 0) v9, stW G a10 v10, stW G a11 v11, mdW G a12 q116.2, ouW G a13 q113.2.2.2]) (c_X6_bid l G a12 v12 (xs (i4 + (1:Int32)).toNatClampNeg) (xs (i4 + (2:Int32)).toNatClampNeg) hq116) (cwV 2 hts gL_law_X6_bid rfl rfl rfl hd_X6_bid ⟨Nat.le_of_ble_eq_true rfl, Nat.le_of_ble_eq_true rfl⟩) hK hP hD hS hA (is := [12]) rfl rfl 12 rfl rfl rfl rfl hl.1 rfl (Nat.le_of_ble_eq_true rfl) dL_law_814 ⟨by show c9 + 3 + 0 ≤ 601024; omega, by show s9 + 18 + 0 ≤ 7293033; omega⟩ rfl (fun H locs hP hD hS => ?_)
  refine lv_istore (lv' := [(6, .int q116.1), (5, .int q113.1), (0, .ref b), (1, .ref (a0 0)), (2, .ref (a12 0)), (3, .ref (a13 0)), (4, .int i4)]) hx hb dL_law_817 hl (by decide) rfl (fun ls hl => ?_)
  refine lv_aload_n hx hb dL_law_819 rfl (lv_at hl 4 rfl) ?_
  obtain ⟨q117, hq117, hf⟩ := bd_some hf
  refine g_callVi S (As := []) (gs' := [maW a0 (a1 0) (a2 0) (a3 0) (a4 0) (a7 0 0) (a8 0) (a9 0) (a9 1), stW G a1 q113.2.1, stW G a2 v2, rdW G a3 v3, scW a4 (a5 0) (a6 0), stW G a5 v5, rdW G a6 v6, paW G a7 q113.2.2.1, txW G a8 v8, slW G a9 (a10 0) (a11 0) v9, stW G a10 v10, stW G a11 v11, mdW G a12 q116.2, ouW G a13 q113.2.2.2]) (c_X6_thrown l G a12 q116.2 hq117) (cwV 0 hts gL_law_X6_thrown rfl rfl rfl hd_X6_thrown ⟨Nat.le_of_ble_eq_true rfl, Nat.le_of_ble_eq_true rfl⟩) hK hP hD hS hA (is := [12]) rfl rfl 12 rfl rfl rfl rfl hl.1 rfl (Nat.le_of_ble_eq_true rfl) dL_law_820 ⟨by show c9 + 3 + 0 ≤ 601024; omega, by show s9 + 18 + 0 ≤ 7293033; omega⟩ rfl (fun H locs hP hD hS => ?_)
  refine lv_iload hx hb dL_law_823 (lv_at hl 1 rfl) ?_
  refine lv_icmp_eq (tgt := 830) hx hb dL_law_825 (by decide) (fun c118 => ?_) (fun c118 => ?_)
  · rw [if_pos c118] at hf
    refine lv_iload hx hb dL_law_830 (lv_at hl 1 rfl) ?_
    refine lv_if_ne (tgt := 847) hx hb dL_law_832 (by decide) (fun c119 => ?_) (fun c119 => ?_)
    · rw [if_neg c119] at hf
      refine lv_goto (tgt := 1796) hx hb dL_law_847 (by decide) ?_
      cases hf
      refine W.widen (k := c9 + 4) (n := s9 + 24) (by omega) (by omega) ?_
      exact K H locs ls hP hD hS (lv_sub hl [2, 3, 4, 5, 6] rfl)
    · rw [if_pos c119] at hf
      refine lv_aload_n hx hb dL_law_835 rfl (lv_at hl 5 rfl) ?_
      refine lv_iconst (v := (0:Int32)) hx hb dL_law_836 (by decide) ?_
      obtain ⟨h120, hf⟩ := gi_some hf
      refine g_lald hx hb hK hP 13 0 3 rfl rfl rfl h120 dL_law_837 ?_
      refine lv_iload hx hb dL_law_838 (lv_at hl 0 rfl) ?_
      refine lv_i2l (v := q116.1.toInt64) hx hb dL_law_840 rfl ?_
      refine W.lcmp hx hb dL_law_841 ?_
      obtain ⟨x121, ex121, hf⟩ := lt_some hf
      refine lv_nmi ex121 ?_
      refine lv_if_eq (tgt := 847) hx hb dL_law_842 (by decide) (fun c122 => ?_) (fun c122 => ?_)
      · rw [if_pos c122] at hf
        refine lv_goto (tgt := 1796) hx hb dL_law_847 (by decide) ?_
        cases hf
        refine W.widen (k := c9 + 4) (n := s9 + 24) (by omega) (by omega) ?_
        exact K H locs ls hP hD hS (lv_sub hl [2, 3, 4, 5, 6] rfl)
      · rw [if_neg c122] at hf
        refine lv_iconst (v := (0:Int32)) hx hb dL_law_845 (by decide) ?_
        cases hf
  · rw [if_neg c118] at hf
    refine lv_iconst (v := (0:Int32)) hx hb dL_law_828 (by decide) ?_
    cases hf
set_option maxHeartbeats 8000000 in
set_option maxRecDepth 100000 in
theorem w_law_850 {p : Program} {l : Launch} (hl0 : l.stackTraces = false) {e : Env} {s : State} {m : MethodId} {below : List Frame} {meth : Method} {c : Code} {b L : Nat} {xs : Nat → Int32} {A : Nat → Prop} (S : Ev p s m #[Value.ref b] meth c cL_law 7 (some .boolean) RL wsL_law) {G : uG} (hK : kK G s) (hA : ∀ q, s.heap.size ≤ q → A q) (hTH : gTH A s s.heap) (hX : va_X b L xs s s.heap) (hbl : b < s.heap.size) (hbA : ¬ A b) (a0 : Nat → Nat) (a1 : Nat → Nat) (a2 : Nat → Nat) (a3 : Nat → Nat) (a4 : Nat → Nat) (a5 : Nat → Nat) (a6 : Nat → Nat) (a7 : Nat → Nat → Nat) (a8 : Nat → Nat) (a9 : Nat → Nat) (a10 : Nat → Nat) (a11 : Nat → Nat) (a12 : Nat → Nat) (a13 : Nat → Nat) (i4 : Int32) (v1 : StV) (v2 : StV) (v3 : RdV) (v5 : StV) (v6 : RdV) (v7 : PaV) (v8 : TxV) (v9 : SlV) (v10 : StV) (v11 : StV) (v12 : MdV) (v13 : OuV) {w9 : LwV} {Q : State → Prop} {c9 s9 : Nat} (hc9 : c9 + 4 ≤ 601024) (hs9 : s9 + 24 ≤ 7293033) (hf : f_law_850 xs L i4 v1 v2 v3 v5 v6 v7 v8 v9 v10 v11 v12 v13 = some w9) {H : Heap} {locs : List Loc} {ls : Array Slot} (hP : gP G [maW a0 (a1 0) (a2 0) (a3 0) (a4 0) (a7 0 0) (a8 0) (a9 0) (a9 1), stW G a1 v1, stW G a2 v2, rdW G a3 v3, scW a4 (a5 0) (a6 0), stW G a5 v5, rdW G a6 v6, paW G a7 v7, txW G a8 v8, slW G a9 (a10 0) (a11 0) v9, stW G a10 v10, stW G a11 v11, mdW G a12 v12, ouW G a13 v13] H) (hD : gD A [maW a0 (a1 0) (a2 0) (a3 0) (a4 0) (a7 0 0) (a8 0) (a9 0) (a9 1), stW G a1 v1, stW G a2 v2, rdW G a3 v3, scW a4 (a5 0) (a6 0), stW G a5 v5, rdW G a6 v6, paW G a7 v7, txW G a8 v8, slW G a9 (a10 0) (a11 0) v9, stW G a10 v10, stW G a11 v11, mdW G a12 v12, ouW G a13 v13]) (hS : va_S A s.heap H locs) (hl : lv_has ls 7 [(0, .ref b), (1, .ref (a0 0)), (2, .ref (a12 0)), (3, .ref (a13 0)), (4, .int i4)]) (K : ∀ (H : Heap) (locs : List Loc) (ls : Array Slot), gP G [maW a0 (a1 0) (a2 0) (a3 0) (a4 0) (a7 0 0) (a8 0) (a9 0) (a9 1), stW G a1 w9.1, stW G a2 w9.2.1, rdW G a3 w9.2.2.1, scW a4 (a5 0) (a6 0), stW G a5 w9.2.2.2.1, rdW G a6 w9.2.2.2.2.1, paW G a7 w9.2.2.2.2.2.1, txW G a8 w9.2.2.2.2.2.2.1, slW G a9 (a10 0) (a11 0) w9.2.2.2.2.2.2.2.1, stW G a10 w9.2.2.2.2.2.2.2.2.1, stW G a11 w9.2.2.2.2.2.2.2.2.2.1, mdW G a12 w9.2.2.2.2.2.2.2.2.2.2.1, ouW G a13 w9.2.2.2.2.2.2.2.2.2.2.2] H → gD A [maW a0 (a1 0) (a2 0) (a3 0) (a4 0) (a7 0 0) (a8 0) (a9 0) (a9 1), stW G a1 w9.1, stW G a2 w9.2.1, rdW G a3 w9.2.2.1, scW a4 (a5 0) (a6 0), stW G a5 w9.2.2.2.1, rdW G a6 w9.2.2.2.2.1, paW G a7 w9.2.2.2.2.2.1, txW G a8 w9.2.2.2.2.2.2.1, slW G a9 (a10 0) (a11 0) w9.2.2.2.2.2.2.2.1, stW G a10 w9.2.2.2.2.2.2.2.2.1, stW G a11 w9.2.2.2.2.2.2.2.2.2.1, mdW G a12 w9.2.2.2.2.2.2.2.2.2.2.1, ouW G a13 w9.2.2.2.2.2.2.2.2.2.2.2] → va_S A s.heap H locs → lv_has ls 7 [(0, .ref b), (1, .ref (a0 0)), (2, .ref (a12 0)), (3, .ref (a13 0)), (4, .int i4)] → W p l e room_1 s m #[Value.ref b] below meth c H locs (c9 + 4) (s9 + 24) Q (F0 m 1796 ls [])) : W p l e room_1 s m #[Value.ref b] below meth c H locs (c9) (s9) Q (F0 m 850 ls []) := by
  obtain ⟨hx, hb, hml, hown, hts, hr, hlocks⟩ := id S
  unfold f_law_850 at hf
  refine lv_aload_n hx hb dL_law_850 rfl (lv_at hl 1 rfl) ?_
  refine lv_aload_n hx hb dL_law_851 rfl (lv_at hl 0 rfl) ?_
  refine lv_iload hx hb dL_law_852 (lv_at hl 4 rfl) ?_
  refine lv_iconst (v := (1:Int32)) hx hb dL_law_854 (by decide) ?_
  refine lv_iadd hx hb dL_law_855 ?_
  obtain ⟨h123, hf⟩ := gi_some hf
  refine va_sld hx hb hX hbl hbA hS h123 dL_law_856 ?_
  refine lv_aload_n hx hb dL_law_857 rfl (lv_at hl 0 rfl) ?_
  refine lv_iload hx hb dL_law_858 (lv_at hl 4 rfl) ?_
  refine lv_iconst (v := (2:Int32)) hx hb dL_law_860 (by decide) ?_
  refine lv_iadd hx hb dL_law_861 ?_
  obtain ⟨h124, hf⟩ := gi_some hf
  refine va_sld hx hb hX hbl hbA hS h124 dL_law_862 ?_
  refine lv_if_eq (tgt := 870) hx hb dL_law_863 (by decide) (fun c125 => ?_) (fun c125 => ?_)
  · rw [if_pos c125] at hf
    refine lv_iconst (v := (0:Int32)) hx hb dL_law_870 (by decide) ?_
    refine lv_aload_n hx hb dL_law_871 rfl (lv_at hl 3 rfl) ?_
    obtain ⟨q126, hq126, hf⟩ := bd_some hf
    refine g_callHi S (As := [.ref (a0 0), .int (xs (i4 + (1:Int32)).toNatClampNeg), .int (0:Int32), .ref (a13 0)]) (gs' := [maW a0 (a1 0) (a2 0) (a3 0) (a4 0) (a7 0 0) (a8 0) (a9 0) (a9 1), stW G a1 q126.2.1, stW G a2 v2, rdW G a3 v3, scW a4 (a5 0) (a6 0), stW G a5 v5, rdW G a6 v6, paW G a7 q126.2.2.1, txW G a8 v8, slW G a9 (a10 0) (a11 0) v9, stW G a10 v10, stW G a11 v11, mdW G a12 v12, ouW G a13 q126.2.2.2]) (c_L_stayAway l hl0 G a0 a1 a2 a3 a4 a5 a6 a7 a8 a9 a10 a11 a13 v1 v7 v13 (xs (i4 + (1:Int32)).toNatClampNeg) (0:Int32) hq126) (vx_cwSW 4 hts gL_law_L_stayAway rfl rfl rfl hd_L_stayAway.2 ⟨(Nat.le_of_ble_eq_true rfl), (Nat.le_of_ble_eq_true rfl)⟩) hTH hK hP hD hS hA (is := [0, 1, 7, 13]) rfl rfl rfl hl.1 rfl (Nat.le_of_ble_eq_true rfl) dL_law_872 ⟨by show c9 + 1 ≤ 601024; omega, by show s9 + 6 ≤ 7293033; omega⟩ rfl (fun H locs hP hD hS => ?_)
    refine lv_istore (lv' := [(5, .int q126.1), (0, .ref b), (1, .ref (a0 0)), (2, .ref (a12 0)), (3, .ref (a13 0)), (4, .int i4)]) hx hb dL_law_875 hl (by decide) rfl (fun ls hl => ?_)
    refine lv_aload_n hx hb dL_law_877 rfl (lv_at hl 3 rfl) ?_
    refine lv_aload_n hx hb dL_law_878 rfl (lv_at hl 1 rfl) ?_
    refine lv_iload hx hb dL_law_879 (lv_at hl 5 rfl) ?_
    refine lv_iconst (v := (1:Int32)) hx hb dL_law_881 (by decide) ?_
    refine lv_iadd hx hb dL_law_882 ?_
    obtain ⟨h127, hf⟩ := gi_some hf
    refine va_sld hx hb hX hbl hbA hS h127 dL_law_883 ?_
    refine lv_aload_n hx hb dL_law_884 rfl (lv_at hl 1 rfl) ?_
    refine lv_iload hx hb dL_law_885 (lv_at hl 5 rfl) ?_
    refine lv_iconst (v := (2:Int32)) hx hb dL_law_887 (by decide) ?_
    refine lv_iadd hx hb dL_law_888 ?_
    obtain ⟨h128, hf⟩ := gi_some hf
    refine va_sld hx hb hX hbl hbA hS h128 dL_law_889 ?_
    refine lv_if_eq (tgt := 897) hx hb dL_law_890 (by decide) (fun c129 => ?_) (fun c129 => ?_)
    · rw [if_pos c129] at hf
      refine lv_iconst (v := (0:Int32)) hx hb dL_law_897 (by decide) ?_
      obtain ⟨q130, hq130, hf⟩ := bd_some hf
      refine g_callVi S (As := [.int (xs (i4 + (1:Int32)).toNatClampNeg), .int (0:Int32)]) (gs' := [maW a0 (a1 0) (a2 0) (a3 0) (a4 0) (a7 0 0) (a8 0) (a9 0) (a9 1), stW G a1 q126.2.1, stW G a2 v2, rdW G a3 v3, scW a4 (a5 0) (a6 0), stW G a5 v5, rdW G a6 v6, paW G a7 q126.2.2.1, txW G a8 v8, slW G a9 (a10 0) (a11 0) v9, stW G a10 v10, stW G a11 v11, mdW G a12 q130.2, ouW G a13 q126.2.2.2]) (c_X6_stayAway l G a12 v12 (xs (i4 + (1:Int32)).toNatClampNeg) (0:Int32) hq130) (cwV 2 hts gL_law_X6_stayAway rfl rfl rfl hd_X6_stayAway ⟨Nat.le_of_ble_eq_true rfl, Nat.le_of_ble_eq_true rfl⟩) hK hP hD hS hA (is := [12]) rfl rfl 12 rfl rfl rfl rfl hl.1 rfl (Nat.le_of_ble_eq_true rfl) dL_law_898 ⟨by show c9 + 1 + 0 ≤ 601024; omega, by show s9 + 6 + 0 ≤ 7293033; omega⟩ rfl (fun H locs hP hD hS => ?_)
      refine lv_istore (lv' := [(6, .int q130.1), (5, .int q126.1), (0, .ref b), (1, .ref (a0 0)), (2, .ref (a12 0)), (3, .ref (a13 0)), (4, .int i4)]) hx hb dL_law_901 hl (by decide) rfl (fun ls hl => ?_)
      refine lv_aload_n hx hb dL_law_903 rfl (lv_at hl 4 rfl) ?_
      obtain ⟨q131, hq131, hf⟩ := bd_some hf
      refine g_callVi S (As := []) (gs' := [maW a0 (a1 0) (a2 0) (a3 0) (a4 0) (a7 0 0) (a8 0) (a9 0) (a9 1), stW G a1 q126.2.1, stW G a2 v2, rdW G a3 v3, scW a4 (a5 0) (a6 0), stW G a5 v5, rdW G a6 v6, paW G a7 q126.2.2.1, txW G a8 v8, slW G a9 (a10 0) (a11 0) v9, stW G a10 v10, stW G a11 v11, mdW G a12 q130.2, ouW G a13 q126.2.2.2]) (c_X6_thrown l G a12 q130.2 hq131) (cwV 0 hts gL_law_X6_thrown rfl rfl rfl hd_X6_thrown ⟨Nat.le_of_ble_eq_true rfl, Nat.le_of_ble_eq_true rfl⟩) hK hP hD hS hA (is := [12]) rfl rfl 12 rfl rfl rfl rfl hl.1 rfl (Nat.le_of_ble_eq_true rfl) dL_law_904 ⟨by show c9 + 1 + 0 ≤ 601024; omega, by show s9 + 6 + 0 ≤ 7293033; omega⟩ rfl (fun H locs hP hD hS => ?_)
      refine lv_iload hx hb dL_law_907 (lv_at hl 1 rfl) ?_
      refine lv_icmp_eq (tgt := 914) hx hb dL_law_909 (by decide) (fun c132 => ?_) (fun c132 => ?_)
      · rw [if_pos c132] at hf
        refine lv_iload hx hb dL_law_914 (lv_at hl 1 rfl) ?_
        refine lv_if_ne (tgt := 938) hx hb dL_law_916 (by decide) (fun c133 => ?_) (fun c133 => ?_)
        · rw [if_neg c133] at hf
          refine lv_goto (tgt := 1796) hx hb dL_law_938 (by decide) ?_
          cases hf
          refine W.widen (k := c9 + 4) (n := s9 + 24) (by omega) (by omega) ?_
          exact K H locs ls hP hD hS (lv_sub hl [2, 3, 4, 5, 6] rfl)
        · rw [if_pos c133] at hf
          refine lv_aload_n hx hb dL_law_919 rfl (lv_at hl 5 rfl) ?_
          refine lv_iconst (v := (0:Int32)) hx hb dL_law_920 (by decide) ?_
          obtain ⟨h134, hf⟩ := gi_some hf
          refine g_lald hx hb hK hP 13 0 3 rfl rfl rfl h134 dL_law_921 ?_
          refine lv_iload hx hb dL_law_922 (lv_at hl 0 rfl) ?_
          refine lv_if_eq (tgt := 931) hx hb dL_law_924 (by decide) (fun c135 => ?_) (fun c135 => ?_)
          · rw [if_pos c135] at hf
            refine lv_lconst (v := (0:Int64)) hx hb dL_law_931 (by decide) ?_
            refine W.lcmp hx hb dL_law_932 ?_
            obtain ⟨x136, ex136, hf⟩ := lt_some hf
            refine lv_nmi ex136 ?_
            refine lv_if_eq (tgt := 938) hx hb dL_law_933 (by decide) (fun c137 => ?_) (fun c137 => ?_)
            · rw [if_pos c137] at hf
              refine lv_goto (tgt := 1796) hx hb dL_law_938 (by decide) ?_
              cases hf
              refine W.widen (k := c9 + 4) (n := s9 + 24) (by omega) (by omega) ?_
              exact K H locs ls hP hD hS (lv_sub hl [2, 3, 4, 5, 6] rfl)
            · rw [if_neg c137] at hf
              refine lv_iconst (v := (0:Int32)) hx hb dL_law_936 (by decide) ?_
              cases hf
          · rw [if_neg c135] at hf
            refine lv_lconst (v := (1:Int64)) hx hb dL_law_927 (by decide) ?_
            refine lv_goto (tgt := 932) hx hb dL_law_928 (by decide) ?_
            refine W.lcmp hx hb dL_law_932 ?_
            obtain ⟨x138, ex138, hf⟩ := lt_some hf
            refine lv_nmi ex138 ?_
            refine lv_if_eq (tgt := 938) hx hb dL_law_933 (by decide) (fun c139 => ?_) (fun c139 => ?_)
            · rw [if_pos c139] at hf
              refine lv_goto (tgt := 1796) hx hb dL_law_938 (by decide) ?_
              cases hf
              refine W.widen (k := c9 + 4) (n := s9 + 24) (by omega) (by omega) ?_
              exact K H locs ls hP hD hS (lv_sub hl [2, 3, 4, 5, 6] rfl)
            · rw [if_neg c139] at hf
              refine lv_iconst (v := (0:Int32)) hx hb dL_law_936 (by decide) ?_
              cases hf
      · rw [if_neg c132] at hf
        refine lv_iconst (v := (0:Int32)) hx hb dL_law_912 (by decide) ?_
        cases hf
    · rw [if_neg c129] at hf
      refine lv_iconst (v := (1:Int32)) hx hb dL_law_893 (by decide) ?_
      refine lv_goto (tgt := 898) hx hb dL_law_894 (by decide) ?_
      obtain ⟨q140, hq140, hf⟩ := bd_some hf
      refine g_callVi S (As := [.int (xs (i4 + (1:Int32)).toNatClampNeg), .int (1:Int32)]) (gs' := [maW a0 (a1 0) (a2 0) (a3 0) (a4 0) (a7 0 0) (a8 0) (a9 0) (a9 1), stW G a1 q126.2.1, stW G a2 v2, rdW G a3 v3, scW a4 (a5 0) (a6 0), stW G a5 v5, rdW G a6 v6, paW G a7 q126.2.2.1, txW G a8 v8, slW G a9 (a10 0) (a11 0) v9, stW G a10 v10, stW G a11 v11, mdW G a12 q140.2, ouW G a13 q126.2.2.2]) (c_X6_stayAway l G a12 v12 (xs (i4 + (1:Int32)).toNatClampNeg) (1:Int32) hq140) (cwV 2 hts gL_law_X6_stayAway rfl rfl rfl hd_X6_stayAway ⟨Nat.le_of_ble_eq_true rfl, Nat.le_of_ble_eq_true rfl⟩) hK hP hD hS hA (is := [12]) rfl rfl 12 rfl rfl rfl rfl hl.1 rfl (Nat.le_of_ble_eq_true rfl) dL_law_898 ⟨by show c9 + 1 + 0 ≤ 601024; omega, by show s9 + 6 + 0 ≤ 7293033; omega⟩ rfl (fun H locs hP hD hS => ?_)
      refine lv_istore (lv' := [(6, .int q140.1), (5, .int q126.1), (0, .ref b), (1, .ref (a0 0)), (2, .ref (a12 0)), (3, .ref (a13 0)), (4, .int i4)]) hx hb dL_law_901 hl (by decide) rfl (fun ls hl => ?_)
      refine lv_aload_n hx hb dL_law_903 rfl (lv_at hl 4 rfl) ?_
      obtain ⟨q141, hq141, hf⟩ := bd_some hf
      refine g_callVi S (As := []) (gs' := [maW a0 (a1 0) (a2 0) (a3 0) (a4 0) (a7 0 0) (a8 0) (a9 0) (a9 1), stW G a1 q126.2.1, stW G a2 v2, rdW G a3 v3, scW a4 (a5 0) (a6 0), stW G a5 v5, rdW G a6 v6, paW G a7 q126.2.2.1, txW G a8 v8, slW G a9 (a10 0) (a11 0) v9, stW G a10 v10, stW G a11 v11, mdW G a12 q140.2, ouW G a13 q126.2.2.2]) (c_X6_thrown l G a12 q140.2 hq141) (cwV 0 hts gL_law_X6_thrown rfl rfl rfl hd_X6_thrown ⟨Nat.le_of_ble_eq_true rfl, Nat.le_of_ble_eq_true rfl⟩) hK hP hD hS hA (is := [12]) rfl rfl 12 rfl rfl rfl rfl hl.1 rfl (Nat.le_of_ble_eq_true rfl) dL_law_904 ⟨by show c9 + 1 + 0 ≤ 601024; omega, by show s9 + 6 + 0 ≤ 7293033; omega⟩ rfl (fun H locs hP hD hS => ?_)
      refine lv_iload hx hb dL_law_907 (lv_at hl 1 rfl) ?_
      refine lv_icmp_eq (tgt := 914) hx hb dL_law_909 (by decide) (fun c142 => ?_) (fun c142 => ?_)
      · rw [if_pos c142] at hf
        refine lv_iload hx hb dL_law_914 (lv_at hl 1 rfl) ?_
        refine lv_if_ne (tgt := 938) hx hb dL_law_916 (by decide) (fun c143 => ?_) (fun c143 => ?_)
        · rw [if_neg c143] at hf
          refine lv_goto (tgt := 1796) hx hb dL_law_938 (by decide) ?_
          cases hf
          refine W.widen (k := c9 + 4) (n := s9 + 24) (by omega) (by omega) ?_
          exact K H locs ls hP hD hS (lv_sub hl [2, 3, 4, 5, 6] rfl)
        · rw [if_pos c143] at hf
          refine lv_aload_n hx hb dL_law_919 rfl (lv_at hl 5 rfl) ?_
          refine lv_iconst (v := (0:Int32)) hx hb dL_law_920 (by decide) ?_
          obtain ⟨h144, hf⟩ := gi_some hf
          refine g_lald hx hb hK hP 13 0 3 rfl rfl rfl h144 dL_law_921 ?_
          refine lv_iload hx hb dL_law_922 (lv_at hl 0 rfl) ?_
          refine lv_if_eq (tgt := 931) hx hb dL_law_924 (by decide) (fun c145 => ?_) (fun c145 => ?_)
          · rw [if_pos c145] at hf
            refine lv_lconst (v := (0:Int64)) hx hb dL_law_931 (by decide) ?_
            refine W.lcmp hx hb dL_law_932 ?_
            obtain ⟨x146, ex146, hf⟩ := lt_some hf
            refine lv_nmi ex146 ?_
            refine lv_if_eq (tgt := 938) hx hb dL_law_933 (by decide) (fun c147 => ?_) (fun c147 => ?_)
            · rw [if_pos c147] at hf
              refine lv_goto (tgt := 1796) hx hb dL_law_938 (by decide) ?_
              cases hf
              refine W.widen (k := c9 + 4) (n := s9 + 24) (by omega) (by omega) ?_
              exact K H locs ls hP hD hS (lv_sub hl [2, 3, 4, 5, 6] rfl)
            · rw [if_neg c147] at hf
              refine lv_iconst (v := (0:Int32)) hx hb dL_law_936 (by decide) ?_
              cases hf
          · rw [if_neg c145] at hf
            refine lv_lconst (v := (1:Int64)) hx hb dL_law_927 (by decide) ?_
            refine lv_goto (tgt := 932) hx hb dL_law_928 (by decide) ?_
            refine W.lcmp hx hb dL_law_932 ?_
            obtain ⟨x148, ex148, hf⟩ := lt_some hf
            refine lv_nmi ex148 ?_
            refine lv_if_eq (tgt := 938) hx hb dL_law_933 (by decide) (fun c149 => ?_) (fun c149 => ?_)
            · rw [if_pos c149] at hf
              refine lv_goto (tgt := 1796) hx hb dL_law_938 (by decide) ?_
              cases hf
              refine W.widen (k := c9 + 4) (n := s9 + 24) (by omega) (by omega) ?_
              exact K H locs ls hP hD hS (lv_sub hl [2, 3, 4, 5, 6] rfl)
            · rw [if_neg c149] at hf
              refine lv_iconst (v := (0:Int32)) hx hb dL_law_936 (by decide) ?_
              cases hf
      · rw [if_neg c142] at hf
        refine lv_iconst (v := (0:Int32)) hx hb dL_law_912 (by decide) ?_
        cases hf
  · rw [if_neg c125] at hf
    refine lv_iconst (v := (1:Int32)) hx hb dL_law_866 (by decide) ?_
    refine lv_goto (tgt := 871) hx hb dL_law_867 (by decide) ?_
    refine lv_aload_n hx hb dL_law_871 rfl (lv_at hl 3 rfl) ?_
    obtain ⟨q150, hq150, hf⟩ := bd_some hf
    refine g_callHi S (As := [.ref (a0 0), .int (xs (i4 + (1:Int32)).toNatClampNeg), .int (1:Int32), .ref (a13 0)]) (gs' := [maW a0 (a1 0) (a2 0) (a3 0) (a4 0) (a7 0 0) (a8 0) (a9 0) (a9 1), stW G a1 q150.2.1, stW G a2 v2, rdW G a3 v3, scW a4 (a5 0) (a6 0), stW G a5 v5, rdW G a6 v6, paW G a7 q150.2.2.1, txW G a8 v8, slW G a9 (a10 0) (a11 0) v9, stW G a10 v10, stW G a11 v11, mdW G a12 v12, ouW G a13 q150.2.2.2]) (c_L_stayAway l hl0 G a0 a1 a2 a3 a4 a5 a6 a7 a8 a9 a10 a11 a13 v1 v7 v13 (xs (i4 + (1:Int32)).toNatClampNeg) (1:Int32) hq150) (vx_cwSW 4 hts gL_law_L_stayAway rfl rfl rfl hd_L_stayAway.2 ⟨(Nat.le_of_ble_eq_true rfl), (Nat.le_of_ble_eq_true rfl)⟩) hTH hK hP hD hS hA (is := [0, 1, 7, 13]) rfl rfl rfl hl.1 rfl (Nat.le_of_ble_eq_true rfl) dL_law_872 ⟨by show c9 + 1 ≤ 601024; omega, by show s9 + 6 ≤ 7293033; omega⟩ rfl (fun H locs hP hD hS => ?_)
    refine lv_istore (lv' := [(5, .int q150.1), (0, .ref b), (1, .ref (a0 0)), (2, .ref (a12 0)), (3, .ref (a13 0)), (4, .int i4)]) hx hb dL_law_875 hl (by decide) rfl (fun ls hl => ?_)
    refine lv_aload_n hx hb dL_law_877 rfl (lv_at hl 3 rfl) ?_
    refine lv_aload_n hx hb dL_law_878 rfl (lv_at hl 1 rfl) ?_
    refine lv_iload hx hb dL_law_879 (lv_at hl 5 rfl) ?_
    refine lv_iconst (v := (1:Int32)) hx hb dL_law_881 (by decide) ?_
    refine lv_iadd hx hb dL_law_882 ?_
    obtain ⟨h151, hf⟩ := gi_some hf
    refine va_sld hx hb hX hbl hbA hS h151 dL_law_883 ?_
    refine lv_aload_n hx hb dL_law_884 rfl (lv_at hl 1 rfl) ?_
    refine lv_iload hx hb dL_law_885 (lv_at hl 5 rfl) ?_
    refine lv_iconst (v := (2:Int32)) hx hb dL_law_887 (by decide) ?_
    refine lv_iadd hx hb dL_law_888 ?_
    obtain ⟨h152, hf⟩ := gi_some hf
    refine va_sld hx hb hX hbl hbA hS h152 dL_law_889 ?_
    refine lv_if_eq (tgt := 897) hx hb dL_law_890 (by decide) (fun c153 => ?_) (fun c153 => ?_)
    · rw [if_pos c153] at hf
      refine lv_iconst (v := (0:Int32)) hx hb dL_law_897 (by decide) ?_
      obtain ⟨q154, hq154, hf⟩ := bd_some hf
      refine g_callVi S (As := [.int (xs (i4 + (1:Int32)).toNatClampNeg), .int (0:Int32)]) (gs' := [maW a0 (a1 0) (a2 0) (a3 0) (a4 0) (a7 0 0) (a8 0) (a9 0) (a9 1), stW G a1 q150.2.1, stW G a2 v2, rdW G a3 v3, scW a4 (a5 0) (a6 0), stW G a5 v5, rdW G a6 v6, paW G a7 q150.2.2.1, txW G a8 v8, slW G a9 (a10 0) (a11 0) v9, stW G a10 v10, stW G a11 v11, mdW G a12 q154.2, ouW G a13 q150.2.2.2]) (c_X6_stayAway l G a12 v12 (xs (i4 + (1:Int32)).toNatClampNeg) (0:Int32) hq154) (cwV 2 hts gL_law_X6_stayAway rfl rfl rfl hd_X6_stayAway ⟨Nat.le_of_ble_eq_true rfl, Nat.le_of_ble_eq_true rfl⟩) hK hP hD hS hA (is := [12]) rfl rfl 12 rfl rfl rfl rfl hl.1 rfl (Nat.le_of_ble_eq_true rfl) dL_law_898 ⟨by show c9 + 1 + 0 ≤ 601024; omega, by show s9 + 6 + 0 ≤ 7293033; omega⟩ rfl (fun H locs hP hD hS => ?_)
      refine lv_istore (lv' := [(6, .int q154.1), (5, .int q150.1), (0, .ref b), (1, .ref (a0 0)), (2, .ref (a12 0)), (3, .ref (a13 0)), (4, .int i4)]) hx hb dL_law_901 hl (by decide) rfl (fun ls hl => ?_)
      refine lv_aload_n hx hb dL_law_903 rfl (lv_at hl 4 rfl) ?_
      obtain ⟨q155, hq155, hf⟩ := bd_some hf
      refine g_callVi S (As := []) (gs' := [maW a0 (a1 0) (a2 0) (a3 0) (a4 0) (a7 0 0) (a8 0) (a9 0) (a9 1), stW G a1 q150.2.1, stW G a2 v2, rdW G a3 v3, scW a4 (a5 0) (a6 0), stW G a5 v5, rdW G a6 v6, paW G a7 q150.2.2.1, txW G a8 v8, slW G a9 (a10 0) (a11 0) v9, stW G a10 v10, stW G a11 v11, mdW G a12 q154.2, ouW G a13 q150.2.2.2]) (c_X6_thrown l G a12 q154.2 hq155) (cwV 0 hts gL_law_X6_thrown rfl rfl rfl hd_X6_thrown ⟨Nat.le_of_ble_eq_true rfl, Nat.le_of_ble_eq_true rfl⟩) hK hP hD hS hA (is := [12]) rfl rfl 12 rfl rfl rfl rfl hl.1 rfl (Nat.le_of_ble_eq_true rfl) dL_law_904 ⟨by show c9 + 1 + 0 ≤ 601024; omega, by show s9 + 6 + 0 ≤ 7293033; omega⟩ rfl (fun H locs hP hD hS => ?_)
      refine lv_iload hx hb dL_law_907 (lv_at hl 1 rfl) ?_
      refine lv_icmp_eq (tgt := 914) hx hb dL_law_909 (by decide) (fun c156 => ?_) (fun c156 => ?_)
      · rw [if_pos c156] at hf
        refine lv_iload hx hb dL_law_914 (lv_at hl 1 rfl) ?_
        refine lv_if_ne (tgt := 938) hx hb dL_law_916 (by decide) (fun c157 => ?_) (fun c157 => ?_)
        · rw [if_neg c157] at hf
          refine lv_goto (tgt := 1796) hx hb dL_law_938 (by decide) ?_
          cases hf
          refine W.widen (k := c9 + 4) (n := s9 + 24) (by omega) (by omega) ?_
          exact K H locs ls hP hD hS (lv_sub hl [2, 3, 4, 5, 6] rfl)
        · rw [if_pos c157] at hf
          refine lv_aload_n hx hb dL_law_919 rfl (lv_at hl 5 rfl) ?_
          refine lv_iconst (v := (0:Int32)) hx hb dL_law_920 (by decide) ?_
          obtain ⟨h158, hf⟩ := gi_some hf
          refine g_lald hx hb hK hP 13 0 3 rfl rfl rfl h158 dL_law_921 ?_
          refine lv_iload hx hb dL_law_922 (lv_at hl 0 rfl) ?_
          refine lv_if_eq (tgt := 931) hx hb dL_law_924 (by decide) (fun c159 => ?_) (fun c159 => ?_)
          · rw [if_pos c159] at hf
            refine lv_lconst (v := (0:Int64)) hx hb dL_law_931 (by decide) ?_
            refine W.lcmp hx hb dL_law_932 ?_
            obtain ⟨x160, ex160, hf⟩ := lt_some hf
            refine lv_nmi ex160 ?_
            refine lv_if_eq (tgt := 938) hx hb dL_law_933 (by decide) (fun c161 => ?_) (fun c161 => ?_)
            · rw [if_pos c161] at hf
              refine lv_goto (tgt := 1796) hx hb dL_law_938 (by decide) ?_
              cases hf
              refine W.widen (k := c9 + 4) (n := s9 + 24) (by omega) (by omega) ?_
              exact K H locs ls hP hD hS (lv_sub hl [2, 3, 4, 5, 6] rfl)
            · rw [if_neg c161] at hf
              refine lv_iconst (v := (0:Int32)) hx hb dL_law_936 (by decide) ?_
              cases hf
          · rw [if_neg c159] at hf
            refine lv_lconst (v := (1:Int64)) hx hb dL_law_927 (by decide) ?_
            refine lv_goto (tgt := 932) hx hb dL_law_928 (by decide) ?_
            refine W.lcmp hx hb dL_law_932 ?_
            obtain ⟨x162, ex162, hf⟩ := lt_some hf
            refine lv_nmi ex162 ?_
            refine lv_if_eq (tgt := 938) hx hb dL_law_933 (by decide) (fun c163 => ?_) (fun c163 => ?_)
            · rw [if_pos c163] at hf
              refine lv_goto (tgt := 1796) hx hb dL_law_938 (by decide) ?_
              cases hf
              refine W.widen (k := c9 + 4) (n := s9 + 24) (by omega) (by omega) ?_
              exact K H locs ls hP hD hS (lv_sub hl [2, 3, 4, 5, 6] rfl)
            · rw [if_neg c163] at hf
              refine lv_iconst (v := (0:Int32)) hx hb dL_law_936 (by decide) ?_
              cases hf
      · rw [if_neg c156] at hf
        refine lv_iconst (v := (0:Int32)) hx hb dL_law_912 (by decide) ?_
        cases hf
    · rw [if_neg c153] at hf
      refine lv_iconst (v := (1:Int32)) hx hb dL_law_893 (by decide) ?_
      refine lv_goto (tgt := 898) hx hb dL_law_894 (by decide) ?_
      obtain ⟨q164, hq164, hf⟩ := bd_some hf
      refine g_callVi S (As := [.int (xs (i4 + (1:Int32)).toNatClampNeg), .int (1:Int32)]) (gs' := [maW a0 (a1 0) (a2 0) (a3 0) (a4 0) (a7 0 0) (a8 0) (a9 0) (a9 1), stW G a1 q150.2.1, stW G a2 v2, rdW G a3 v3, scW a4 (a5 0) (a6 0), stW G a5 v5, rdW G a6 v6, paW G a7 q150.2.2.1, txW G a8 v8, slW G a9 (a10 0) (a11 0) v9, stW G a10 v10, stW G a11 v11, mdW G a12 q164.2, ouW G a13 q150.2.2.2]) (c_X6_stayAway l G a12 v12 (xs (i4 + (1:Int32)).toNatClampNeg) (1:Int32) hq164) (cwV 2 hts gL_law_X6_stayAway rfl rfl rfl hd_X6_stayAway ⟨Nat.le_of_ble_eq_true rfl, Nat.le_of_ble_eq_true rfl⟩) hK hP hD hS hA (is := [12]) rfl rfl 12 rfl rfl rfl rfl hl.1 rfl (Nat.le_of_ble_eq_true rfl) dL_law_898 ⟨by show c9 + 1 + 0 ≤ 601024; omega, by show s9 + 6 + 0 ≤ 7293033; omega⟩ rfl (fun H locs hP hD hS => ?_)
      refine lv_istore (lv' := [(6, .int q164.1), (5, .int q150.1), (0, .ref b), (1, .ref (a0 0)), (2, .ref (a12 0)), (3, .ref (a13 0)), (4, .int i4)]) hx hb dL_law_901 hl (by decide) rfl (fun ls hl => ?_)
      refine lv_aload_n hx hb dL_law_903 rfl (lv_at hl 4 rfl) ?_
      obtain ⟨q165, hq165, hf⟩ := bd_some hf
      refine g_callVi S (As := []) (gs' := [maW a0 (a1 0) (a2 0) (a3 0) (a4 0) (a7 0 0) (a8 0) (a9 0) (a9 1), stW G a1 q150.2.1, stW G a2 v2, rdW G a3 v3, scW a4 (a5 0) (a6 0), stW G a5 v5, rdW G a6 v6, paW G a7 q150.2.2.1, txW G a8 v8, slW G a9 (a10 0) (a11 0) v9, stW G a10 v10, stW G a11 v11, mdW G a12 q164.2, ouW G a13 q150.2.2.2]) (c_X6_thrown l G a12 q164.2 hq165) (cwV 0 hts gL_law_X6_thrown rfl rfl rfl hd_X6_thrown ⟨Nat.le_of_ble_eq_true rfl, Nat.le_of_ble_eq_true rfl⟩) hK hP hD hS hA (is := [12]) rfl rfl 12 rfl rfl rfl rfl hl.1 rfl (Nat.le_of_ble_eq_true rfl) dL_law_904 ⟨by show c9 + 1 + 0 ≤ 601024; omega, by show s9 + 6 + 0 ≤ 7293033; omega⟩ rfl (fun H locs hP hD hS => ?_)
      refine lv_iload hx hb dL_law_907 (lv_at hl 1 rfl) ?_
      refine lv_icmp_eq (tgt := 914) hx hb dL_law_909 (by decide) (fun c166 => ?_) (fun c166 => ?_)
      · rw [if_pos c166] at hf
        refine lv_iload hx hb dL_law_914 (lv_at hl 1 rfl) ?_
        refine lv_if_ne (tgt := 938) hx hb dL_law_916 (by decide) (fun c167 => ?_) (fun c167 => ?_)
        · rw [if_neg c167] at hf
          refine lv_goto (tgt := 1796) hx hb dL_law_938 (by decide) ?_
          cases hf
          refine W.widen (k := c9 + 4) (n := s9 + 24) (by omega) (by omega) ?_
          exact K H locs ls hP hD hS (lv_sub hl [2, 3, 4, 5, 6] rfl)
        · rw [if_pos c167] at hf
          refine lv_aload_n hx hb dL_law_919 rfl (lv_at hl 5 rfl) ?_
          refine lv_iconst (v := (0:Int32)) hx hb dL_law_920 (by decide) ?_
          obtain ⟨h168, hf⟩ := gi_some hf
          refine g_lald hx hb hK hP 13 0 3 rfl rfl rfl h168 dL_law_921 ?_
          refine lv_iload hx hb dL_law_922 (lv_at hl 0 rfl) ?_
          refine lv_if_eq (tgt := 931) hx hb dL_law_924 (by decide) (fun c169 => ?_) (fun c169 => ?_)
          · rw [if_pos c169] at hf
            refine lv_lconst (v := (0:Int64)) hx hb dL_law_931 (by decide) ?_
            refine W.lcmp hx hb dL_law_932 ?_
            obtain ⟨x170, ex170, hf⟩ := lt_some hf
            refine lv_nmi ex170 ?_
            refine lv_if_eq (tgt := 938) hx hb dL_law_933 (by decide) (fun c171 => ?_) (fun c171 => ?_)
            · rw [if_pos c171] at hf
              refine lv_goto (tgt := 1796) hx hb dL_law_938 (by decide) ?_
              cases hf
              refine W.widen (k := c9 + 4) (n := s9 + 24) (by omega) (by omega) ?_
              exact K H locs ls hP hD hS (lv_sub hl [2, 3, 4, 5, 6] rfl)
            · rw [if_neg c171] at hf
              refine lv_iconst (v := (0:Int32)) hx hb dL_law_936 (by decide) ?_
              cases hf
          · rw [if_neg c169] at hf
            refine lv_lconst (v := (1:Int64)) hx hb dL_law_927 (by decide) ?_
            refine lv_goto (tgt := 932) hx hb dL_law_928 (by decide) ?_
            refine W.lcmp hx hb dL_law_932 ?_
            obtain ⟨x172, ex172, hf⟩ := lt_some hf
            refine lv_nmi ex172 ?_
            refine lv_if_eq (tgt := 938) hx hb dL_law_933 (by decide) (fun c173 => ?_) (fun c173 => ?_)
            · rw [if_pos c173] at hf
              refine lv_goto (tgt := 1796) hx hb dL_law_938 (by decide) ?_
              cases hf
              refine W.widen (k := c9 + 4) (n := s9 + 24) (by omega) (by omega) ?_
              exact K H locs ls hP hD hS (lv_sub hl [2, 3, 4, 5, 6] rfl)
            · rw [if_neg c173] at hf
              refine lv_iconst (v := (0:Int32)) hx hb dL_law_936 (by decide) ?_
              cases hf
      · rw [if_neg c166] at hf
        refine lv_iconst (v := (0:Int32)) hx hb dL_law_912 (by decide) ?_
        cases hf
set_option maxHeartbeats 8000000 in
set_option maxRecDepth 100000 in
theorem w_law_941 {p : Program} {l : Launch} (hl0 : l.stackTraces = false) {e : Env} {s : State} {m : MethodId} {below : List Frame} {meth : Method} {c : Code} {b L : Nat} {xs : Nat → Int32} {A : Nat → Prop} (S : Ev p s m #[Value.ref b] meth c cL_law 7 (some .boolean) RL wsL_law) {G : uG} (hK : kK G s) (hA : ∀ q, s.heap.size ≤ q → A q) (hTH : gTH A s s.heap) (hX : va_X b L xs s s.heap) (hbl : b < s.heap.size) (hbA : ¬ A b) (a0 : Nat → Nat) (a1 : Nat → Nat) (a2 : Nat → Nat) (a3 : Nat → Nat) (a4 : Nat → Nat) (a5 : Nat → Nat) (a6 : Nat → Nat) (a7 : Nat → Nat → Nat) (a8 : Nat → Nat) (a9 : Nat → Nat) (a10 : Nat → Nat) (a11 : Nat → Nat) (a12 : Nat → Nat) (a13 : Nat → Nat) (i4 : Int32) (v1 : StV) (v2 : StV) (v3 : RdV) (v5 : StV) (v6 : RdV) (v7 : PaV) (v8 : TxV) (v9 : SlV) (v10 : StV) (v11 : StV) (v12 : MdV) (v13 : OuV) {w9 : LwV} {Q : State → Prop} {c9 s9 : Nat} (hc9 : c9 + 4 ≤ 601024) (hs9 : s9 + 24 ≤ 7293033) (hf : f_law_941 xs L i4 v1 v2 v3 v5 v6 v7 v8 v9 v10 v11 v12 v13 = some w9) {H : Heap} {locs : List Loc} {ls : Array Slot} (hP : gP G [maW a0 (a1 0) (a2 0) (a3 0) (a4 0) (a7 0 0) (a8 0) (a9 0) (a9 1), stW G a1 v1, stW G a2 v2, rdW G a3 v3, scW a4 (a5 0) (a6 0), stW G a5 v5, rdW G a6 v6, paW G a7 v7, txW G a8 v8, slW G a9 (a10 0) (a11 0) v9, stW G a10 v10, stW G a11 v11, mdW G a12 v12, ouW G a13 v13] H) (hD : gD A [maW a0 (a1 0) (a2 0) (a3 0) (a4 0) (a7 0 0) (a8 0) (a9 0) (a9 1), stW G a1 v1, stW G a2 v2, rdW G a3 v3, scW a4 (a5 0) (a6 0), stW G a5 v5, rdW G a6 v6, paW G a7 v7, txW G a8 v8, slW G a9 (a10 0) (a11 0) v9, stW G a10 v10, stW G a11 v11, mdW G a12 v12, ouW G a13 v13]) (hS : va_S A s.heap H locs) (hl : lv_has ls 7 [(0, .ref b), (1, .ref (a0 0)), (2, .ref (a12 0)), (3, .ref (a13 0)), (4, .int i4)]) (K : ∀ (H : Heap) (locs : List Loc) (ls : Array Slot), gP G [maW a0 (a1 0) (a2 0) (a3 0) (a4 0) (a7 0 0) (a8 0) (a9 0) (a9 1), stW G a1 w9.1, stW G a2 w9.2.1, rdW G a3 w9.2.2.1, scW a4 (a5 0) (a6 0), stW G a5 w9.2.2.2.1, rdW G a6 w9.2.2.2.2.1, paW G a7 w9.2.2.2.2.2.1, txW G a8 w9.2.2.2.2.2.2.1, slW G a9 (a10 0) (a11 0) w9.2.2.2.2.2.2.2.1, stW G a10 w9.2.2.2.2.2.2.2.2.1, stW G a11 w9.2.2.2.2.2.2.2.2.2.1, mdW G a12 w9.2.2.2.2.2.2.2.2.2.2.1, ouW G a13 w9.2.2.2.2.2.2.2.2.2.2.2] H → gD A [maW a0 (a1 0) (a2 0) (a3 0) (a4 0) (a7 0 0) (a8 0) (a9 0) (a9 1), stW G a1 w9.1, stW G a2 w9.2.1, rdW G a3 w9.2.2.1, scW a4 (a5 0) (a6 0), stW G a5 w9.2.2.2.1, rdW G a6 w9.2.2.2.2.1, paW G a7 w9.2.2.2.2.2.1, txW G a8 w9.2.2.2.2.2.2.1, slW G a9 (a10 0) (a11 0) w9.2.2.2.2.2.2.2.1, stW G a10 w9.2.2.2.2.2.2.2.2.1, stW G a11 w9.2.2.2.2.2.2.2.2.2.1, mdW G a12 w9.2.2.2.2.2.2.2.2.2.2.1, ouW G a13 w9.2.2.2.2.2.2.2.2.2.2.2] → va_S A s.heap H locs → lv_has ls 7 [(0, .ref b), (1, .ref (a0 0)), (2, .ref (a12 0)), (3, .ref (a13 0)), (4, .int i4)] → W p l e room_1 s m #[Value.ref b] below meth c H locs (c9 + 4) (s9 + 24) Q (F0 m 1796 ls [])) : W p l e room_1 s m #[Value.ref b] below meth c H locs (c9) (s9) Q (F0 m 941 ls []) := by
  obtain ⟨hx, hb, hml, hown, hts, hr, hlocks⟩ := id S
  unfold f_law_941 at hf
  refine lv_aload_n hx hb dL_law_941 rfl (lv_at hl 1 rfl) ?_
  refine lv_aload_n hx hb dL_law_942 rfl (lv_at hl 0 rfl) ?_
  refine lv_iload hx hb dL_law_943 (lv_at hl 4 rfl) ?_
  refine lv_iconst (v := (1:Int32)) hx hb dL_law_945 (by decide) ?_
  refine lv_iadd hx hb dL_law_946 ?_
  obtain ⟨h174, hf⟩ := gi_some hf
  refine va_sld hx hb hX hbl hbA hS h174 dL_law_947 ?_
  refine lv_aload_n hx hb dL_law_948 rfl (lv_at hl 0 rfl) ?_
  refine lv_iload hx hb dL_law_949 (lv_at hl 4 rfl) ?_
  refine lv_iconst (v := (2:Int32)) hx hb dL_law_951 (by decide) ?_
  refine lv_iadd hx hb dL_law_952 ?_
  obtain ⟨h175, hf⟩ := gi_some hf
  refine va_sld hx hb hX hbl hbA hS h175 dL_law_953 ?_
  refine lv_aload_n hx hb dL_law_954 rfl (lv_at hl 3 rfl) ?_
  obtain ⟨q176, hq176, hf⟩ := bd_some hf
  refine g_callHi S (As := [.ref (a0 0), .int (xs (i4 + (1:Int32)).toNatClampNeg), .int (xs (i4 + (2:Int32)).toNatClampNeg), .ref (a13 0)]) (gs' := [maW a0 (a1 0) (a2 0) (a3 0) (a4 0) (a7 0 0) (a8 0) (a9 0) (a9 1), stW G a1 q176.2.1, stW G a2 v2, rdW G a3 v3, scW a4 (a5 0) (a6 0), stW G a5 v5, rdW G a6 v6, paW G a7 q176.2.2.1, txW G a8 v8, slW G a9 (a10 0) (a11 0) v9, stW G a10 v10, stW G a11 v11, mdW G a12 v12, ouW G a13 q176.2.2.2]) (c_L_give l hl0 G a0 a1 a2 a3 a4 a5 a6 a7 a8 a9 a10 a11 a13 v1 v7 v13 (xs (i4 + (1:Int32)).toNatClampNeg) (xs (i4 + (2:Int32)).toNatClampNeg) hq176) (vx_cwSW 4 hts gL_law_L_give rfl rfl rfl hd_L_give.2 ⟨(Nat.le_of_ble_eq_true rfl), (Nat.le_of_ble_eq_true rfl)⟩) hTH hK hP hD hS hA (is := [0, 1, 7, 13]) rfl rfl rfl hl.1 rfl (Nat.le_of_ble_eq_true rfl) dL_law_955 ⟨by show c9 + 3 ≤ 601024; omega, by show s9 + 18 ≤ 7293033; omega⟩ rfl (fun H locs hP hD hS => ?_)
  refine lv_istore (lv' := [(5, .int q176.1), (0, .ref b), (1, .ref (a0 0)), (2, .ref (a12 0)), (3, .ref (a13 0)), (4, .int i4)]) hx hb dL_law_958 hl (by decide) rfl (fun ls hl => ?_)
  refine lv_aload_n hx hb dL_law_960 rfl (lv_at hl 3 rfl) ?_
  refine lv_aload_n hx hb dL_law_961 rfl (lv_at hl 1 rfl) ?_
  refine lv_iload hx hb dL_law_962 (lv_at hl 5 rfl) ?_
  refine lv_iconst (v := (1:Int32)) hx hb dL_law_964 (by decide) ?_
  refine lv_iadd hx hb dL_law_965 ?_
  obtain ⟨h177, hf⟩ := gi_some hf
  refine va_sld hx hb hX hbl hbA hS h177 dL_law_966 ?_
  refine lv_aload_n hx hb dL_law_967 rfl (lv_at hl 1 rfl) ?_
  refine lv_iload hx hb dL_law_968 (lv_at hl 5 rfl) ?_
  refine lv_iconst (v := (2:Int32)) hx hb dL_law_970 (by decide) ?_
  refine lv_iadd hx hb dL_law_971 ?_
  obtain ⟨h178, hf⟩ := gi_some hf
  refine va_sld hx hb hX hbl hbA hS h178 dL_law_972 ?_
  obtain ⟨q179, hq179, hf⟩ := bd_some hf
  refine g_callVi S (As := [.int (xs (i4 + (1:Int32)).toNatClampNeg), .int (xs (i4 + (2:Int32)).toNatClampNeg)]) (gs' := [maW a0 (a1 0) (a2 0) (a3 0) (a4 0) (a7 0 0) (a8 0) (a9 0) (a9 1), stW G a1 q176.2.1, stW G a2 v2, rdW G a3 v3, scW a4 (a5 0) (a6 0), stW G a5 v5, rdW G a6 v6, paW G a7 q176.2.2.1, txW G a8 v8, slW G a9 (a10 0) (a11 0) v9, stW G a10 v10, stW G a11 v11, mdW G a12 q179.2, ouW G a13 q176.2.2.2]) (c_X6_give l G a12 v12 (xs (i4 + (1:Int32)).toNatClampNeg) (xs (i4 + (2:Int32)).toNatClampNeg) hq179) (cwV 2 hts gL_law_X6_give rfl rfl rfl hd_X6_give ⟨Nat.le_of_ble_eq_true rfl, Nat.le_of_ble_eq_true rfl⟩) hK hP hD hS hA (is := [12]) rfl rfl 12 rfl rfl rfl rfl hl.1 rfl (Nat.le_of_ble_eq_true rfl) dL_law_973 ⟨by show c9 + 3 + 0 ≤ 601024; omega, by show s9 + 18 + 0 ≤ 7293033; omega⟩ rfl (fun H locs hP hD hS => ?_)
  refine lv_istore (lv' := [(6, .int q179.1), (5, .int q176.1), (0, .ref b), (1, .ref (a0 0)), (2, .ref (a12 0)), (3, .ref (a13 0)), (4, .int i4)]) hx hb dL_law_976 hl (by decide) rfl (fun ls hl => ?_)
  refine lv_aload_n hx hb dL_law_978 rfl (lv_at hl 4 rfl) ?_
  obtain ⟨q180, hq180, hf⟩ := bd_some hf
  refine g_callVi S (As := []) (gs' := [maW a0 (a1 0) (a2 0) (a3 0) (a4 0) (a7 0 0) (a8 0) (a9 0) (a9 1), stW G a1 q176.2.1, stW G a2 v2, rdW G a3 v3, scW a4 (a5 0) (a6 0), stW G a5 v5, rdW G a6 v6, paW G a7 q176.2.2.1, txW G a8 v8, slW G a9 (a10 0) (a11 0) v9, stW G a10 v10, stW G a11 v11, mdW G a12 q179.2, ouW G a13 q176.2.2.2]) (c_X6_thrown l G a12 q179.2 hq180) (cwV 0 hts gL_law_X6_thrown rfl rfl rfl hd_X6_thrown ⟨Nat.le_of_ble_eq_true rfl, Nat.le_of_ble_eq_true rfl⟩) hK hP hD hS hA (is := [12]) rfl rfl 12 rfl rfl rfl rfl hl.1 rfl (Nat.le_of_ble_eq_true rfl) dL_law_979 ⟨by show c9 + 3 + 0 ≤ 601024; omega, by show s9 + 18 + 0 ≤ 7293033; omega⟩ rfl (fun H locs hP hD hS => ?_)
  refine lv_iload hx hb dL_law_982 (lv_at hl 1 rfl) ?_
  refine lv_icmp_eq (tgt := 989) hx hb dL_law_984 (by decide) (fun c181 => ?_) (fun c181 => ?_)
  · rw [if_pos c181] at hf
    refine lv_iload hx hb dL_law_989 (lv_at hl 1 rfl) ?_
    refine lv_if_ne (tgt := 1006) hx hb dL_law_991 (by decide) (fun c182 => ?_) (fun c182 => ?_)
    · rw [if_neg c182] at hf
      refine lv_goto (tgt := 1796) hx hb dL_law_1006 (by decide) ?_
      cases hf
      refine W.widen (k := c9 + 4) (n := s9 + 24) (by omega) (by omega) ?_
      exact K H locs ls hP hD hS (lv_sub hl [2, 3, 4, 5, 6] rfl)
    · rw [if_pos c182] at hf
      refine lv_aload_n hx hb dL_law_994 rfl (lv_at hl 5 rfl) ?_
      refine lv_iconst (v := (0:Int32)) hx hb dL_law_995 (by decide) ?_
      obtain ⟨h183, hf⟩ := gi_some hf
      refine g_lald hx hb hK hP 13 0 3 rfl rfl rfl h183 dL_law_996 ?_
      refine lv_iload hx hb dL_law_997 (lv_at hl 0 rfl) ?_
      refine lv_i2l (v := q179.1.toInt64) hx hb dL_law_999 rfl ?_
      refine W.lcmp hx hb dL_law_1000 ?_
      obtain ⟨x184, ex184, hf⟩ := lt_some hf
      refine lv_nmi ex184 ?_
      refine lv_if_eq (tgt := 1006) hx hb dL_law_1001 (by decide) (fun c185 => ?_) (fun c185 => ?_)
      · rw [if_pos c185] at hf
        refine lv_goto (tgt := 1796) hx hb dL_law_1006 (by decide) ?_
        cases hf
        refine W.widen (k := c9 + 4) (n := s9 + 24) (by omega) (by omega) ?_
        exact K H locs ls hP hD hS (lv_sub hl [2, 3, 4, 5, 6] rfl)
      · rw [if_neg c185] at hf
        refine lv_iconst (v := (0:Int32)) hx hb dL_law_1004 (by decide) ?_
        cases hf
  · rw [if_neg c181] at hf
    refine lv_iconst (v := (0:Int32)) hx hb dL_law_987 (by decide) ?_
    cases hf
set_option maxHeartbeats 8000000 in
set_option maxRecDepth 100000 in
theorem w_law_1009 {p : Program} {l : Launch} (hl0 : l.stackTraces = false) {e : Env} {s : State} {m : MethodId} {below : List Frame} {meth : Method} {c : Code} {b L : Nat} {xs : Nat → Int32} {A : Nat → Prop} (S : Ev p s m #[Value.ref b] meth c cL_law 7 (some .boolean) RL wsL_law) {G : uG} (hK : kK G s) (hA : ∀ q, s.heap.size ≤ q → A q) (hTH : gTH A s s.heap) (hX : va_X b L xs s s.heap) (hbl : b < s.heap.size) (hbA : ¬ A b) (a0 : Nat → Nat) (a1 : Nat → Nat) (a2 : Nat → Nat) (a3 : Nat → Nat) (a4 : Nat → Nat) (a5 : Nat → Nat) (a6 : Nat → Nat) (a7 : Nat → Nat → Nat) (a8 : Nat → Nat) (a9 : Nat → Nat) (a10 : Nat → Nat) (a11 : Nat → Nat) (a12 : Nat → Nat) (a13 : Nat → Nat) (i4 : Int32) (v1 : StV) (v2 : StV) (v3 : RdV) (v5 : StV) (v6 : RdV) (v7 : PaV) (v8 : TxV) (v9 : SlV) (v10 : StV) (v11 : StV) (v12 : MdV) (v13 : OuV) {w9 : LwV} {Q : State → Prop} {c9 s9 : Nat} (hc9 : c9 + 4 ≤ 601024) (hs9 : s9 + 24 ≤ 7293033) (hf : f_law_1009 xs L i4 v1 v2 v3 v5 v6 v7 v8 v9 v10 v11 v12 v13 = some w9) {H : Heap} {locs : List Loc} {ls : Array Slot} (hP : gP G [maW a0 (a1 0) (a2 0) (a3 0) (a4 0) (a7 0 0) (a8 0) (a9 0) (a9 1), stW G a1 v1, stW G a2 v2, rdW G a3 v3, scW a4 (a5 0) (a6 0), stW G a5 v5, rdW G a6 v6, paW G a7 v7, txW G a8 v8, slW G a9 (a10 0) (a11 0) v9, stW G a10 v10, stW G a11 v11, mdW G a12 v12, ouW G a13 v13] H) (hD : gD A [maW a0 (a1 0) (a2 0) (a3 0) (a4 0) (a7 0 0) (a8 0) (a9 0) (a9 1), stW G a1 v1, stW G a2 v2, rdW G a3 v3, scW a4 (a5 0) (a6 0), stW G a5 v5, rdW G a6 v6, paW G a7 v7, txW G a8 v8, slW G a9 (a10 0) (a11 0) v9, stW G a10 v10, stW G a11 v11, mdW G a12 v12, ouW G a13 v13]) (hS : va_S A s.heap H locs) (hl : lv_has ls 7 [(0, .ref b), (1, .ref (a0 0)), (2, .ref (a12 0)), (3, .ref (a13 0)), (4, .int i4)]) (K : ∀ (H : Heap) (locs : List Loc) (ls : Array Slot), gP G [maW a0 (a1 0) (a2 0) (a3 0) (a4 0) (a7 0 0) (a8 0) (a9 0) (a9 1), stW G a1 w9.1, stW G a2 w9.2.1, rdW G a3 w9.2.2.1, scW a4 (a5 0) (a6 0), stW G a5 w9.2.2.2.1, rdW G a6 w9.2.2.2.2.1, paW G a7 w9.2.2.2.2.2.1, txW G a8 w9.2.2.2.2.2.2.1, slW G a9 (a10 0) (a11 0) w9.2.2.2.2.2.2.2.1, stW G a10 w9.2.2.2.2.2.2.2.2.1, stW G a11 w9.2.2.2.2.2.2.2.2.2.1, mdW G a12 w9.2.2.2.2.2.2.2.2.2.2.1, ouW G a13 w9.2.2.2.2.2.2.2.2.2.2.2] H → gD A [maW a0 (a1 0) (a2 0) (a3 0) (a4 0) (a7 0 0) (a8 0) (a9 0) (a9 1), stW G a1 w9.1, stW G a2 w9.2.1, rdW G a3 w9.2.2.1, scW a4 (a5 0) (a6 0), stW G a5 w9.2.2.2.1, rdW G a6 w9.2.2.2.2.1, paW G a7 w9.2.2.2.2.2.1, txW G a8 w9.2.2.2.2.2.2.1, slW G a9 (a10 0) (a11 0) w9.2.2.2.2.2.2.2.1, stW G a10 w9.2.2.2.2.2.2.2.2.1, stW G a11 w9.2.2.2.2.2.2.2.2.2.1, mdW G a12 w9.2.2.2.2.2.2.2.2.2.2.1, ouW G a13 w9.2.2.2.2.2.2.2.2.2.2.2] → va_S A s.heap H locs → lv_has ls 7 [(0, .ref b), (1, .ref (a0 0)), (2, .ref (a12 0)), (3, .ref (a13 0)), (4, .int i4)] → W p l e room_1 s m #[Value.ref b] below meth c H locs (c9 + 4) (s9 + 24) Q (F0 m 1796 ls [])) : W p l e room_1 s m #[Value.ref b] below meth c H locs (c9) (s9) Q (F0 m 1009 ls []) := by
  obtain ⟨hx, hb, hml, hown, hts, hr, hlocks⟩ := id S
  unfold f_law_1009 at hf
  refine lv_aload_n hx hb dL_law_1009 rfl (lv_at hl 1 rfl) ?_
  refine lv_aload_n hx hb dL_law_1010 rfl (lv_at hl 3 rfl) ?_
  obtain ⟨q186, hq186, hf⟩ := bd_some hf
  refine g_callHi S (As := [.ref (a0 0), .ref (a13 0)]) (gs' := [maW a0 (a1 0) (a2 0) (a3 0) (a4 0) (a7 0 0) (a8 0) (a9 0) (a9 1), stW G a1 q186.2.1, stW G a2 v2, rdW G a3 q186.2.2.1, scW a4 (a5 0) (a6 0), stW G a5 v5, rdW G a6 v6, paW G a7 q186.2.2.2.1, txW G a8 v8, slW G a9 (a10 0) (a11 0) v9, stW G a10 v10, stW G a11 v11, mdW G a12 v12, ouW G a13 q186.2.2.2.2]) (c_L_month l hl0 G a0 a1 a2 a3 a4 a5 a6 a7 a8 a9 a10 a11 a13 v1 v3 v7 v13 hq186) (vx_cwSW 2 hts gL_law_L_month rfl rfl rfl hd_L_month.2 ⟨(Nat.le_of_ble_eq_true rfl), (Nat.le_of_ble_eq_true rfl)⟩) hTH hK hP hD hS hA (is := [0, 1, 3, 7, 13]) rfl rfl rfl hl.1 rfl (Nat.le_of_ble_eq_true rfl) dL_law_1011 ⟨by show c9 + 1 ≤ 601024; omega, by show s9 + 6 ≤ 7293033; omega⟩ rfl (fun H locs hP hD hS => ?_)
  refine lv_istore (lv' := [(5, .int q186.1), (0, .ref b), (1, .ref (a0 0)), (2, .ref (a12 0)), (3, .ref (a13 0)), (4, .int i4)]) hx hb dL_law_1014 hl (by decide) rfl (fun ls hl => ?_)
  refine lv_aload_n hx hb dL_law_1016 rfl (lv_at hl 3 rfl) ?_
  obtain ⟨q187, hq187, hf⟩ := bd_some hf
  refine g_callVi S (As := []) (gs' := [maW a0 (a1 0) (a2 0) (a3 0) (a4 0) (a7 0 0) (a8 0) (a9 0) (a9 1), stW G a1 q186.2.1, stW G a2 v2, rdW G a3 q186.2.2.1, scW a4 (a5 0) (a6 0), stW G a5 v5, rdW G a6 v6, paW G a7 q186.2.2.2.1, txW G a8 v8, slW G a9 (a10 0) (a11 0) v9, stW G a10 v10, stW G a11 v11, mdW G a12 q187.2, ouW G a13 q186.2.2.2.2]) (c_X6_month l G a12 v12 hq187) (cwV 0 hts gL_law_X6_month rfl rfl rfl hd_X6_month ⟨Nat.le_of_ble_eq_true rfl, Nat.le_of_ble_eq_true rfl⟩) hK hP hD hS hA (is := [12]) rfl rfl 12 rfl rfl rfl rfl hl.1 rfl (Nat.le_of_ble_eq_true rfl) dL_law_1017 ⟨by show c9 + 1 + 0 ≤ 601024; omega, by show s9 + 6 + 0 ≤ 7293033; omega⟩ rfl (fun H locs hP hD hS => ?_)
  refine lv_istore (lv' := [(6, .int q187.1), (5, .int q186.1), (0, .ref b), (1, .ref (a0 0)), (2, .ref (a12 0)), (3, .ref (a13 0)), (4, .int i4)]) hx hb dL_law_1020 hl (by decide) rfl (fun ls hl => ?_)
  refine lv_aload_n hx hb dL_law_1022 rfl (lv_at hl 4 rfl) ?_
  obtain ⟨q188, hq188, hf⟩ := bd_some hf
  refine g_callVi S (As := []) (gs' := [maW a0 (a1 0) (a2 0) (a3 0) (a4 0) (a7 0 0) (a8 0) (a9 0) (a9 1), stW G a1 q186.2.1, stW G a2 v2, rdW G a3 q186.2.2.1, scW a4 (a5 0) (a6 0), stW G a5 v5, rdW G a6 v6, paW G a7 q186.2.2.2.1, txW G a8 v8, slW G a9 (a10 0) (a11 0) v9, stW G a10 v10, stW G a11 v11, mdW G a12 q187.2, ouW G a13 q186.2.2.2.2]) (c_X6_thrown l G a12 q187.2 hq188) (cwV 0 hts gL_law_X6_thrown rfl rfl rfl hd_X6_thrown ⟨Nat.le_of_ble_eq_true rfl, Nat.le_of_ble_eq_true rfl⟩) hK hP hD hS hA (is := [12]) rfl rfl 12 rfl rfl rfl rfl hl.1 rfl (Nat.le_of_ble_eq_true rfl) dL_law_1023 ⟨by show c9 + 1 + 0 ≤ 601024; omega, by show s9 + 6 + 0 ≤ 7293033; omega⟩ rfl (fun H locs hP hD hS => ?_)
  refine lv_iload hx hb dL_law_1026 (lv_at hl 1 rfl) ?_
  refine lv_icmp_eq (tgt := 1033) hx hb dL_law_1028 (by decide) (fun c189 => ?_) (fun c189 => ?_)
  · rw [if_pos c189] at hf
    refine lv_iload hx hb dL_law_1033 (lv_at hl 1 rfl) ?_
    refine lv_if_ne (tgt := 1050) hx hb dL_law_1035 (by decide) (fun c190 => ?_) (fun c190 => ?_)
    · rw [if_neg c190] at hf
      refine lv_goto (tgt := 1796) hx hb dL_law_1050 (by decide) ?_
      cases hf
      refine W.widen (k := c9 + 4) (n := s9 + 24) (by omega) (by omega) ?_
      exact K H locs ls hP hD hS (lv_sub hl [2, 3, 4, 5, 6] rfl)
    · rw [if_pos c190] at hf
      refine lv_aload_n hx hb dL_law_1038 rfl (lv_at hl 5 rfl) ?_
      refine lv_iconst (v := (0:Int32)) hx hb dL_law_1039 (by decide) ?_
      obtain ⟨h191, hf⟩ := gi_some hf
      refine g_lald hx hb hK hP 13 0 3 rfl rfl rfl h191 dL_law_1040 ?_
      refine lv_iload hx hb dL_law_1041 (lv_at hl 0 rfl) ?_
      refine lv_i2l (v := q187.1.toInt64) hx hb dL_law_1043 rfl ?_
      refine W.lcmp hx hb dL_law_1044 ?_
      obtain ⟨x192, ex192, hf⟩ := lt_some hf
      refine lv_nmi ex192 ?_
      refine lv_if_eq (tgt := 1050) hx hb dL_law_1045 (by decide) (fun c193 => ?_) (fun c193 => ?_)
      · rw [if_pos c193] at hf
        refine lv_goto (tgt := 1796) hx hb dL_law_1050 (by decide) ?_
        cases hf
        refine W.widen (k := c9 + 4) (n := s9 + 24) (by omega) (by omega) ?_
        exact K H locs ls hP hD hS (lv_sub hl [2, 3, 4, 5, 6] rfl)
      · rw [if_neg c193] at hf
        refine lv_iconst (v := (0:Int32)) hx hb dL_law_1048 (by decide) ?_
        cases hf
  · rw [if_neg c189] at hf
    refine lv_iconst (v := (0:Int32)) hx hb dL_law_1031 (by decide) ?_
    cases hf
set_option maxHeartbeats 8000000 in
set_option maxRecDepth 100000 in
theorem w_law_1053 {p : Program} {l : Launch} (hl0 : l.stackTraces = false) {e : Env} {s : State} {m : MethodId} {below : List Frame} {meth : Method} {c : Code} {b L : Nat} {xs : Nat → Int32} {A : Nat → Prop} (S : Ev p s m #[Value.ref b] meth c cL_law 7 (some .boolean) RL wsL_law) {G : uG} (hK : kK G s) (hA : ∀ q, s.heap.size ≤ q → A q) (hTH : gTH A s s.heap) (hX : va_X b L xs s s.heap) (hbl : b < s.heap.size) (hbA : ¬ A b) (a0 : Nat → Nat) (a1 : Nat → Nat) (a2 : Nat → Nat) (a3 : Nat → Nat) (a4 : Nat → Nat) (a5 : Nat → Nat) (a6 : Nat → Nat) (a7 : Nat → Nat → Nat) (a8 : Nat → Nat) (a9 : Nat → Nat) (a10 : Nat → Nat) (a11 : Nat → Nat) (a12 : Nat → Nat) (a13 : Nat → Nat) (i4 : Int32) (v1 : StV) (v2 : StV) (v3 : RdV) (v5 : StV) (v6 : RdV) (v7 : PaV) (v8 : TxV) (v9 : SlV) (v10 : StV) (v11 : StV) (v12 : MdV) (v13 : OuV) {w9 : LwV} {Q : State → Prop} {c9 s9 : Nat} (hc9 : c9 + 4 ≤ 601024) (hs9 : s9 + 24 ≤ 7293033) (hf : f_law_1053 xs L i4 v1 v2 v3 v5 v6 v7 v8 v9 v10 v11 v12 v13 = some w9) {H : Heap} {locs : List Loc} {ls : Array Slot} (hP : gP G [maW a0 (a1 0) (a2 0) (a3 0) (a4 0) (a7 0 0) (a8 0) (a9 0) (a9 1), stW G a1 v1, stW G a2 v2, rdW G a3 v3, scW a4 (a5 0) (a6 0), stW G a5 v5, rdW G a6 v6, paW G a7 v7, txW G a8 v8, slW G a9 (a10 0) (a11 0) v9, stW G a10 v10, stW G a11 v11, mdW G a12 v12, ouW G a13 v13] H) (hD : gD A [maW a0 (a1 0) (a2 0) (a3 0) (a4 0) (a7 0 0) (a8 0) (a9 0) (a9 1), stW G a1 v1, stW G a2 v2, rdW G a3 v3, scW a4 (a5 0) (a6 0), stW G a5 v5, rdW G a6 v6, paW G a7 v7, txW G a8 v8, slW G a9 (a10 0) (a11 0) v9, stW G a10 v10, stW G a11 v11, mdW G a12 v12, ouW G a13 v13]) (hS : va_S A s.heap H locs) (hl : lv_has ls 7 [(0, .ref b), (1, .ref (a0 0)), (2, .ref (a12 0)), (3, .ref (a13 0)), (4, .int i4)]) (K : ∀ (H : Heap) (locs : List Loc) (ls : Array Slot), gP G [maW a0 (a1 0) (a2 0) (a3 0) (a4 0) (a7 0 0) (a8 0) (a9 0) (a9 1), stW G a1 w9.1, stW G a2 w9.2.1, rdW G a3 w9.2.2.1, scW a4 (a5 0) (a6 0), stW G a5 w9.2.2.2.1, rdW G a6 w9.2.2.2.2.1, paW G a7 w9.2.2.2.2.2.1, txW G a8 w9.2.2.2.2.2.2.1, slW G a9 (a10 0) (a11 0) w9.2.2.2.2.2.2.2.1, stW G a10 w9.2.2.2.2.2.2.2.2.1, stW G a11 w9.2.2.2.2.2.2.2.2.2.1, mdW G a12 w9.2.2.2.2.2.2.2.2.2.2.1, ouW G a13 w9.2.2.2.2.2.2.2.2.2.2.2] H → gD A [maW a0 (a1 0) (a2 0) (a3 0) (a4 0) (a7 0 0) (a8 0) (a9 0) (a9 1), stW G a1 w9.1, stW G a2 w9.2.1, rdW G a3 w9.2.2.1, scW a4 (a5 0) (a6 0), stW G a5 w9.2.2.2.1, rdW G a6 w9.2.2.2.2.1, paW G a7 w9.2.2.2.2.2.1, txW G a8 w9.2.2.2.2.2.2.1, slW G a9 (a10 0) (a11 0) w9.2.2.2.2.2.2.2.1, stW G a10 w9.2.2.2.2.2.2.2.2.1, stW G a11 w9.2.2.2.2.2.2.2.2.2.1, mdW G a12 w9.2.2.2.2.2.2.2.2.2.2.1, ouW G a13 w9.2.2.2.2.2.2.2.2.2.2.2] → va_S A s.heap H locs → lv_has ls 7 [(0, .ref b), (1, .ref (a0 0)), (2, .ref (a12 0)), (3, .ref (a13 0)), (4, .int i4)] → W p l e room_1 s m #[Value.ref b] below meth c H locs (c9 + 4) (s9 + 24) Q (F0 m 1796 ls [])) : W p l e room_1 s m #[Value.ref b] below meth c H locs (c9) (s9) Q (F0 m 1053 ls []) := by
  obtain ⟨hx, hb, hml, hown, hts, hr, hlocks⟩ := id S
  unfold f_law_1053 at hf
  refine lv_aload_n hx hb dL_law_1053 rfl (lv_at hl 1 rfl) ?_
  refine lv_aload_n hx hb dL_law_1054 rfl (lv_at hl 0 rfl) ?_
  refine lv_iload hx hb dL_law_1055 (lv_at hl 4 rfl) ?_
  refine lv_iconst (v := (1:Int32)) hx hb dL_law_1057 (by decide) ?_
  refine lv_iadd hx hb dL_law_1058 ?_
  obtain ⟨h194, hf⟩ := gi_some hf
  refine va_sld hx hb hX hbl hbA hS h194 dL_law_1059 ?_
  refine lv_aload_n hx hb dL_law_1060 rfl (lv_at hl 3 rfl) ?_
  obtain ⟨q195, hq195, hf⟩ := bd_some hf
  refine g_callHi S (As := [.ref (a0 0), .int (xs (i4 + (1:Int32)).toNatClampNeg), .ref (a13 0)]) (gs' := [maW a0 (a1 0) (a2 0) (a3 0) (a4 0) (a7 0 0) (a8 0) (a9 0) (a9 1), stW G a1 q195.2.1, stW G a2 v2, rdW G a3 v3, scW a4 (a5 0) (a6 0), stW G a5 v5, rdW G a6 v6, paW G a7 q195.2.2.1, txW G a8 v8, slW G a9 (a10 0) (a11 0) v9, stW G a10 v10, stW G a11 v11, mdW G a12 v12, ouW G a13 q195.2.2.2]) (c_L_leave l hl0 G a0 a1 a2 a3 a4 a5 a6 a7 a8 a9 a10 a11 a13 v1 v7 v13 (xs (i4 + (1:Int32)).toNatClampNeg) hq195) (vx_cwSW 3 hts gL_law_L_leave rfl rfl rfl hd_L_leave.2 ⟨(Nat.le_of_ble_eq_true rfl), (Nat.le_of_ble_eq_true rfl)⟩) hTH hK hP hD hS hA (is := [0, 1, 7, 13]) rfl rfl rfl hl.1 rfl (Nat.le_of_ble_eq_true rfl) dL_law_1061 ⟨by show c9 + 2 ≤ 601024; omega, by show s9 + 12 ≤ 7293033; omega⟩ rfl (fun H locs hP hD hS => ?_)
  refine lv_istore (lv' := [(5, .int q195.1), (0, .ref b), (1, .ref (a0 0)), (2, .ref (a12 0)), (3, .ref (a13 0)), (4, .int i4)]) hx hb dL_law_1064 hl (by decide) rfl (fun ls hl => ?_)
  refine lv_aload_n hx hb dL_law_1066 rfl (lv_at hl 3 rfl) ?_
  refine lv_aload_n hx hb dL_law_1067 rfl (lv_at hl 1 rfl) ?_
  refine lv_iload hx hb dL_law_1068 (lv_at hl 5 rfl) ?_
  refine lv_iconst (v := (1:Int32)) hx hb dL_law_1070 (by decide) ?_
  refine lv_iadd hx hb dL_law_1071 ?_
  obtain ⟨h196, hf⟩ := gi_some hf
  refine va_sld hx hb hX hbl hbA hS h196 dL_law_1072 ?_
  obtain ⟨q197, hq197, hf⟩ := bd_some hf
  refine g_callVi S (As := [.int (xs (i4 + (1:Int32)).toNatClampNeg)]) (gs' := [maW a0 (a1 0) (a2 0) (a3 0) (a4 0) (a7 0 0) (a8 0) (a9 0) (a9 1), stW G a1 q195.2.1, stW G a2 v2, rdW G a3 v3, scW a4 (a5 0) (a6 0), stW G a5 v5, rdW G a6 v6, paW G a7 q195.2.2.1, txW G a8 v8, slW G a9 (a10 0) (a11 0) v9, stW G a10 v10, stW G a11 v11, mdW G a12 q197.2, ouW G a13 q195.2.2.2]) (c_X6_leave l G a12 v12 (xs (i4 + (1:Int32)).toNatClampNeg) hq197) (cwV 1 hts gL_law_X6_leave rfl rfl rfl hd_X6_leave ⟨Nat.le_of_ble_eq_true rfl, Nat.le_of_ble_eq_true rfl⟩) hK hP hD hS hA (is := [12]) rfl rfl 12 rfl rfl rfl rfl hl.1 rfl (Nat.le_of_ble_eq_true rfl) dL_law_1073 ⟨by show c9 + 2 + 0 ≤ 601024; omega, by show s9 + 12 + 0 ≤ 7293033; omega⟩ rfl (fun H locs hP hD hS => ?_)
  refine lv_istore (lv' := [(6, .int q197.1), (5, .int q195.1), (0, .ref b), (1, .ref (a0 0)), (2, .ref (a12 0)), (3, .ref (a13 0)), (4, .int i4)]) hx hb dL_law_1076 hl (by decide) rfl (fun ls hl => ?_)
  refine lv_aload_n hx hb dL_law_1078 rfl (lv_at hl 4 rfl) ?_
  obtain ⟨q198, hq198, hf⟩ := bd_some hf
  refine g_callVi S (As := []) (gs' := [maW a0 (a1 0) (a2 0) (a3 0) (a4 0) (a7 0 0) (a8 0) (a9 0) (a9 1), stW G a1 q195.2.1, stW G a2 v2, rdW G a3 v3, scW a4 (a5 0) (a6 0), stW G a5 v5, rdW G a6 v6, paW G a7 q195.2.2.1, txW G a8 v8, slW G a9 (a10 0) (a11 0) v9, stW G a10 v10, stW G a11 v11, mdW G a12 q197.2, ouW G a13 q195.2.2.2]) (c_X6_thrown l G a12 q197.2 hq198) (cwV 0 hts gL_law_X6_thrown rfl rfl rfl hd_X6_thrown ⟨Nat.le_of_ble_eq_true rfl, Nat.le_of_ble_eq_true rfl⟩) hK hP hD hS hA (is := [12]) rfl rfl 12 rfl rfl rfl rfl hl.1 rfl (Nat.le_of_ble_eq_true rfl) dL_law_1079 ⟨by show c9 + 2 + 0 ≤ 601024; omega, by show s9 + 12 + 0 ≤ 7293033; omega⟩ rfl (fun H locs hP hD hS => ?_)
  refine lv_iload hx hb dL_law_1082 (lv_at hl 1 rfl) ?_
  refine lv_icmp_eq (tgt := 1089) hx hb dL_law_1084 (by decide) (fun c199 => ?_) (fun c199 => ?_)
  · rw [if_pos c199] at hf
    refine lv_iload hx hb dL_law_1089 (lv_at hl 1 rfl) ?_
    refine lv_if_ne (tgt := 1106) hx hb dL_law_1091 (by decide) (fun c200 => ?_) (fun c200 => ?_)
    · rw [if_neg c200] at hf
      refine lv_goto (tgt := 1796) hx hb dL_law_1106 (by decide) ?_
      cases hf
      refine W.widen (k := c9 + 4) (n := s9 + 24) (by omega) (by omega) ?_
      exact K H locs ls hP hD hS (lv_sub hl [2, 3, 4, 5, 6] rfl)
    · rw [if_pos c200] at hf
      refine lv_aload_n hx hb dL_law_1094 rfl (lv_at hl 5 rfl) ?_
      refine lv_iconst (v := (0:Int32)) hx hb dL_law_1095 (by decide) ?_
      obtain ⟨h201, hf⟩ := gi_some hf
      refine g_lald hx hb hK hP 13 0 3 rfl rfl rfl h201 dL_law_1096 ?_
      refine lv_iload hx hb dL_law_1097 (lv_at hl 0 rfl) ?_
      refine lv_i2l (v := q197.1.toInt64) hx hb dL_law_1099 rfl ?_
      refine W.lcmp hx hb dL_law_1100 ?_
      obtain ⟨x202, ex202, hf⟩ := lt_some hf
      refine lv_nmi ex202 ?_
      refine lv_if_eq (tgt := 1106) hx hb dL_law_1101 (by decide) (fun c203 => ?_) (fun c203 => ?_)
      · rw [if_pos c203] at hf
        refine lv_goto (tgt := 1796) hx hb dL_law_1106 (by decide) ?_
        cases hf
        refine W.widen (k := c9 + 4) (n := s9 + 24) (by omega) (by omega) ?_
        exact K H locs ls hP hD hS (lv_sub hl [2, 3, 4, 5, 6] rfl)
      · rw [if_neg c203] at hf
        refine lv_iconst (v := (0:Int32)) hx hb dL_law_1104 (by decide) ?_
        cases hf
  · rw [if_neg c199] at hf
    refine lv_iconst (v := (0:Int32)) hx hb dL_law_1087 (by decide) ?_
    cases hf
set_option maxHeartbeats 8000000 in
set_option maxRecDepth 100000 in
theorem w_law_1109 {p : Program} {l : Launch} (hl0 : l.stackTraces = false) {e : Env} {s : State} {m : MethodId} {below : List Frame} {meth : Method} {c : Code} {b L : Nat} {xs : Nat → Int32} {A : Nat → Prop} (S : Ev p s m #[Value.ref b] meth c cL_law 7 (some .boolean) RL wsL_law) {G : uG} (hK : kK G s) (hA : ∀ q, s.heap.size ≤ q → A q) (hTH : gTH A s s.heap) (hX : va_X b L xs s s.heap) (hbl : b < s.heap.size) (hbA : ¬ A b) (a0 : Nat → Nat) (a1 : Nat → Nat) (a2 : Nat → Nat) (a3 : Nat → Nat) (a4 : Nat → Nat) (a5 : Nat → Nat) (a6 : Nat → Nat) (a7 : Nat → Nat → Nat) (a8 : Nat → Nat) (a9 : Nat → Nat) (a10 : Nat → Nat) (a11 : Nat → Nat) (a12 : Nat → Nat) (a13 : Nat → Nat) (i4 : Int32) (v1 : StV) (v2 : StV) (v3 : RdV) (v5 : StV) (v6 : RdV) (v7 : PaV) (v8 : TxV) (v9 : SlV) (v10 : StV) (v11 : StV) (v12 : MdV) (v13 : OuV) {w9 : LwV} {Q : State → Prop} {c9 s9 : Nat} (hc9 : c9 + 4 ≤ 601024) (hs9 : s9 + 24 ≤ 7293033) (hf : f_law_1109 xs L i4 v1 v2 v3 v5 v6 v7 v8 v9 v10 v11 v12 v13 = some w9) {H : Heap} {locs : List Loc} {ls : Array Slot} (hP : gP G [maW a0 (a1 0) (a2 0) (a3 0) (a4 0) (a7 0 0) (a8 0) (a9 0) (a9 1), stW G a1 v1, stW G a2 v2, rdW G a3 v3, scW a4 (a5 0) (a6 0), stW G a5 v5, rdW G a6 v6, paW G a7 v7, txW G a8 v8, slW G a9 (a10 0) (a11 0) v9, stW G a10 v10, stW G a11 v11, mdW G a12 v12, ouW G a13 v13] H) (hD : gD A [maW a0 (a1 0) (a2 0) (a3 0) (a4 0) (a7 0 0) (a8 0) (a9 0) (a9 1), stW G a1 v1, stW G a2 v2, rdW G a3 v3, scW a4 (a5 0) (a6 0), stW G a5 v5, rdW G a6 v6, paW G a7 v7, txW G a8 v8, slW G a9 (a10 0) (a11 0) v9, stW G a10 v10, stW G a11 v11, mdW G a12 v12, ouW G a13 v13]) (hS : va_S A s.heap H locs) (hl : lv_has ls 7 [(0, .ref b), (1, .ref (a0 0)), (2, .ref (a12 0)), (3, .ref (a13 0)), (4, .int i4)]) (K : ∀ (H : Heap) (locs : List Loc) (ls : Array Slot), gP G [maW a0 (a1 0) (a2 0) (a3 0) (a4 0) (a7 0 0) (a8 0) (a9 0) (a9 1), stW G a1 w9.1, stW G a2 w9.2.1, rdW G a3 w9.2.2.1, scW a4 (a5 0) (a6 0), stW G a5 w9.2.2.2.1, rdW G a6 w9.2.2.2.2.1, paW G a7 w9.2.2.2.2.2.1, txW G a8 w9.2.2.2.2.2.2.1, slW G a9 (a10 0) (a11 0) w9.2.2.2.2.2.2.2.1, stW G a10 w9.2.2.2.2.2.2.2.2.1, stW G a11 w9.2.2.2.2.2.2.2.2.2.1, mdW G a12 w9.2.2.2.2.2.2.2.2.2.2.1, ouW G a13 w9.2.2.2.2.2.2.2.2.2.2.2] H → gD A [maW a0 (a1 0) (a2 0) (a3 0) (a4 0) (a7 0 0) (a8 0) (a9 0) (a9 1), stW G a1 w9.1, stW G a2 w9.2.1, rdW G a3 w9.2.2.1, scW a4 (a5 0) (a6 0), stW G a5 w9.2.2.2.1, rdW G a6 w9.2.2.2.2.1, paW G a7 w9.2.2.2.2.2.1, txW G a8 w9.2.2.2.2.2.2.1, slW G a9 (a10 0) (a11 0) w9.2.2.2.2.2.2.2.1, stW G a10 w9.2.2.2.2.2.2.2.2.1, stW G a11 w9.2.2.2.2.2.2.2.2.2.1, mdW G a12 w9.2.2.2.2.2.2.2.2.2.2.1, ouW G a13 w9.2.2.2.2.2.2.2.2.2.2.2] → va_S A s.heap H locs → lv_has ls 7 [(0, .ref b), (1, .ref (a0 0)), (2, .ref (a12 0)), (3, .ref (a13 0)), (4, .int i4)] → W p l e room_1 s m #[Value.ref b] below meth c H locs (c9 + 4) (s9 + 24) Q (F0 m 1796 ls [])) : W p l e room_1 s m #[Value.ref b] below meth c H locs (c9) (s9) Q (F0 m 1109 ls []) := by
  obtain ⟨hx, hb, hml, hown, hts, hr, hlocks⟩ := id S
  unfold f_law_1109 at hf
  refine lv_aload_n hx hb dL_law_1109 rfl (lv_at hl 1 rfl) ?_
  refine lv_aload_n hx hb dL_law_1110 rfl (lv_at hl 0 rfl) ?_
  refine lv_iload hx hb dL_law_1111 (lv_at hl 4 rfl) ?_
  refine lv_iconst (v := (1:Int32)) hx hb dL_law_1113 (by decide) ?_
  refine lv_iadd hx hb dL_law_1114 ?_
  obtain ⟨h204, hf⟩ := gi_some hf
  refine va_sld hx hb hX hbl hbA hS h204 dL_law_1115 ?_
  refine lv_aload_n hx hb dL_law_1116 rfl (lv_at hl 0 rfl) ?_
  refine lv_iload hx hb dL_law_1117 (lv_at hl 4 rfl) ?_
  refine lv_iconst (v := (2:Int32)) hx hb dL_law_1119 (by decide) ?_
  refine lv_iadd hx hb dL_law_1120 ?_
  obtain ⟨h205, hf⟩ := gi_some hf
  refine va_sld hx hb hX hbl hbA hS h205 dL_law_1121 ?_
  refine lv_aload_n hx hb dL_law_1122 rfl (lv_at hl 3 rfl) ?_
  obtain ⟨q206, hq206, hf⟩ := bd_some hf
  refine g_callHi S (As := [.ref (a0 0), .int (xs (i4 + (1:Int32)).toNatClampNeg), .int (xs (i4 + (2:Int32)).toNatClampNeg), .ref (a13 0)]) (gs' := [maW a0 (a1 0) (a2 0) (a3 0) (a4 0) (a7 0 0) (a8 0) (a9 0) (a9 1), stW G a1 q206.2.1, stW G a2 v2, rdW G a3 v3, scW a4 (a5 0) (a6 0), stW G a5 v5, rdW G a6 v6, paW G a7 q206.2.2.1, txW G a8 v8, slW G a9 (a10 0) (a11 0) v9, stW G a10 v10, stW G a11 v11, mdW G a12 v12, ouW G a13 q206.2.2.2]) (c_L_repay l hl0 G a0 a1 a2 a3 a4 a5 a6 a7 a8 a9 a10 a11 a13 v1 v7 v13 (xs (i4 + (1:Int32)).toNatClampNeg) (xs (i4 + (2:Int32)).toNatClampNeg) hq206) (vx_cwSW 4 hts gL_law_L_repay rfl rfl rfl hd_L_repay.2 ⟨(Nat.le_of_ble_eq_true rfl), (Nat.le_of_ble_eq_true rfl)⟩) hTH hK hP hD hS hA (is := [0, 1, 7, 13]) rfl rfl rfl hl.1 rfl (Nat.le_of_ble_eq_true rfl) dL_law_1123 ⟨by show c9 + 3 ≤ 601024; omega, by show s9 + 18 ≤ 7293033; omega⟩ rfl (fun H locs hP hD hS => ?_)
  refine lv_istore (lv' := [(5, .int q206.1), (0, .ref b), (1, .ref (a0 0)), (2, .ref (a12 0)), (3, .ref (a13 0)), (4, .int i4)]) hx hb dL_law_1126 hl (by decide) rfl (fun ls hl => ?_)
  refine lv_aload_n hx hb dL_law_1128 rfl (lv_at hl 3 rfl) ?_
  refine lv_aload_n hx hb dL_law_1129 rfl (lv_at hl 1 rfl) ?_
  refine lv_iload hx hb dL_law_1130 (lv_at hl 5 rfl) ?_
  refine lv_iconst (v := (1:Int32)) hx hb dL_law_1132 (by decide) ?_
  refine lv_iadd hx hb dL_law_1133 ?_
  obtain ⟨h207, hf⟩ := gi_some hf
  refine va_sld hx hb hX hbl hbA hS h207 dL_law_1134 ?_
  refine lv_aload_n hx hb dL_law_1135 rfl (lv_at hl 1 rfl) ?_
  refine lv_iload hx hb dL_law_1136 (lv_at hl 5 rfl) ?_
  refine lv_iconst (v := (2:Int32)) hx hb dL_law_1138 (by decide) ?_
  refine lv_iadd hx hb dL_law_1139 ?_
  obtain ⟨h208, hf⟩ := gi_some hf
  refine va_sld hx hb hX hbl hbA hS h208 dL_law_1140 ?_
  obtain ⟨q209, hq209, hf⟩ := bd_some hf
  refine g_callVi S (As := [.int (xs (i4 + (1:Int32)).toNatClampNeg), .int (xs (i4 + (2:Int32)).toNatClampNeg)]) (gs' := [maW a0 (a1 0) (a2 0) (a3 0) (a4 0) (a7 0 0) (a8 0) (a9 0) (a9 1), stW G a1 q206.2.1, stW G a2 v2, rdW G a3 v3, scW a4 (a5 0) (a6 0), stW G a5 v5, rdW G a6 v6, paW G a7 q206.2.2.1, txW G a8 v8, slW G a9 (a10 0) (a11 0) v9, stW G a10 v10, stW G a11 v11, mdW G a12 q209.2, ouW G a13 q206.2.2.2]) (c_X6_repay l G a12 v12 (xs (i4 + (1:Int32)).toNatClampNeg) (xs (i4 + (2:Int32)).toNatClampNeg) hq209) (cwV 2 hts gL_law_X6_repay rfl rfl rfl hd_X6_repay ⟨Nat.le_of_ble_eq_true rfl, Nat.le_of_ble_eq_true rfl⟩) hK hP hD hS hA (is := [12]) rfl rfl 12 rfl rfl rfl rfl hl.1 rfl (Nat.le_of_ble_eq_true rfl) dL_law_1141 ⟨by show c9 + 3 + 0 ≤ 601024; omega, by show s9 + 18 + 0 ≤ 7293033; omega⟩ rfl (fun H locs hP hD hS => ?_)
  refine lv_istore (lv' := [(6, .int q209.1), (5, .int q206.1), (0, .ref b), (1, .ref (a0 0)), (2, .ref (a12 0)), (3, .ref (a13 0)), (4, .int i4)]) hx hb dL_law_1144 hl (by decide) rfl (fun ls hl => ?_)
  refine lv_aload_n hx hb dL_law_1146 rfl (lv_at hl 4 rfl) ?_
  obtain ⟨q210, hq210, hf⟩ := bd_some hf
  refine g_callVi S (As := []) (gs' := [maW a0 (a1 0) (a2 0) (a3 0) (a4 0) (a7 0 0) (a8 0) (a9 0) (a9 1), stW G a1 q206.2.1, stW G a2 v2, rdW G a3 v3, scW a4 (a5 0) (a6 0), stW G a5 v5, rdW G a6 v6, paW G a7 q206.2.2.1, txW G a8 v8, slW G a9 (a10 0) (a11 0) v9, stW G a10 v10, stW G a11 v11, mdW G a12 q209.2, ouW G a13 q206.2.2.2]) (c_X6_thrown l G a12 q209.2 hq210) (cwV 0 hts gL_law_X6_thrown rfl rfl rfl hd_X6_thrown ⟨Nat.le_of_ble_eq_true rfl, Nat.le_of_ble_eq_true rfl⟩) hK hP hD hS hA (is := [12]) rfl rfl 12 rfl rfl rfl rfl hl.1 rfl (Nat.le_of_ble_eq_true rfl) dL_law_1147 ⟨by show c9 + 3 + 0 ≤ 601024; omega, by show s9 + 18 + 0 ≤ 7293033; omega⟩ rfl (fun H locs hP hD hS => ?_)
  refine lv_iload hx hb dL_law_1150 (lv_at hl 1 rfl) ?_
  refine lv_icmp_eq (tgt := 1157) hx hb dL_law_1152 (by decide) (fun c211 => ?_) (fun c211 => ?_)
  · rw [if_pos c211] at hf
    refine lv_iload hx hb dL_law_1157 (lv_at hl 1 rfl) ?_
    refine lv_if_ne (tgt := 1174) hx hb dL_law_1159 (by decide) (fun c212 => ?_) (fun c212 => ?_)
    · rw [if_neg c212] at hf
      refine lv_goto (tgt := 1796) hx hb dL_law_1174 (by decide) ?_
      cases hf
      refine W.widen (k := c9 + 4) (n := s9 + 24) (by omega) (by omega) ?_
      exact K H locs ls hP hD hS (lv_sub hl [2, 3, 4, 5, 6] rfl)
    · rw [if_pos c212] at hf
      refine lv_aload_n hx hb dL_law_1162 rfl (lv_at hl 5 rfl) ?_
      refine lv_iconst (v := (0:Int32)) hx hb dL_law_1163 (by decide) ?_
      obtain ⟨h213, hf⟩ := gi_some hf
      refine g_lald hx hb hK hP 13 0 3 rfl rfl rfl h213 dL_law_1164 ?_
      refine lv_iload hx hb dL_law_1165 (lv_at hl 0 rfl) ?_
      refine lv_i2l (v := q209.1.toInt64) hx hb dL_law_1167 rfl ?_
      refine W.lcmp hx hb dL_law_1168 ?_
      obtain ⟨x214, ex214, hf⟩ := lt_some hf
      refine lv_nmi ex214 ?_
      refine lv_if_eq (tgt := 1174) hx hb dL_law_1169 (by decide) (fun c215 => ?_) (fun c215 => ?_)
      · rw [if_pos c215] at hf
        refine lv_goto (tgt := 1796) hx hb dL_law_1174 (by decide) ?_
        cases hf
        refine W.widen (k := c9 + 4) (n := s9 + 24) (by omega) (by omega) ?_
        exact K H locs ls hP hD hS (lv_sub hl [2, 3, 4, 5, 6] rfl)
      · rw [if_neg c215] at hf
        refine lv_iconst (v := (0:Int32)) hx hb dL_law_1172 (by decide) ?_
        cases hf
  · rw [if_neg c211] at hf
    refine lv_iconst (v := (0:Int32)) hx hb dL_law_1155 (by decide) ?_
    cases hf
set_option maxHeartbeats 8000000 in
set_option maxRecDepth 100000 in
theorem w_law_1177 {p : Program} {l : Launch} (hl0 : l.stackTraces = false) {e : Env} {s : State} {m : MethodId} {below : List Frame} {meth : Method} {c : Code} {b L : Nat} {xs : Nat → Int32} {A : Nat → Prop} (S : Ev p s m #[Value.ref b] meth c cL_law 7 (some .boolean) RL wsL_law) {G : uG} (hK : kK G s) (hA : ∀ q, s.heap.size ≤ q → A q) (hTH : gTH A s s.heap) (hX : va_X b L xs s s.heap) (hbl : b < s.heap.size) (hbA : ¬ A b) (a0 : Nat → Nat) (a1 : Nat → Nat) (a2 : Nat → Nat) (a3 : Nat → Nat) (a4 : Nat → Nat) (a5 : Nat → Nat) (a6 : Nat → Nat) (a7 : Nat → Nat → Nat) (a8 : Nat → Nat) (a9 : Nat → Nat) (a10 : Nat → Nat) (a11 : Nat → Nat) (a12 : Nat → Nat) (a13 : Nat → Nat) (i4 : Int32) (v1 : StV) (v2 : StV) (v3 : RdV) (v5 : StV) (v6 : RdV) (v7 : PaV) (v8 : TxV) (v9 : SlV) (v10 : StV) (v11 : StV) (v12 : MdV) (v13 : OuV) {w9 : LwV} {Q : State → Prop} {c9 s9 : Nat} (hc9 : c9 + 4 ≤ 601024) (hs9 : s9 + 24 ≤ 7293033) (hf : f_law_1177 xs L i4 v1 v2 v3 v5 v6 v7 v8 v9 v10 v11 v12 v13 = some w9) {H : Heap} {locs : List Loc} {ls : Array Slot} (hP : gP G [maW a0 (a1 0) (a2 0) (a3 0) (a4 0) (a7 0 0) (a8 0) (a9 0) (a9 1), stW G a1 v1, stW G a2 v2, rdW G a3 v3, scW a4 (a5 0) (a6 0), stW G a5 v5, rdW G a6 v6, paW G a7 v7, txW G a8 v8, slW G a9 (a10 0) (a11 0) v9, stW G a10 v10, stW G a11 v11, mdW G a12 v12, ouW G a13 v13] H) (hD : gD A [maW a0 (a1 0) (a2 0) (a3 0) (a4 0) (a7 0 0) (a8 0) (a9 0) (a9 1), stW G a1 v1, stW G a2 v2, rdW G a3 v3, scW a4 (a5 0) (a6 0), stW G a5 v5, rdW G a6 v6, paW G a7 v7, txW G a8 v8, slW G a9 (a10 0) (a11 0) v9, stW G a10 v10, stW G a11 v11, mdW G a12 v12, ouW G a13 v13]) (hS : va_S A s.heap H locs) (hl : lv_has ls 7 [(0, .ref b), (1, .ref (a0 0)), (2, .ref (a12 0)), (3, .ref (a13 0)), (4, .int i4)]) (K : ∀ (H : Heap) (locs : List Loc) (ls : Array Slot), gP G [maW a0 (a1 0) (a2 0) (a3 0) (a4 0) (a7 0 0) (a8 0) (a9 0) (a9 1), stW G a1 w9.1, stW G a2 w9.2.1, rdW G a3 w9.2.2.1, scW a4 (a5 0) (a6 0), stW G a5 w9.2.2.2.1, rdW G a6 w9.2.2.2.2.1, paW G a7 w9.2.2.2.2.2.1, txW G a8 w9.2.2.2.2.2.2.1, slW G a9 (a10 0) (a11 0) w9.2.2.2.2.2.2.2.1, stW G a10 w9.2.2.2.2.2.2.2.2.1, stW G a11 w9.2.2.2.2.2.2.2.2.2.1, mdW G a12 w9.2.2.2.2.2.2.2.2.2.2.1, ouW G a13 w9.2.2.2.2.2.2.2.2.2.2.2] H → gD A [maW a0 (a1 0) (a2 0) (a3 0) (a4 0) (a7 0 0) (a8 0) (a9 0) (a9 1), stW G a1 w9.1, stW G a2 w9.2.1, rdW G a3 w9.2.2.1, scW a4 (a5 0) (a6 0), stW G a5 w9.2.2.2.1, rdW G a6 w9.2.2.2.2.1, paW G a7 w9.2.2.2.2.2.1, txW G a8 w9.2.2.2.2.2.2.1, slW G a9 (a10 0) (a11 0) w9.2.2.2.2.2.2.2.1, stW G a10 w9.2.2.2.2.2.2.2.2.1, stW G a11 w9.2.2.2.2.2.2.2.2.2.1, mdW G a12 w9.2.2.2.2.2.2.2.2.2.2.1, ouW G a13 w9.2.2.2.2.2.2.2.2.2.2.2] → va_S A s.heap H locs → lv_has ls 7 [(0, .ref b), (1, .ref (a0 0)), (2, .ref (a12 0)), (3, .ref (a13 0)), (4, .int i4)] → W p l e room_1 s m #[Value.ref b] below meth c H locs (c9 + 4) (s9 + 24) Q (F0 m 1796 ls [])) : W p l e room_1 s m #[Value.ref b] below meth c H locs (c9) (s9) Q (F0 m 1177 ls []) := by
  obtain ⟨hx, hb, hml, hown, hts, hr, hlocks⟩ := id S
  unfold f_law_1177 at hf
  refine lv_aload_n hx hb dL_law_1177 rfl (lv_at hl 1 rfl) ?_
  refine lv_aload_n hx hb dL_law_1178 rfl (lv_at hl 3 rfl) ?_
  obtain ⟨q216, hq216, hf⟩ := bd_some hf
  refine g_callHi S (As := [.ref (a0 0), .ref (a13 0)]) (gs' := [maW a0 (a1 0) (a2 0) (a3 0) (a4 0) (a7 0 0) (a8 0) (a9 0) (a9 1), stW G a1 q216.2.1, stW G a2 v2, rdW G a3 v3, scW a4 (a5 0) (a6 0), stW G a5 v5, rdW G a6 v6, paW G a7 q216.2.2.1, txW G a8 v8, slW G a9 (a10 0) (a11 0) v9, stW G a10 v10, stW G a11 v11, mdW G a12 v12, ouW G a13 q216.2.2.2]) (c_L_undo l hl0 G a0 a1 a2 a3 a4 a5 a6 a7 a8 a9 a10 a11 a13 v1 v7 v13 hq216) (vx_cwSW 2 hts gL_law_L_undo rfl rfl rfl hd_L_undo.2 ⟨(Nat.le_of_ble_eq_true rfl), (Nat.le_of_ble_eq_true rfl)⟩) hTH hK hP hD hS hA (is := [0, 1, 7, 13]) rfl rfl rfl hl.1 rfl (Nat.le_of_ble_eq_true rfl) dL_law_1179 ⟨by show c9 + 1 ≤ 601024; omega, by show s9 + 6 ≤ 7293033; omega⟩ rfl (fun H locs hP hD hS => ?_)
  refine lv_istore (lv' := [(5, .int q216.1), (0, .ref b), (1, .ref (a0 0)), (2, .ref (a12 0)), (3, .ref (a13 0)), (4, .int i4)]) hx hb dL_law_1182 hl (by decide) rfl (fun ls hl => ?_)
  refine lv_aload_n hx hb dL_law_1184 rfl (lv_at hl 3 rfl) ?_
  obtain ⟨q217, hq217, hf⟩ := bd_some hf
  refine g_callVi S (As := []) (gs' := [maW a0 (a1 0) (a2 0) (a3 0) (a4 0) (a7 0 0) (a8 0) (a9 0) (a9 1), stW G a1 q216.2.1, stW G a2 v2, rdW G a3 v3, scW a4 (a5 0) (a6 0), stW G a5 v5, rdW G a6 v6, paW G a7 q216.2.2.1, txW G a8 v8, slW G a9 (a10 0) (a11 0) v9, stW G a10 v10, stW G a11 v11, mdW G a12 q217.2, ouW G a13 q216.2.2.2]) (c_X6_undo l G a12 v12 hq217) (cwV 0 hts gL_law_X6_undo rfl rfl rfl hd_X6_undo ⟨Nat.le_of_ble_eq_true rfl, Nat.le_of_ble_eq_true rfl⟩) hK hP hD hS hA (is := [12]) rfl rfl 12 rfl rfl rfl rfl hl.1 rfl (Nat.le_of_ble_eq_true rfl) dL_law_1185 ⟨by show c9 + 1 + 0 ≤ 601024; omega, by show s9 + 6 + 0 ≤ 7293033; omega⟩ rfl (fun H locs hP hD hS => ?_)
  refine lv_istore (lv' := [(6, .int q217.1), (5, .int q216.1), (0, .ref b), (1, .ref (a0 0)), (2, .ref (a12 0)), (3, .ref (a13 0)), (4, .int i4)]) hx hb dL_law_1188 hl (by decide) rfl (fun ls hl => ?_)
  refine lv_aload_n hx hb dL_law_1190 rfl (lv_at hl 4 rfl) ?_
  obtain ⟨q218, hq218, hf⟩ := bd_some hf
  refine g_callVi S (As := []) (gs' := [maW a0 (a1 0) (a2 0) (a3 0) (a4 0) (a7 0 0) (a8 0) (a9 0) (a9 1), stW G a1 q216.2.1, stW G a2 v2, rdW G a3 v3, scW a4 (a5 0) (a6 0), stW G a5 v5, rdW G a6 v6, paW G a7 q216.2.2.1, txW G a8 v8, slW G a9 (a10 0) (a11 0) v9, stW G a10 v10, stW G a11 v11, mdW G a12 q217.2, ouW G a13 q216.2.2.2]) (c_X6_thrown l G a12 q217.2 hq218) (cwV 0 hts gL_law_X6_thrown rfl rfl rfl hd_X6_thrown ⟨Nat.le_of_ble_eq_true rfl, Nat.le_of_ble_eq_true rfl⟩) hK hP hD hS hA (is := [12]) rfl rfl 12 rfl rfl rfl rfl hl.1 rfl (Nat.le_of_ble_eq_true rfl) dL_law_1191 ⟨by show c9 + 1 + 0 ≤ 601024; omega, by show s9 + 6 + 0 ≤ 7293033; omega⟩ rfl (fun H locs hP hD hS => ?_)
  refine lv_iload hx hb dL_law_1194 (lv_at hl 1 rfl) ?_
  refine lv_icmp_eq (tgt := 1201) hx hb dL_law_1196 (by decide) (fun c219 => ?_) (fun c219 => ?_)
  · rw [if_pos c219] at hf
    refine lv_iload hx hb dL_law_1201 (lv_at hl 1 rfl) ?_
    refine lv_if_ne (tgt := 1218) hx hb dL_law_1203 (by decide) (fun c220 => ?_) (fun c220 => ?_)
    · rw [if_neg c220] at hf
      refine lv_goto (tgt := 1796) hx hb dL_law_1218 (by decide) ?_
      cases hf
      refine W.widen (k := c9 + 4) (n := s9 + 24) (by omega) (by omega) ?_
      exact K H locs ls hP hD hS (lv_sub hl [2, 3, 4, 5, 6] rfl)
    · rw [if_pos c220] at hf
      refine lv_aload_n hx hb dL_law_1206 rfl (lv_at hl 5 rfl) ?_
      refine lv_iconst (v := (0:Int32)) hx hb dL_law_1207 (by decide) ?_
      obtain ⟨h221, hf⟩ := gi_some hf
      refine g_lald hx hb hK hP 13 0 3 rfl rfl rfl h221 dL_law_1208 ?_
      refine lv_iload hx hb dL_law_1209 (lv_at hl 0 rfl) ?_
      refine lv_i2l (v := q217.1.toInt64) hx hb dL_law_1211 rfl ?_
      refine W.lcmp hx hb dL_law_1212 ?_
      obtain ⟨x222, ex222, hf⟩ := lt_some hf
      refine lv_nmi ex222 ?_
      refine lv_if_eq (tgt := 1218) hx hb dL_law_1213 (by decide) (fun c223 => ?_) (fun c223 => ?_)
      · rw [if_pos c223] at hf
        refine lv_goto (tgt := 1796) hx hb dL_law_1218 (by decide) ?_
        cases hf
        refine W.widen (k := c9 + 4) (n := s9 + 24) (by omega) (by omega) ?_
        exact K H locs ls hP hD hS (lv_sub hl [2, 3, 4, 5, 6] rfl)
      · rw [if_neg c223] at hf
        refine lv_iconst (v := (0:Int32)) hx hb dL_law_1216 (by decide) ?_
        cases hf
  · rw [if_neg c219] at hf
    refine lv_iconst (v := (0:Int32)) hx hb dL_law_1199 (by decide) ?_
    cases hf
set_option maxHeartbeats 8000000 in
set_option maxRecDepth 100000 in
theorem w_law_1221 {p : Program} {l : Launch} (hl0 : l.stackTraces = false) {e : Env} {s : State} {m : MethodId} {below : List Frame} {meth : Method} {c : Code} {b L : Nat} {xs : Nat → Int32} {A : Nat → Prop} (S : Ev p s m #[Value.ref b] meth c cL_law 7 (some .boolean) RL wsL_law) {G : uG} (hK : kK G s) (hA : ∀ q, s.heap.size ≤ q → A q) (hTH : gTH A s s.heap) (hX : va_X b L xs s s.heap) (hbl : b < s.heap.size) (hbA : ¬ A b) (a0 : Nat → Nat) (a1 : Nat → Nat) (a2 : Nat → Nat) (a3 : Nat → Nat) (a4 : Nat → Nat) (a5 : Nat → Nat) (a6 : Nat → Nat) (a7 : Nat → Nat → Nat) (a8 : Nat → Nat) (a9 : Nat → Nat) (a10 : Nat → Nat) (a11 : Nat → Nat) (a12 : Nat → Nat) (a13 : Nat → Nat) (i4 : Int32) (v1 : StV) (v2 : StV) (v3 : RdV) (v5 : StV) (v6 : RdV) (v7 : PaV) (v8 : TxV) (v9 : SlV) (v10 : StV) (v11 : StV) (v12 : MdV) (v13 : OuV) {w9 : LwV} {Q : State → Prop} {c9 s9 : Nat} (hc9 : c9 + 4 ≤ 601024) (hs9 : s9 + 24 ≤ 7293033) (hf : f_law_1221 xs L i4 v1 v2 v3 v5 v6 v7 v8 v9 v10 v11 v12 v13 = some w9) {H : Heap} {locs : List Loc} {ls : Array Slot} (hP : gP G [maW a0 (a1 0) (a2 0) (a3 0) (a4 0) (a7 0 0) (a8 0) (a9 0) (a9 1), stW G a1 v1, stW G a2 v2, rdW G a3 v3, scW a4 (a5 0) (a6 0), stW G a5 v5, rdW G a6 v6, paW G a7 v7, txW G a8 v8, slW G a9 (a10 0) (a11 0) v9, stW G a10 v10, stW G a11 v11, mdW G a12 v12, ouW G a13 v13] H) (hD : gD A [maW a0 (a1 0) (a2 0) (a3 0) (a4 0) (a7 0 0) (a8 0) (a9 0) (a9 1), stW G a1 v1, stW G a2 v2, rdW G a3 v3, scW a4 (a5 0) (a6 0), stW G a5 v5, rdW G a6 v6, paW G a7 v7, txW G a8 v8, slW G a9 (a10 0) (a11 0) v9, stW G a10 v10, stW G a11 v11, mdW G a12 v12, ouW G a13 v13]) (hS : va_S A s.heap H locs) (hl : lv_has ls 7 [(0, .ref b), (1, .ref (a0 0)), (2, .ref (a12 0)), (3, .ref (a13 0)), (4, .int i4)]) (K : ∀ (H : Heap) (locs : List Loc) (ls : Array Slot), gP G [maW a0 (a1 0) (a2 0) (a3 0) (a4 0) (a7 0 0) (a8 0) (a9 0) (a9 1), stW G a1 w9.1, stW G a2 w9.2.1, rdW G a3 w9.2.2.1, scW a4 (a5 0) (a6 0), stW G a5 w9.2.2.2.1, rdW G a6 w9.2.2.2.2.1, paW G a7 w9.2.2.2.2.2.1, txW G a8 w9.2.2.2.2.2.2.1, slW G a9 (a10 0) (a11 0) w9.2.2.2.2.2.2.2.1, stW G a10 w9.2.2.2.2.2.2.2.2.1, stW G a11 w9.2.2.2.2.2.2.2.2.2.1, mdW G a12 w9.2.2.2.2.2.2.2.2.2.2.1, ouW G a13 w9.2.2.2.2.2.2.2.2.2.2.2] H → gD A [maW a0 (a1 0) (a2 0) (a3 0) (a4 0) (a7 0 0) (a8 0) (a9 0) (a9 1), stW G a1 w9.1, stW G a2 w9.2.1, rdW G a3 w9.2.2.1, scW a4 (a5 0) (a6 0), stW G a5 w9.2.2.2.1, rdW G a6 w9.2.2.2.2.1, paW G a7 w9.2.2.2.2.2.1, txW G a8 w9.2.2.2.2.2.2.1, slW G a9 (a10 0) (a11 0) w9.2.2.2.2.2.2.2.1, stW G a10 w9.2.2.2.2.2.2.2.2.1, stW G a11 w9.2.2.2.2.2.2.2.2.2.1, mdW G a12 w9.2.2.2.2.2.2.2.2.2.2.1, ouW G a13 w9.2.2.2.2.2.2.2.2.2.2.2] → va_S A s.heap H locs → lv_has ls 7 [(0, .ref b), (1, .ref (a0 0)), (2, .ref (a12 0)), (3, .ref (a13 0)), (4, .int i4)] → W p l e room_1 s m #[Value.ref b] below meth c H locs (c9 + 4) (s9 + 24) Q (F0 m 1796 ls [])) : W p l e room_1 s m #[Value.ref b] below meth c H locs (c9) (s9) Q (F0 m 1221 ls []) := by
  obtain ⟨hx, hb, hml, hown, hts, hr, hlocks⟩ := id S
  unfold f_law_1221 at hf
  refine lv_aload_n hx hb dL_law_1221 rfl (lv_at hl 1 rfl) ?_
  obtain ⟨q224, hq224, hf⟩ := bd_some hf
  refine g_callVi S (As := []) (gs' := [maW a0 (a1 0) (a2 0) (a3 0) (a4 0) (a7 0 0) (a8 0) (a9 0) (a9 1), stW G a1 v1, stW G a2 q224.2.1, rdW G a3 q224.2.2, scW a4 (a5 0) (a6 0), stW G a5 v5, rdW G a6 v6, paW G a7 v7, txW G a8 v8, slW G a9 (a10 0) (a11 0) v9, stW G a10 v10, stW G a11 v11, mdW G a12 v12, ouW G a13 v13]) (c_X5_winner l G a0 a1 a2 a3 a4 a5 a6 a7 a8 a9 a10 a11 v1 v2 v3 hq224) (cwV 0 hts gL_law_X5_winner rfl rfl rfl hd_X5_winner ⟨Nat.le_of_ble_eq_true rfl, Nat.le_of_ble_eq_true rfl⟩) hK hP hD hS hA (is := [0, 1, 2, 3]) rfl rfl 0 rfl rfl rfl rfl hl.1 rfl (Nat.le_of_ble_eq_true rfl) dL_law_1222 ⟨by show c9 + 0 ≤ 601024; omega, by show s9 + 0 ≤ 7293033; omega⟩ rfl (fun H locs hP hD hS => ?_)
  refine lv_aload_n hx hb dL_law_1225 rfl (lv_at hl 2 rfl) ?_
  obtain ⟨q225, hq225, hf⟩ := bd_some hf
  refine g_callVi S (As := []) (gs' := [maW a0 (a1 0) (a2 0) (a3 0) (a4 0) (a7 0 0) (a8 0) (a9 0) (a9 1), stW G a1 v1, stW G a2 q224.2.1, rdW G a3 q224.2.2, scW a4 (a5 0) (a6 0), stW G a5 v5, rdW G a6 v6, paW G a7 v7, txW G a8 v8, slW G a9 (a10 0) (a11 0) v9, stW G a10 v10, stW G a11 v11, mdW G a12 q225.2, ouW G a13 v13]) (c_X6_winner l G a12 v12 hq225) (cwV 0 hts gL_law_X6_winner rfl rfl rfl hd_X6_winner ⟨Nat.le_of_ble_eq_true rfl, Nat.le_of_ble_eq_true rfl⟩) hK hP hD hS hA (is := [12]) rfl rfl 12 rfl rfl rfl rfl hl.1 rfl (Nat.le_of_ble_eq_true rfl) dL_law_1226 ⟨by show c9 + 0 ≤ 601024; omega, by show s9 + 0 ≤ 7293033; omega⟩ rfl (fun H locs hP hD hS => ?_)
  refine lv_icmp_eq (tgt := 1796) hx hb dL_law_1229 (by decide) (fun c226 => ?_) (fun c226 => ?_)
  · rw [if_pos c226] at hf
    cases hf
    refine W.widen (k := c9 + 4) (n := s9 + 24) (by omega) (by omega) ?_
    exact K H locs ls hP hD hS (lv_sub hl [0, 1, 2, 3, 4] rfl)
  · rw [if_neg c226] at hf
    refine lv_iconst (v := (0:Int32)) hx hb dL_law_1232 (by decide) ?_
    cases hf
set_option maxHeartbeats 8000000 in
set_option maxRecDepth 100000 in
theorem w_law_1234 {p : Program} {l : Launch} (hl0 : l.stackTraces = false) {e : Env} {s : State} {m : MethodId} {below : List Frame} {meth : Method} {c : Code} {b L : Nat} {xs : Nat → Int32} {A : Nat → Prop} (S : Ev p s m #[Value.ref b] meth c cL_law 7 (some .boolean) RL wsL_law) {G : uG} (hK : kK G s) (hA : ∀ q, s.heap.size ≤ q → A q) (hTH : gTH A s s.heap) (hX : va_X b L xs s s.heap) (hbl : b < s.heap.size) (hbA : ¬ A b) (a0 : Nat → Nat) (a1 : Nat → Nat) (a2 : Nat → Nat) (a3 : Nat → Nat) (a4 : Nat → Nat) (a5 : Nat → Nat) (a6 : Nat → Nat) (a7 : Nat → Nat → Nat) (a8 : Nat → Nat) (a9 : Nat → Nat) (a10 : Nat → Nat) (a11 : Nat → Nat) (a12 : Nat → Nat) (a13 : Nat → Nat) (i4 : Int32) (v1 : StV) (v2 : StV) (v3 : RdV) (v5 : StV) (v6 : RdV) (v7 : PaV) (v8 : TxV) (v9 : SlV) (v10 : StV) (v11 : StV) (v12 : MdV) (v13 : OuV) {w9 : LwV} {Q : State → Prop} {c9 s9 : Nat} (hc9 : c9 + 4 ≤ 601024) (hs9 : s9 + 24 ≤ 7293033) (hf : f_law_1234 xs L i4 v1 v2 v3 v5 v6 v7 v8 v9 v10 v11 v12 v13 = some w9) {H : Heap} {locs : List Loc} {ls : Array Slot} (hP : gP G [maW a0 (a1 0) (a2 0) (a3 0) (a4 0) (a7 0 0) (a8 0) (a9 0) (a9 1), stW G a1 v1, stW G a2 v2, rdW G a3 v3, scW a4 (a5 0) (a6 0), stW G a5 v5, rdW G a6 v6, paW G a7 v7, txW G a8 v8, slW G a9 (a10 0) (a11 0) v9, stW G a10 v10, stW G a11 v11, mdW G a12 v12, ouW G a13 v13] H) (hD : gD A [maW a0 (a1 0) (a2 0) (a3 0) (a4 0) (a7 0 0) (a8 0) (a9 0) (a9 1), stW G a1 v1, stW G a2 v2, rdW G a3 v3, scW a4 (a5 0) (a6 0), stW G a5 v5, rdW G a6 v6, paW G a7 v7, txW G a8 v8, slW G a9 (a10 0) (a11 0) v9, stW G a10 v10, stW G a11 v11, mdW G a12 v12, ouW G a13 v13]) (hS : va_S A s.heap H locs) (hl : lv_has ls 7 [(0, .ref b), (1, .ref (a0 0)), (2, .ref (a12 0)), (3, .ref (a13 0)), (4, .int i4)]) (K : ∀ (H : Heap) (locs : List Loc) (ls : Array Slot), gP G [maW a0 (a1 0) (a2 0) (a3 0) (a4 0) (a7 0 0) (a8 0) (a9 0) (a9 1), stW G a1 w9.1, stW G a2 w9.2.1, rdW G a3 w9.2.2.1, scW a4 (a5 0) (a6 0), stW G a5 w9.2.2.2.1, rdW G a6 w9.2.2.2.2.1, paW G a7 w9.2.2.2.2.2.1, txW G a8 w9.2.2.2.2.2.2.1, slW G a9 (a10 0) (a11 0) w9.2.2.2.2.2.2.2.1, stW G a10 w9.2.2.2.2.2.2.2.2.1, stW G a11 w9.2.2.2.2.2.2.2.2.2.1, mdW G a12 w9.2.2.2.2.2.2.2.2.2.2.1, ouW G a13 w9.2.2.2.2.2.2.2.2.2.2.2] H → gD A [maW a0 (a1 0) (a2 0) (a3 0) (a4 0) (a7 0 0) (a8 0) (a9 0) (a9 1), stW G a1 w9.1, stW G a2 w9.2.1, rdW G a3 w9.2.2.1, scW a4 (a5 0) (a6 0), stW G a5 w9.2.2.2.1, rdW G a6 w9.2.2.2.2.1, paW G a7 w9.2.2.2.2.2.1, txW G a8 w9.2.2.2.2.2.2.1, slW G a9 (a10 0) (a11 0) w9.2.2.2.2.2.2.2.1, stW G a10 w9.2.2.2.2.2.2.2.2.1, stW G a11 w9.2.2.2.2.2.2.2.2.2.1, mdW G a12 w9.2.2.2.2.2.2.2.2.2.2.1, ouW G a13 w9.2.2.2.2.2.2.2.2.2.2.2] → va_S A s.heap H locs → lv_has ls 7 [(0, .ref b), (1, .ref (a0 0)), (2, .ref (a12 0)), (3, .ref (a13 0)), (4, .int i4)] → W p l e room_1 s m #[Value.ref b] below meth c H locs (c9 + 4) (s9 + 24) Q (F0 m 1796 ls [])) : W p l e room_1 s m #[Value.ref b] below meth c H locs (c9) (s9) Q (F0 m 1234 ls []) := by
  obtain ⟨hx, hb, hml, hown, hts, hr, hlocks⟩ := id S
  unfold f_law_1234 at hf
  refine lv_aload_n hx hb dL_law_1234 rfl (lv_at hl 1 rfl) ?_
  obtain ⟨q227, hq227, hf⟩ := bd_some hf
  refine g_callVi S (As := []) (gs' := [maW a0 (a1 0) (a2 0) (a3 0) (a4 0) (a7 0 0) (a8 0) (a9 0) (a9 1), stW G a1 v1, stW G a2 q227.2.1, rdW G a3 q227.2.2, scW a4 (a5 0) (a6 0), stW G a5 v5, rdW G a6 v6, paW G a7 v7, txW G a8 v8, slW G a9 (a10 0) (a11 0) v9, stW G a10 v10, stW G a11 v11, mdW G a12 v12, ouW G a13 v13]) (c_X5_pot l G a0 a1 a2 a3 a4 a5 a6 a7 a8 a9 a10 a11 v1 v2 v3 hq227) (cwV 0 hts gL_law_X5_pot rfl rfl rfl hd_X5_pot ⟨Nat.le_of_ble_eq_true rfl, Nat.le_of_ble_eq_true rfl⟩) hK hP hD hS hA (is := [0, 1, 2, 3]) rfl rfl 0 rfl rfl rfl rfl hl.1 rfl (Nat.le_of_ble_eq_true rfl) dL_law_1235 ⟨by show c9 + 0 ≤ 601024; omega, by show s9 + 0 ≤ 7293033; omega⟩ rfl (fun H locs hP hD hS => ?_)
  refine lv_aload_n hx hb dL_law_1238 rfl (lv_at hl 2 rfl) ?_
  obtain ⟨q228, hq228, hf⟩ := bd_some hf
  refine g_callVi S (As := []) (gs' := [maW a0 (a1 0) (a2 0) (a3 0) (a4 0) (a7 0 0) (a8 0) (a9 0) (a9 1), stW G a1 v1, stW G a2 q227.2.1, rdW G a3 q227.2.2, scW a4 (a5 0) (a6 0), stW G a5 v5, rdW G a6 v6, paW G a7 v7, txW G a8 v8, slW G a9 (a10 0) (a11 0) v9, stW G a10 v10, stW G a11 v11, mdW G a12 q228.2, ouW G a13 v13]) (c_X6_pot l G a12 v12 hq228) (cwV 0 hts gL_law_X6_pot rfl rfl rfl hd_X6_pot ⟨Nat.le_of_ble_eq_true rfl, Nat.le_of_ble_eq_true rfl⟩) hK hP hD hS hA (is := [12]) rfl rfl 12 rfl rfl rfl rfl hl.1 rfl (Nat.le_of_ble_eq_true rfl) dL_law_1239 ⟨by show c9 + 0 ≤ 601024; omega, by show s9 + 0 ≤ 7293033; omega⟩ rfl (fun H locs hP hD hS => ?_)
  refine lv_icmp_eq (tgt := 1796) hx hb dL_law_1242 (by decide) (fun c229 => ?_) (fun c229 => ?_)
  · rw [if_pos c229] at hf
    cases hf
    refine W.widen (k := c9 + 4) (n := s9 + 24) (by omega) (by omega) ?_
    exact K H locs ls hP hD hS (lv_sub hl [0, 1, 2, 3, 4] rfl)
  · rw [if_neg c229] at hf
    refine lv_iconst (v := (0:Int32)) hx hb dL_law_1245 (by decide) ?_
    cases hf
set_option maxHeartbeats 8000000 in
set_option maxRecDepth 100000 in
theorem w_law_1247 {p : Program} {l : Launch} (hl0 : l.stackTraces = false) {e : Env} {s : State} {m : MethodId} {below : List Frame} {meth : Method} {c : Code} {b L : Nat} {xs : Nat → Int32} {A : Nat → Prop} (S : Ev p s m #[Value.ref b] meth c cL_law 7 (some .boolean) RL wsL_law) {G : uG} (hK : kK G s) (hA : ∀ q, s.heap.size ≤ q → A q) (hTH : gTH A s s.heap) (hX : va_X b L xs s s.heap) (hbl : b < s.heap.size) (hbA : ¬ A b) (a0 : Nat → Nat) (a1 : Nat → Nat) (a2 : Nat → Nat) (a3 : Nat → Nat) (a4 : Nat → Nat) (a5 : Nat → Nat) (a6 : Nat → Nat) (a7 : Nat → Nat → Nat) (a8 : Nat → Nat) (a9 : Nat → Nat) (a10 : Nat → Nat) (a11 : Nat → Nat) (a12 : Nat → Nat) (a13 : Nat → Nat) (i4 : Int32) (v1 : StV) (v2 : StV) (v3 : RdV) (v5 : StV) (v6 : RdV) (v7 : PaV) (v8 : TxV) (v9 : SlV) (v10 : StV) (v11 : StV) (v12 : MdV) (v13 : OuV) {w9 : LwV} {Q : State → Prop} {c9 s9 : Nat} (hc9 : c9 + 4 ≤ 601024) (hs9 : s9 + 24 ≤ 7293033) (hf : f_law_1247 xs L i4 v1 v2 v3 v5 v6 v7 v8 v9 v10 v11 v12 v13 = some w9) {H : Heap} {locs : List Loc} {ls : Array Slot} (hP : gP G [maW a0 (a1 0) (a2 0) (a3 0) (a4 0) (a7 0 0) (a8 0) (a9 0) (a9 1), stW G a1 v1, stW G a2 v2, rdW G a3 v3, scW a4 (a5 0) (a6 0), stW G a5 v5, rdW G a6 v6, paW G a7 v7, txW G a8 v8, slW G a9 (a10 0) (a11 0) v9, stW G a10 v10, stW G a11 v11, mdW G a12 v12, ouW G a13 v13] H) (hD : gD A [maW a0 (a1 0) (a2 0) (a3 0) (a4 0) (a7 0 0) (a8 0) (a9 0) (a9 1), stW G a1 v1, stW G a2 v2, rdW G a3 v3, scW a4 (a5 0) (a6 0), stW G a5 v5, rdW G a6 v6, paW G a7 v7, txW G a8 v8, slW G a9 (a10 0) (a11 0) v9, stW G a10 v10, stW G a11 v11, mdW G a12 v12, ouW G a13 v13]) (hS : va_S A s.heap H locs) (hl : lv_has ls 7 [(0, .ref b), (1, .ref (a0 0)), (2, .ref (a12 0)), (3, .ref (a13 0)), (4, .int i4)]) (K : ∀ (H : Heap) (locs : List Loc) (ls : Array Slot), gP G [maW a0 (a1 0) (a2 0) (a3 0) (a4 0) (a7 0 0) (a8 0) (a9 0) (a9 1), stW G a1 w9.1, stW G a2 w9.2.1, rdW G a3 w9.2.2.1, scW a4 (a5 0) (a6 0), stW G a5 w9.2.2.2.1, rdW G a6 w9.2.2.2.2.1, paW G a7 w9.2.2.2.2.2.1, txW G a8 w9.2.2.2.2.2.2.1, slW G a9 (a10 0) (a11 0) w9.2.2.2.2.2.2.2.1, stW G a10 w9.2.2.2.2.2.2.2.2.1, stW G a11 w9.2.2.2.2.2.2.2.2.2.1, mdW G a12 w9.2.2.2.2.2.2.2.2.2.2.1, ouW G a13 w9.2.2.2.2.2.2.2.2.2.2.2] H → gD A [maW a0 (a1 0) (a2 0) (a3 0) (a4 0) (a7 0 0) (a8 0) (a9 0) (a9 1), stW G a1 w9.1, stW G a2 w9.2.1, rdW G a3 w9.2.2.1, scW a4 (a5 0) (a6 0), stW G a5 w9.2.2.2.1, rdW G a6 w9.2.2.2.2.1, paW G a7 w9.2.2.2.2.2.1, txW G a8 w9.2.2.2.2.2.2.1, slW G a9 (a10 0) (a11 0) w9.2.2.2.2.2.2.2.1, stW G a10 w9.2.2.2.2.2.2.2.2.1, stW G a11 w9.2.2.2.2.2.2.2.2.2.1, mdW G a12 w9.2.2.2.2.2.2.2.2.2.2.1, ouW G a13 w9.2.2.2.2.2.2.2.2.2.2.2] → va_S A s.heap H locs → lv_has ls 7 [(0, .ref b), (1, .ref (a0 0)), (2, .ref (a12 0)), (3, .ref (a13 0)), (4, .int i4)] → W p l e room_1 s m #[Value.ref b] below meth c H locs (c9 + 4) (s9 + 24) Q (F0 m 1796 ls [])) : W p l e room_1 s m #[Value.ref b] below meth c H locs (c9) (s9) Q (F0 m 1247 ls []) := by
  obtain ⟨hx, hb, hml, hown, hts, hr, hlocks⟩ := id S
  unfold f_law_1247 at hf
  refine lv_aload_n hx hb dL_law_1247 rfl (lv_at hl 1 rfl) ?_
  refine lv_aload_n hx hb dL_law_1248 rfl (lv_at hl 0 rfl) ?_
  refine lv_iload hx hb dL_law_1249 (lv_at hl 4 rfl) ?_
  refine lv_iconst (v := (1:Int32)) hx hb dL_law_1251 (by decide) ?_
  refine lv_iadd hx hb dL_law_1252 ?_
  obtain ⟨h230, hf⟩ := gi_some hf
  refine va_sld hx hb hX hbl hbA hS h230 dL_law_1253 ?_
  refine lv_aload_n hx hb dL_law_1254 rfl (lv_at hl 3 rfl) ?_
  obtain ⟨q231, hq231, hf⟩ := bd_some hf
  refine g_callHi S (As := [.ref (a0 0), .int (xs (i4 + (1:Int32)).toNatClampNeg), .ref (a13 0)]) (gs' := [maW a0 (a1 0) (a2 0) (a3 0) (a4 0) (a7 0 0) (a8 0) (a9 0) (a9 1), stW G a1 v1, stW G a2 q231.2.1, rdW G a3 q231.2.2.1, scW a4 (a5 0) (a6 0), stW G a5 v5, rdW G a6 v6, paW G a7 v7, txW G a8 v8, slW G a9 (a10 0) (a11 0) v9, stW G a10 v10, stW G a11 v11, mdW G a12 v12, ouW G a13 q231.2.2.2]) (c_L_change l hl0 G a0 a1 a2 a3 a4 a5 a6 a7 a8 a9 a10 a11 a13 v1 v2 v3 v13 (xs (i4 + (1:Int32)).toNatClampNeg) hq231) (vx_cwSW 3 hts gL_law_L_change rfl rfl rfl hd_L_change.2 ⟨(Nat.le_of_ble_eq_true rfl), (Nat.le_of_ble_eq_true rfl)⟩) hTH hK hP hD hS hA (is := [0, 1, 2, 3, 13]) rfl rfl rfl hl.1 rfl (Nat.le_of_ble_eq_true rfl) dL_law_1255 ⟨by show c9 + 1 ≤ 601024; omega, by show s9 + 6 ≤ 7293033; omega⟩ rfl (fun H locs hP hD hS => ?_)
  refine lv_istore (lv' := [(5, .int q231.1), (0, .ref b), (1, .ref (a0 0)), (2, .ref (a12 0)), (3, .ref (a13 0)), (4, .int i4)]) hx hb dL_law_1258 hl (by decide) rfl (fun ls hl => ?_)
  refine lv_aload_n hx hb dL_law_1260 rfl (lv_at hl 3 rfl) ?_
  refine lv_aload_n hx hb dL_law_1261 rfl (lv_at hl 1 rfl) ?_
  refine lv_iload hx hb dL_law_1262 (lv_at hl 5 rfl) ?_
  refine lv_iconst (v := (1:Int32)) hx hb dL_law_1264 (by decide) ?_
  refine lv_iadd hx hb dL_law_1265 ?_
  obtain ⟨h232, hf⟩ := gi_some hf
  refine va_sld hx hb hX hbl hbA hS h232 dL_law_1266 ?_
  obtain ⟨q233, hq233, hf⟩ := bd_some hf
  refine g_callVi S (As := [.int (xs (i4 + (1:Int32)).toNatClampNeg)]) (gs' := [maW a0 (a1 0) (a2 0) (a3 0) (a4 0) (a7 0 0) (a8 0) (a9 0) (a9 1), stW G a1 v1, stW G a2 q231.2.1, rdW G a3 q231.2.2.1, scW a4 (a5 0) (a6 0), stW G a5 v5, rdW G a6 v6, paW G a7 v7, txW G a8 v8, slW G a9 (a10 0) (a11 0) v9, stW G a10 v10, stW G a11 v11, mdW G a12 q233.2, ouW G a13 q231.2.2.2]) (c_X6_change l G a12 v12 (xs (i4 + (1:Int32)).toNatClampNeg) hq233) (cwV 1 hts gL_law_X6_change rfl rfl rfl hd_X6_change ⟨Nat.le_of_ble_eq_true rfl, Nat.le_of_ble_eq_true rfl⟩) hK hP hD hS hA (is := [12]) rfl rfl 12 rfl rfl rfl rfl hl.1 rfl (Nat.le_of_ble_eq_true rfl) dL_law_1267 ⟨by show c9 + 1 + 0 ≤ 601024; omega, by show s9 + 6 + 0 ≤ 7293033; omega⟩ rfl (fun H locs hP hD hS => ?_)
  refine lv_istore (lv' := [(6, .int q233.1), (5, .int q231.1), (0, .ref b), (1, .ref (a0 0)), (2, .ref (a12 0)), (3, .ref (a13 0)), (4, .int i4)]) hx hb dL_law_1270 hl (by decide) rfl (fun ls hl => ?_)
  refine lv_aload_n hx hb dL_law_1272 rfl (lv_at hl 4 rfl) ?_
  obtain ⟨q234, hq234, hf⟩ := bd_some hf
  refine g_callVi S (As := []) (gs' := [maW a0 (a1 0) (a2 0) (a3 0) (a4 0) (a7 0 0) (a8 0) (a9 0) (a9 1), stW G a1 v1, stW G a2 q231.2.1, rdW G a3 q231.2.2.1, scW a4 (a5 0) (a6 0), stW G a5 v5, rdW G a6 v6, paW G a7 v7, txW G a8 v8, slW G a9 (a10 0) (a11 0) v9, stW G a10 v10, stW G a11 v11, mdW G a12 q233.2, ouW G a13 q231.2.2.2]) (c_X6_thrown l G a12 q233.2 hq234) (cwV 0 hts gL_law_X6_thrown rfl rfl rfl hd_X6_thrown ⟨Nat.le_of_ble_eq_true rfl, Nat.le_of_ble_eq_true rfl⟩) hK hP hD hS hA (is := [12]) rfl rfl 12 rfl rfl rfl rfl hl.1 rfl (Nat.le_of_ble_eq_true rfl) dL_law_1273 ⟨by show c9 + 1 + 0 ≤ 601024; omega, by show s9 + 6 + 0 ≤ 7293033; omega⟩ rfl (fun H locs hP hD hS => ?_)
  refine lv_iload hx hb dL_law_1276 (lv_at hl 1 rfl) ?_
  refine lv_icmp_eq (tgt := 1283) hx hb dL_law_1278 (by decide) (fun c235 => ?_) (fun c235 => ?_)
  · rw [if_pos c235] at hf
    refine lv_iload hx hb dL_law_1283 (lv_at hl 1 rfl) ?_
    refine lv_if_ne (tgt := 1300) hx hb dL_law_1285 (by decide) (fun c236 => ?_) (fun c236 => ?_)
    · rw [if_neg c236] at hf
      refine lv_goto (tgt := 1796) hx hb dL_law_1300 (by decide) ?_
      cases hf
      refine W.widen (k := c9 + 4) (n := s9 + 24) (by omega) (by omega) ?_
      exact K H locs ls hP hD hS (lv_sub hl [2, 3, 4, 5, 6] rfl)
    · rw [if_pos c236] at hf
      refine lv_aload_n hx hb dL_law_1288 rfl (lv_at hl 5 rfl) ?_
      refine lv_iconst (v := (0:Int32)) hx hb dL_law_1289 (by decide) ?_
      obtain ⟨h237, hf⟩ := gi_some hf
      refine g_lald hx hb hK hP 13 0 3 rfl rfl rfl h237 dL_law_1290 ?_
      refine lv_iload hx hb dL_law_1291 (lv_at hl 0 rfl) ?_
      refine lv_i2l (v := q233.1.toInt64) hx hb dL_law_1293 rfl ?_
      refine W.lcmp hx hb dL_law_1294 ?_
      obtain ⟨x238, ex238, hf⟩ := lt_some hf
      refine lv_nmi ex238 ?_
      refine lv_if_eq (tgt := 1300) hx hb dL_law_1295 (by decide) (fun c239 => ?_) (fun c239 => ?_)
      · rw [if_pos c239] at hf
        refine lv_goto (tgt := 1796) hx hb dL_law_1300 (by decide) ?_
        cases hf
        refine W.widen (k := c9 + 4) (n := s9 + 24) (by omega) (by omega) ?_
        exact K H locs ls hP hD hS (lv_sub hl [2, 3, 4, 5, 6] rfl)
      · rw [if_neg c239] at hf
        refine lv_iconst (v := (0:Int32)) hx hb dL_law_1298 (by decide) ?_
        cases hf
  · rw [if_neg c235] at hf
    refine lv_iconst (v := (0:Int32)) hx hb dL_law_1281 (by decide) ?_
    cases hf
set_option maxHeartbeats 8000000 in
set_option maxRecDepth 100000 in
theorem w_law_1303 {p : Program} {l : Launch} (hl0 : l.stackTraces = false) {e : Env} {s : State} {m : MethodId} {below : List Frame} {meth : Method} {c : Code} {b L : Nat} {xs : Nat → Int32} {A : Nat → Prop} (S : Ev p s m #[Value.ref b] meth c cL_law 7 (some .boolean) RL wsL_law) {G : uG} (hK : kK G s) (hA : ∀ q, s.heap.size ≤ q → A q) (hTH : gTH A s s.heap) (hX : va_X b L xs s s.heap) (hbl : b < s.heap.size) (hbA : ¬ A b) (a0 : Nat → Nat) (a1 : Nat → Nat) (a2 : Nat → Nat) (a3 : Nat → Nat) (a4 : Nat → Nat) (a5 : Nat → Nat) (a6 : Nat → Nat) (a7 : Nat → Nat → Nat) (a8 : Nat → Nat) (a9 : Nat → Nat) (a10 : Nat → Nat) (a11 : Nat → Nat) (a12 : Nat → Nat) (a13 : Nat → Nat) (i4 : Int32) (v1 : StV) (v2 : StV) (v3 : RdV) (v5 : StV) (v6 : RdV) (v7 : PaV) (v8 : TxV) (v9 : SlV) (v10 : StV) (v11 : StV) (v12 : MdV) (v13 : OuV) {w9 : LwV} {Q : State → Prop} {c9 s9 : Nat} (hc9 : c9 + 4 ≤ 601024) (hs9 : s9 + 24 ≤ 7293033) (hf : f_law_1303 xs L i4 v1 v2 v3 v5 v6 v7 v8 v9 v10 v11 v12 v13 = some w9) {H : Heap} {locs : List Loc} {ls : Array Slot} (hP : gP G [maW a0 (a1 0) (a2 0) (a3 0) (a4 0) (a7 0 0) (a8 0) (a9 0) (a9 1), stW G a1 v1, stW G a2 v2, rdW G a3 v3, scW a4 (a5 0) (a6 0), stW G a5 v5, rdW G a6 v6, paW G a7 v7, txW G a8 v8, slW G a9 (a10 0) (a11 0) v9, stW G a10 v10, stW G a11 v11, mdW G a12 v12, ouW G a13 v13] H) (hD : gD A [maW a0 (a1 0) (a2 0) (a3 0) (a4 0) (a7 0 0) (a8 0) (a9 0) (a9 1), stW G a1 v1, stW G a2 v2, rdW G a3 v3, scW a4 (a5 0) (a6 0), stW G a5 v5, rdW G a6 v6, paW G a7 v7, txW G a8 v8, slW G a9 (a10 0) (a11 0) v9, stW G a10 v10, stW G a11 v11, mdW G a12 v12, ouW G a13 v13]) (hS : va_S A s.heap H locs) (hl : lv_has ls 7 [(0, .ref b), (1, .ref (a0 0)), (2, .ref (a12 0)), (3, .ref (a13 0)), (4, .int i4)]) (K : ∀ (H : Heap) (locs : List Loc) (ls : Array Slot), gP G [maW a0 (a1 0) (a2 0) (a3 0) (a4 0) (a7 0 0) (a8 0) (a9 0) (a9 1), stW G a1 w9.1, stW G a2 w9.2.1, rdW G a3 w9.2.2.1, scW a4 (a5 0) (a6 0), stW G a5 w9.2.2.2.1, rdW G a6 w9.2.2.2.2.1, paW G a7 w9.2.2.2.2.2.1, txW G a8 w9.2.2.2.2.2.2.1, slW G a9 (a10 0) (a11 0) w9.2.2.2.2.2.2.2.1, stW G a10 w9.2.2.2.2.2.2.2.2.1, stW G a11 w9.2.2.2.2.2.2.2.2.2.1, mdW G a12 w9.2.2.2.2.2.2.2.2.2.2.1, ouW G a13 w9.2.2.2.2.2.2.2.2.2.2.2] H → gD A [maW a0 (a1 0) (a2 0) (a3 0) (a4 0) (a7 0 0) (a8 0) (a9 0) (a9 1), stW G a1 w9.1, stW G a2 w9.2.1, rdW G a3 w9.2.2.1, scW a4 (a5 0) (a6 0), stW G a5 w9.2.2.2.1, rdW G a6 w9.2.2.2.2.1, paW G a7 w9.2.2.2.2.2.1, txW G a8 w9.2.2.2.2.2.2.1, slW G a9 (a10 0) (a11 0) w9.2.2.2.2.2.2.2.1, stW G a10 w9.2.2.2.2.2.2.2.2.1, stW G a11 w9.2.2.2.2.2.2.2.2.2.1, mdW G a12 w9.2.2.2.2.2.2.2.2.2.2.1, ouW G a13 w9.2.2.2.2.2.2.2.2.2.2.2] → va_S A s.heap H locs → lv_has ls 7 [(0, .ref b), (1, .ref (a0 0)), (2, .ref (a12 0)), (3, .ref (a13 0)), (4, .int i4)] → W p l e room_1 s m #[Value.ref b] below meth c H locs (c9 + 4) (s9 + 24) Q (F0 m 1796 ls [])) : W p l e room_1 s m #[Value.ref b] below meth c H locs (c9) (s9) Q (F0 m 1303 ls []) := by
  obtain ⟨hx, hb, hml, hown, hts, hr, hlocks⟩ := id S
  unfold f_law_1303 at hf
  refine lv_aload_n hx hb dL_law_1303 rfl (lv_at hl 1 rfl) ?_
  refine lv_aload_n hx hb dL_law_1304 rfl (lv_at hl 0 rfl) ?_
  refine lv_iload hx hb dL_law_1305 (lv_at hl 4 rfl) ?_
  refine lv_iconst (v := (1:Int32)) hx hb dL_law_1307 (by decide) ?_
  refine lv_iadd hx hb dL_law_1308 ?_
  obtain ⟨h240, hf⟩ := gi_some hf
  refine va_sld hx hb hX hbl hbA hS h240 dL_law_1309 ?_
  refine lv_aload_n hx hb dL_law_1310 rfl (lv_at hl 3 rfl) ?_
  obtain ⟨q241, hq241, hf⟩ := bd_some hf
  refine g_callHi S (As := [.ref (a0 0), .int (xs (i4 + (1:Int32)).toNatClampNeg), .ref (a13 0)]) (gs' := [maW a0 (a1 0) (a2 0) (a3 0) (a4 0) (a7 0 0) (a8 0) (a9 0) (a9 1), stW G a1 v1, stW G a2 q241.2.1, rdW G a3 q241.2.2.1, scW a4 (a5 0) (a6 0), stW G a5 v5, rdW G a6 v6, paW G a7 v7, txW G a8 v8, slW G a9 (a10 0) (a11 0) v9, stW G a10 v10, stW G a11 v11, mdW G a12 v12, ouW G a13 q241.2.2.2]) (c_L_leastBid l hl0 G a0 a1 a2 a3 a4 a5 a6 a7 a8 a9 a10 a11 a13 v1 v2 v3 v13 (xs (i4 + (1:Int32)).toNatClampNeg) hq241) (vx_cwSW 3 hts gL_law_L_leastBid rfl rfl rfl hd_L_leastBid.2 ⟨(Nat.le_of_ble_eq_true rfl), (Nat.le_of_ble_eq_true rfl)⟩) hTH hK hP hD hS hA (is := [0, 1, 2, 3, 13]) rfl rfl rfl hl.1 rfl (Nat.le_of_ble_eq_true rfl) dL_law_1311 ⟨by show c9 + 1 ≤ 601024; omega, by show s9 + 6 ≤ 7293033; omega⟩ rfl (fun H locs hP hD hS => ?_)
  refine lv_istore (lv' := [(5, .int q241.1), (0, .ref b), (1, .ref (a0 0)), (2, .ref (a12 0)), (3, .ref (a13 0)), (4, .int i4)]) hx hb dL_law_1314 hl (by decide) rfl (fun ls hl => ?_)
  refine lv_aload_n hx hb dL_law_1316 rfl (lv_at hl 3 rfl) ?_
  refine lv_aload_n hx hb dL_law_1317 rfl (lv_at hl 1 rfl) ?_
  refine lv_iload hx hb dL_law_1318 (lv_at hl 5 rfl) ?_
  refine lv_iconst (v := (1:Int32)) hx hb dL_law_1320 (by decide) ?_
  refine lv_iadd hx hb dL_law_1321 ?_
  obtain ⟨h242, hf⟩ := gi_some hf
  refine va_sld hx hb hX hbl hbA hS h242 dL_law_1322 ?_
  obtain ⟨q243, hq243, hf⟩ := bd_some hf
  refine g_callVi S (As := [.int (xs (i4 + (1:Int32)).toNatClampNeg)]) (gs' := [maW a0 (a1 0) (a2 0) (a3 0) (a4 0) (a7 0 0) (a8 0) (a9 0) (a9 1), stW G a1 v1, stW G a2 q241.2.1, rdW G a3 q241.2.2.1, scW a4 (a5 0) (a6 0), stW G a5 v5, rdW G a6 v6, paW G a7 v7, txW G a8 v8, slW G a9 (a10 0) (a11 0) v9, stW G a10 v10, stW G a11 v11, mdW G a12 q243.2, ouW G a13 q241.2.2.2]) (c_X6_leastBid l G a12 v12 (xs (i4 + (1:Int32)).toNatClampNeg) hq243) (cwV 1 hts gL_law_X6_leastBid rfl rfl rfl hd_X6_leastBid ⟨Nat.le_of_ble_eq_true rfl, Nat.le_of_ble_eq_true rfl⟩) hK hP hD hS hA (is := [12]) rfl rfl 12 rfl rfl rfl rfl hl.1 rfl (Nat.le_of_ble_eq_true rfl) dL_law_1323 ⟨by show c9 + 1 + 0 ≤ 601024; omega, by show s9 + 6 + 0 ≤ 7293033; omega⟩ rfl (fun H locs hP hD hS => ?_)
  refine lv_istore (lv' := [(6, .int q243.1), (5, .int q241.1), (0, .ref b), (1, .ref (a0 0)), (2, .ref (a12 0)), (3, .ref (a13 0)), (4, .int i4)]) hx hb dL_law_1326 hl (by decide) rfl (fun ls hl => ?_)
  refine lv_aload_n hx hb dL_law_1328 rfl (lv_at hl 4 rfl) ?_
  obtain ⟨q244, hq244, hf⟩ := bd_some hf
  refine g_callVi S (As := []) (gs' := [maW a0 (a1 0) (a2 0) (a3 0) (a4 0) (a7 0 0) (a8 0) (a9 0) (a9 1), stW G a1 v1, stW G a2 q241.2.1, rdW G a3 q241.2.2.1, scW a4 (a5 0) (a6 0), stW G a5 v5, rdW G a6 v6, paW G a7 v7, txW G a8 v8, slW G a9 (a10 0) (a11 0) v9, stW G a10 v10, stW G a11 v11, mdW G a12 q243.2, ouW G a13 q241.2.2.2]) (c_X6_thrown l G a12 q243.2 hq244) (cwV 0 hts gL_law_X6_thrown rfl rfl rfl hd_X6_thrown ⟨Nat.le_of_ble_eq_true rfl, Nat.le_of_ble_eq_true rfl⟩) hK hP hD hS hA (is := [12]) rfl rfl 12 rfl rfl rfl rfl hl.1 rfl (Nat.le_of_ble_eq_true rfl) dL_law_1329 ⟨by show c9 + 1 + 0 ≤ 601024; omega, by show s9 + 6 + 0 ≤ 7293033; omega⟩ rfl (fun H locs hP hD hS => ?_)
  refine lv_iload hx hb dL_law_1332 (lv_at hl 1 rfl) ?_
  refine lv_icmp_eq (tgt := 1339) hx hb dL_law_1334 (by decide) (fun c245 => ?_) (fun c245 => ?_)
  · rw [if_pos c245] at hf
    refine lv_iload hx hb dL_law_1339 (lv_at hl 1 rfl) ?_
    refine lv_if_ne (tgt := 1356) hx hb dL_law_1341 (by decide) (fun c246 => ?_) (fun c246 => ?_)
    · rw [if_neg c246] at hf
      refine lv_goto (tgt := 1796) hx hb dL_law_1356 (by decide) ?_
      cases hf
      refine W.widen (k := c9 + 4) (n := s9 + 24) (by omega) (by omega) ?_
      exact K H locs ls hP hD hS (lv_sub hl [2, 3, 4, 5, 6] rfl)
    · rw [if_pos c246] at hf
      refine lv_aload_n hx hb dL_law_1344 rfl (lv_at hl 5 rfl) ?_
      refine lv_iconst (v := (0:Int32)) hx hb dL_law_1345 (by decide) ?_
      obtain ⟨h247, hf⟩ := gi_some hf
      refine g_lald hx hb hK hP 13 0 3 rfl rfl rfl h247 dL_law_1346 ?_
      refine lv_iload hx hb dL_law_1347 (lv_at hl 0 rfl) ?_
      refine lv_i2l (v := q243.1.toInt64) hx hb dL_law_1349 rfl ?_
      refine W.lcmp hx hb dL_law_1350 ?_
      obtain ⟨x248, ex248, hf⟩ := lt_some hf
      refine lv_nmi ex248 ?_
      refine lv_if_eq (tgt := 1356) hx hb dL_law_1351 (by decide) (fun c249 => ?_) (fun c249 => ?_)
      · rw [if_pos c249] at hf
        refine lv_goto (tgt := 1796) hx hb dL_law_1356 (by decide) ?_
        cases hf
        refine W.widen (k := c9 + 4) (n := s9 + 24) (by omega) (by omega) ?_
        exact K H locs ls hP hD hS (lv_sub hl [2, 3, 4, 5, 6] rfl)
      · rw [if_neg c249] at hf
        refine lv_iconst (v := (0:Int32)) hx hb dL_law_1354 (by decide) ?_
        cases hf
  · rw [if_neg c245] at hf
    refine lv_iconst (v := (0:Int32)) hx hb dL_law_1337 (by decide) ?_
    cases hf
set_option maxHeartbeats 8000000 in
set_option maxRecDepth 100000 in
theorem w_law_1359 {p : Program} {l : Launch} (hl0 : l.stackTraces = false) {e : Env} {s : State} {m : MethodId} {below : List Frame} {meth : Method} {c : Code} {b L : Nat} {xs : Nat → Int32} {A : Nat → Prop} (S : Ev p s m #[Value.ref b] meth c cL_law 7 (some .boolean) RL wsL_law) {G : uG} (hK : kK G s) (hA : ∀ q, s.heap.size ≤ q → A q) (hTH : gTH A s s.heap) (hX : va_X b L xs s s.heap) (hbl : b < s.heap.size) (hbA : ¬ A b) (a0 : Nat → Nat) (a1 : Nat → Nat) (a2 : Nat → Nat) (a3 : Nat → Nat) (a4 : Nat → Nat) (a5 : Nat → Nat) (a6 : Nat → Nat) (a7 : Nat → Nat → Nat) (a8 : Nat → Nat) (a9 : Nat → Nat) (a10 : Nat → Nat) (a11 : Nat → Nat) (a12 : Nat → Nat) (a13 : Nat → Nat) (i4 : Int32) (v1 : StV) (v2 : StV) (v3 : RdV) (v5 : StV) (v6 : RdV) (v7 : PaV) (v8 : TxV) (v9 : SlV) (v10 : StV) (v11 : StV) (v12 : MdV) (v13 : OuV) {w9 : LwV} {Q : State → Prop} {c9 s9 : Nat} (hc9 : c9 + 4 ≤ 601024) (hs9 : s9 + 24 ≤ 7293033) (hf : f_law_1359 xs L i4 v1 v2 v3 v5 v6 v7 v8 v9 v10 v11 v12 v13 = some w9) {H : Heap} {locs : List Loc} {ls : Array Slot} (hP : gP G [maW a0 (a1 0) (a2 0) (a3 0) (a4 0) (a7 0 0) (a8 0) (a9 0) (a9 1), stW G a1 v1, stW G a2 v2, rdW G a3 v3, scW a4 (a5 0) (a6 0), stW G a5 v5, rdW G a6 v6, paW G a7 v7, txW G a8 v8, slW G a9 (a10 0) (a11 0) v9, stW G a10 v10, stW G a11 v11, mdW G a12 v12, ouW G a13 v13] H) (hD : gD A [maW a0 (a1 0) (a2 0) (a3 0) (a4 0) (a7 0 0) (a8 0) (a9 0) (a9 1), stW G a1 v1, stW G a2 v2, rdW G a3 v3, scW a4 (a5 0) (a6 0), stW G a5 v5, rdW G a6 v6, paW G a7 v7, txW G a8 v8, slW G a9 (a10 0) (a11 0) v9, stW G a10 v10, stW G a11 v11, mdW G a12 v12, ouW G a13 v13]) (hS : va_S A s.heap H locs) (hl : lv_has ls 7 [(0, .ref b), (1, .ref (a0 0)), (2, .ref (a12 0)), (3, .ref (a13 0)), (4, .int i4)]) (K : ∀ (H : Heap) (locs : List Loc) (ls : Array Slot), gP G [maW a0 (a1 0) (a2 0) (a3 0) (a4 0) (a7 0 0) (a8 0) (a9 0) (a9 1), stW G a1 w9.1, stW G a2 w9.2.1, rdW G a3 w9.2.2.1, scW a4 (a5 0) (a6 0), stW G a5 w9.2.2.2.1, rdW G a6 w9.2.2.2.2.1, paW G a7 w9.2.2.2.2.2.1, txW G a8 w9.2.2.2.2.2.2.1, slW G a9 (a10 0) (a11 0) w9.2.2.2.2.2.2.2.1, stW G a10 w9.2.2.2.2.2.2.2.2.1, stW G a11 w9.2.2.2.2.2.2.2.2.2.1, mdW G a12 w9.2.2.2.2.2.2.2.2.2.2.1, ouW G a13 w9.2.2.2.2.2.2.2.2.2.2.2] H → gD A [maW a0 (a1 0) (a2 0) (a3 0) (a4 0) (a7 0 0) (a8 0) (a9 0) (a9 1), stW G a1 w9.1, stW G a2 w9.2.1, rdW G a3 w9.2.2.1, scW a4 (a5 0) (a6 0), stW G a5 w9.2.2.2.1, rdW G a6 w9.2.2.2.2.1, paW G a7 w9.2.2.2.2.2.1, txW G a8 w9.2.2.2.2.2.2.1, slW G a9 (a10 0) (a11 0) w9.2.2.2.2.2.2.2.1, stW G a10 w9.2.2.2.2.2.2.2.2.1, stW G a11 w9.2.2.2.2.2.2.2.2.2.1, mdW G a12 w9.2.2.2.2.2.2.2.2.2.2.1, ouW G a13 w9.2.2.2.2.2.2.2.2.2.2.2] → va_S A s.heap H locs → lv_has ls 7 [(0, .ref b), (1, .ref (a0 0)), (2, .ref (a12 0)), (3, .ref (a13 0)), (4, .int i4)] → W p l e room_1 s m #[Value.ref b] below meth c H locs (c9 + 4) (s9 + 24) Q (F0 m 1796 ls [])) : W p l e room_1 s m #[Value.ref b] below meth c H locs (c9) (s9) Q (F0 m 1359 ls []) := by
  obtain ⟨hx, hb, hml, hown, hts, hr, hlocks⟩ := id S
  unfold f_law_1359 at hf
  refine lv_aload_n hx hb dL_law_1359 rfl (lv_at hl 1 rfl) ?_
  obtain ⟨q250, hq250, hf⟩ := bd_some hf
  refine g_callVi S (As := []) (gs' := [maW a0 (a1 0) (a2 0) (a3 0) (a4 0) (a7 0 0) (a8 0) (a9 0) (a9 1), stW G a1 v1, stW G a2 q250.2.1, rdW G a3 q250.2.2, scW a4 (a5 0) (a6 0), stW G a5 v5, rdW G a6 v6, paW G a7 v7, txW G a8 v8, slW G a9 (a10 0) (a11 0) v9, stW G a10 v10, stW G a11 v11, mdW G a12 v12, ouW G a13 v13]) (c_X5_pillar l G a0 a1 a2 a3 a4 a5 a6 a7 a8 a9 a10 a11 v1 v2 v3 hq250) (cwV 0 hts gL_law_X5_pillar rfl rfl rfl hd_X5_pillar ⟨Nat.le_of_ble_eq_true rfl, Nat.le_of_ble_eq_true rfl⟩) hK hP hD hS hA (is := [0, 1, 2, 3]) rfl rfl 0 rfl rfl rfl rfl hl.1 rfl (Nat.le_of_ble_eq_true rfl) dL_law_1360 ⟨by show c9 + 0 ≤ 601024; omega, by show s9 + 0 ≤ 7293033; omega⟩ rfl (fun H locs hP hD hS => ?_)
  refine lv_aload_n hx hb dL_law_1363 rfl (lv_at hl 2 rfl) ?_
  obtain ⟨q251, hq251, hf⟩ := bd_some hf
  refine g_callVi S (As := []) (gs' := [maW a0 (a1 0) (a2 0) (a3 0) (a4 0) (a7 0 0) (a8 0) (a9 0) (a9 1), stW G a1 v1, stW G a2 q250.2.1, rdW G a3 q250.2.2, scW a4 (a5 0) (a6 0), stW G a5 v5, rdW G a6 v6, paW G a7 v7, txW G a8 v8, slW G a9 (a10 0) (a11 0) v9, stW G a10 v10, stW G a11 v11, mdW G a12 q251.2, ouW G a13 v13]) (c_X6_pillar l G a12 v12 hq251) (cwV 0 hts gL_law_X6_pillar rfl rfl rfl hd_X6_pillar ⟨Nat.le_of_ble_eq_true rfl, Nat.le_of_ble_eq_true rfl⟩) hK hP hD hS hA (is := [12]) rfl rfl 12 rfl rfl rfl rfl hl.1 rfl (Nat.le_of_ble_eq_true rfl) dL_law_1364 ⟨by show c9 + 0 ≤ 601024; omega, by show s9 + 0 ≤ 7293033; omega⟩ rfl (fun H locs hP hD hS => ?_)
  refine lv_icmp_eq (tgt := 1796) hx hb dL_law_1367 (by decide) (fun c252 => ?_) (fun c252 => ?_)
  · rw [if_pos c252] at hf
    cases hf
    refine W.widen (k := c9 + 4) (n := s9 + 24) (by omega) (by omega) ?_
    exact K H locs ls hP hD hS (lv_sub hl [0, 1, 2, 3, 4] rfl)
  · rw [if_neg c252] at hf
    refine lv_iconst (v := (0:Int32)) hx hb dL_law_1370 (by decide) ?_
    cases hf
set_option maxHeartbeats 8000000 in
set_option maxRecDepth 100000 in
theorem w_law_1372 {p : Program} {l : Launch} (hl0 : l.stackTraces = false) {e : Env} {s : State} {m : MethodId} {below : List Frame} {meth : Method} {c : Code} {b L : Nat} {xs : Nat → Int32} {A : Nat → Prop} (S : Ev p s m #[Value.ref b] meth c cL_law 7 (some .boolean) RL wsL_law) {G : uG} (hK : kK G s) (hA : ∀ q, s.heap.size ≤ q → A q) (hTH : gTH A s s.heap) (hX : va_X b L xs s s.heap) (hbl : b < s.heap.size) (hbA : ¬ A b) (a0 : Nat → Nat) (a1 : Nat → Nat) (a2 : Nat → Nat) (a3 : Nat → Nat) (a4 : Nat → Nat) (a5 : Nat → Nat) (a6 : Nat → Nat) (a7 : Nat → Nat → Nat) (a8 : Nat → Nat) (a9 : Nat → Nat) (a10 : Nat → Nat) (a11 : Nat → Nat) (a12 : Nat → Nat) (a13 : Nat → Nat) (i4 : Int32) (v1 : StV) (v2 : StV) (v3 : RdV) (v5 : StV) (v6 : RdV) (v7 : PaV) (v8 : TxV) (v9 : SlV) (v10 : StV) (v11 : StV) (v12 : MdV) (v13 : OuV) {w9 : LwV} {Q : State → Prop} {c9 s9 : Nat} (hc9 : c9 + 4 ≤ 601024) (hs9 : s9 + 24 ≤ 7293033) (hf : f_law_1372 xs L i4 v1 v2 v3 v5 v6 v7 v8 v9 v10 v11 v12 v13 = some w9) {H : Heap} {locs : List Loc} {ls : Array Slot} (hP : gP G [maW a0 (a1 0) (a2 0) (a3 0) (a4 0) (a7 0 0) (a8 0) (a9 0) (a9 1), stW G a1 v1, stW G a2 v2, rdW G a3 v3, scW a4 (a5 0) (a6 0), stW G a5 v5, rdW G a6 v6, paW G a7 v7, txW G a8 v8, slW G a9 (a10 0) (a11 0) v9, stW G a10 v10, stW G a11 v11, mdW G a12 v12, ouW G a13 v13] H) (hD : gD A [maW a0 (a1 0) (a2 0) (a3 0) (a4 0) (a7 0 0) (a8 0) (a9 0) (a9 1), stW G a1 v1, stW G a2 v2, rdW G a3 v3, scW a4 (a5 0) (a6 0), stW G a5 v5, rdW G a6 v6, paW G a7 v7, txW G a8 v8, slW G a9 (a10 0) (a11 0) v9, stW G a10 v10, stW G a11 v11, mdW G a12 v12, ouW G a13 v13]) (hS : va_S A s.heap H locs) (hl : lv_has ls 7 [(0, .ref b), (1, .ref (a0 0)), (2, .ref (a12 0)), (3, .ref (a13 0)), (4, .int i4)]) (K : ∀ (H : Heap) (locs : List Loc) (ls : Array Slot), gP G [maW a0 (a1 0) (a2 0) (a3 0) (a4 0) (a7 0 0) (a8 0) (a9 0) (a9 1), stW G a1 w9.1, stW G a2 w9.2.1, rdW G a3 w9.2.2.1, scW a4 (a5 0) (a6 0), stW G a5 w9.2.2.2.1, rdW G a6 w9.2.2.2.2.1, paW G a7 w9.2.2.2.2.2.1, txW G a8 w9.2.2.2.2.2.2.1, slW G a9 (a10 0) (a11 0) w9.2.2.2.2.2.2.2.1, stW G a10 w9.2.2.2.2.2.2.2.2.1, stW G a11 w9.2.2.2.2.2.2.2.2.2.1, mdW G a12 w9.2.2.2.2.2.2.2.2.2.2.1, ouW G a13 w9.2.2.2.2.2.2.2.2.2.2.2] H → gD A [maW a0 (a1 0) (a2 0) (a3 0) (a4 0) (a7 0 0) (a8 0) (a9 0) (a9 1), stW G a1 w9.1, stW G a2 w9.2.1, rdW G a3 w9.2.2.1, scW a4 (a5 0) (a6 0), stW G a5 w9.2.2.2.1, rdW G a6 w9.2.2.2.2.1, paW G a7 w9.2.2.2.2.2.1, txW G a8 w9.2.2.2.2.2.2.1, slW G a9 (a10 0) (a11 0) w9.2.2.2.2.2.2.2.1, stW G a10 w9.2.2.2.2.2.2.2.2.1, stW G a11 w9.2.2.2.2.2.2.2.2.2.1, mdW G a12 w9.2.2.2.2.2.2.2.2.2.2.1, ouW G a13 w9.2.2.2.2.2.2.2.2.2.2.2] → va_S A s.heap H locs → lv_has ls 7 [(0, .ref b), (1, .ref (a0 0)), (2, .ref (a12 0)), (3, .ref (a13 0)), (4, .int i4)] → W p l e room_1 s m #[Value.ref b] below meth c H locs (c9 + 4) (s9 + 24) Q (F0 m 1796 ls [])) : W p l e room_1 s m #[Value.ref b] below meth c H locs (c9) (s9) Q (F0 m 1372 ls []) := by
  obtain ⟨hx, hb, hml, hown, hts, hr, hlocks⟩ := id S
  unfold f_law_1372 at hf
  refine lv_aload_n hx hb dL_law_1372 rfl (lv_at hl 1 rfl) ?_
  refine lv_aload_n hx hb dL_law_1373 rfl (lv_at hl 0 rfl) ?_
  refine lv_iload hx hb dL_law_1374 (lv_at hl 4 rfl) ?_
  refine lv_iconst (v := (1:Int32)) hx hb dL_law_1376 (by decide) ?_
  refine lv_iadd hx hb dL_law_1377 ?_
  obtain ⟨h253, hf⟩ := gi_some hf
  refine va_sld hx hb hX hbl hbA hS h253 dL_law_1378 ?_
  refine lv_aload_n hx hb dL_law_1379 rfl (lv_at hl 3 rfl) ?_
  obtain ⟨q254, hq254, hf⟩ := bd_some hf
  refine g_callHi S (As := [.ref (a0 0), .int (xs (i4 + (1:Int32)).toNatClampNeg), .ref (a13 0)]) (gs' := [maW a0 (a1 0) (a2 0) (a3 0) (a4 0) (a7 0 0) (a8 0) (a9 0) (a9 1), stW G a1 v1, stW G a2 q254.2.1, rdW G a3 q254.2.2.1, scW a4 (a5 0) (a6 0), stW G a5 v5, rdW G a6 v6, paW G a7 v7, txW G a8 v8, slW G a9 (a10 0) (a11 0) v9, stW G a10 v10, stW G a11 v11, mdW G a12 v12, ouW G a13 q254.2.2.2]) (c_L_when l hl0 G a0 a1 a2 a3 a4 a5 a6 a7 a8 a9 a10 a11 a13 v1 v2 v3 v13 (xs (i4 + (1:Int32)).toNatClampNeg) hq254) (vx_cwSW 3 hts gL_law_L_when rfl rfl rfl hd_L_when.2 ⟨(Nat.le_of_ble_eq_true rfl), (Nat.le_of_ble_eq_true rfl)⟩) hTH hK hP hD hS hA (is := [0, 1, 2, 3, 13]) rfl rfl rfl hl.1 rfl (Nat.le_of_ble_eq_true rfl) dL_law_1380 ⟨by show c9 + 1 ≤ 601024; omega, by show s9 + 6 ≤ 7293033; omega⟩ rfl (fun H locs hP hD hS => ?_)
  refine lv_istore (lv' := [(5, .int q254.1), (0, .ref b), (1, .ref (a0 0)), (2, .ref (a12 0)), (3, .ref (a13 0)), (4, .int i4)]) hx hb dL_law_1383 hl (by decide) rfl (fun ls hl => ?_)
  refine lv_aload_n hx hb dL_law_1385 rfl (lv_at hl 3 rfl) ?_
  refine lv_aload_n hx hb dL_law_1386 rfl (lv_at hl 1 rfl) ?_
  refine lv_iload hx hb dL_law_1387 (lv_at hl 5 rfl) ?_
  refine lv_iconst (v := (1:Int32)) hx hb dL_law_1389 (by decide) ?_
  refine lv_iadd hx hb dL_law_1390 ?_
  obtain ⟨h255, hf⟩ := gi_some hf
  refine va_sld hx hb hX hbl hbA hS h255 dL_law_1391 ?_
  obtain ⟨q256, hq256, hf⟩ := bd_some hf
  refine g_callVi S (As := [.int (xs (i4 + (1:Int32)).toNatClampNeg)]) (gs' := [maW a0 (a1 0) (a2 0) (a3 0) (a4 0) (a7 0 0) (a8 0) (a9 0) (a9 1), stW G a1 v1, stW G a2 q254.2.1, rdW G a3 q254.2.2.1, scW a4 (a5 0) (a6 0), stW G a5 v5, rdW G a6 v6, paW G a7 v7, txW G a8 v8, slW G a9 (a10 0) (a11 0) v9, stW G a10 v10, stW G a11 v11, mdW G a12 q256.2, ouW G a13 q254.2.2.2]) (c_X6_when l G a12 v12 (xs (i4 + (1:Int32)).toNatClampNeg) hq256) (cwV 1 hts gL_law_X6_when rfl rfl rfl hd_X6_when ⟨Nat.le_of_ble_eq_true rfl, Nat.le_of_ble_eq_true rfl⟩) hK hP hD hS hA (is := [12]) rfl rfl 12 rfl rfl rfl rfl hl.1 rfl (Nat.le_of_ble_eq_true rfl) dL_law_1392 ⟨by show c9 + 1 + 0 ≤ 601024; omega, by show s9 + 6 + 0 ≤ 7293033; omega⟩ rfl (fun H locs hP hD hS => ?_)
  refine lv_istore (lv' := [(6, .int q256.1), (5, .int q254.1), (0, .ref b), (1, .ref (a0 0)), (2, .ref (a12 0)), (3, .ref (a13 0)), (4, .int i4)]) hx hb dL_law_1395 hl (by decide) rfl (fun ls hl => ?_)
  refine lv_aload_n hx hb dL_law_1397 rfl (lv_at hl 4 rfl) ?_
  obtain ⟨q257, hq257, hf⟩ := bd_some hf
  refine g_callVi S (As := []) (gs' := [maW a0 (a1 0) (a2 0) (a3 0) (a4 0) (a7 0 0) (a8 0) (a9 0) (a9 1), stW G a1 v1, stW G a2 q254.2.1, rdW G a3 q254.2.2.1, scW a4 (a5 0) (a6 0), stW G a5 v5, rdW G a6 v6, paW G a7 v7, txW G a8 v8, slW G a9 (a10 0) (a11 0) v9, stW G a10 v10, stW G a11 v11, mdW G a12 q256.2, ouW G a13 q254.2.2.2]) (c_X6_thrown l G a12 q256.2 hq257) (cwV 0 hts gL_law_X6_thrown rfl rfl rfl hd_X6_thrown ⟨Nat.le_of_ble_eq_true rfl, Nat.le_of_ble_eq_true rfl⟩) hK hP hD hS hA (is := [12]) rfl rfl 12 rfl rfl rfl rfl hl.1 rfl (Nat.le_of_ble_eq_true rfl) dL_law_1398 ⟨by show c9 + 1 + 0 ≤ 601024; omega, by show s9 + 6 + 0 ≤ 7293033; omega⟩ rfl (fun H locs hP hD hS => ?_)
  refine lv_iload hx hb dL_law_1401 (lv_at hl 1 rfl) ?_
  refine lv_icmp_eq (tgt := 1408) hx hb dL_law_1403 (by decide) (fun c258 => ?_) (fun c258 => ?_)
  · rw [if_pos c258] at hf
    refine lv_iload hx hb dL_law_1408 (lv_at hl 1 rfl) ?_
    refine lv_if_ne (tgt := 1425) hx hb dL_law_1410 (by decide) (fun c259 => ?_) (fun c259 => ?_)
    · rw [if_neg c259] at hf
      refine lv_goto (tgt := 1796) hx hb dL_law_1425 (by decide) ?_
      cases hf
      refine W.widen (k := c9 + 4) (n := s9 + 24) (by omega) (by omega) ?_
      exact K H locs ls hP hD hS (lv_sub hl [2, 3, 4, 5, 6] rfl)
    · rw [if_pos c259] at hf
      refine lv_aload_n hx hb dL_law_1413 rfl (lv_at hl 5 rfl) ?_
      refine lv_iconst (v := (0:Int32)) hx hb dL_law_1414 (by decide) ?_
      obtain ⟨h260, hf⟩ := gi_some hf
      refine g_lald hx hb hK hP 13 0 3 rfl rfl rfl h260 dL_law_1415 ?_
      refine lv_iload hx hb dL_law_1416 (lv_at hl 0 rfl) ?_
      refine lv_i2l (v := q256.1.toInt64) hx hb dL_law_1418 rfl ?_
      refine W.lcmp hx hb dL_law_1419 ?_
      obtain ⟨x261, ex261, hf⟩ := lt_some hf
      refine lv_nmi ex261 ?_
      refine lv_if_eq (tgt := 1425) hx hb dL_law_1420 (by decide) (fun c262 => ?_) (fun c262 => ?_)
      · rw [if_pos c262] at hf
        refine lv_goto (tgt := 1796) hx hb dL_law_1425 (by decide) ?_
        cases hf
        refine W.widen (k := c9 + 4) (n := s9 + 24) (by omega) (by omega) ?_
        exact K H locs ls hP hD hS (lv_sub hl [2, 3, 4, 5, 6] rfl)
      · rw [if_neg c262] at hf
        refine lv_iconst (v := (0:Int32)) hx hb dL_law_1423 (by decide) ?_
        cases hf
  · rw [if_neg c258] at hf
    refine lv_iconst (v := (0:Int32)) hx hb dL_law_1406 (by decide) ?_
    cases hf
set_option maxHeartbeats 8000000 in
set_option maxRecDepth 100000 in
theorem w_law_1428 {p : Program} {l : Launch} (hl0 : l.stackTraces = false) {e : Env} {s : State} {m : MethodId} {below : List Frame} {meth : Method} {c : Code} {b L : Nat} {xs : Nat → Int32} {A : Nat → Prop} (S : Ev p s m #[Value.ref b] meth c cL_law 7 (some .boolean) RL wsL_law) {G : uG} (hK : kK G s) (hA : ∀ q, s.heap.size ≤ q → A q) (hTH : gTH A s s.heap) (hX : va_X b L xs s s.heap) (hbl : b < s.heap.size) (hbA : ¬ A b) (a0 : Nat → Nat) (a1 : Nat → Nat) (a2 : Nat → Nat) (a3 : Nat → Nat) (a4 : Nat → Nat) (a5 : Nat → Nat) (a6 : Nat → Nat) (a7 : Nat → Nat → Nat) (a8 : Nat → Nat) (a9 : Nat → Nat) (a10 : Nat → Nat) (a11 : Nat → Nat) (a12 : Nat → Nat) (a13 : Nat → Nat) (i4 : Int32) (v1 : StV) (v2 : StV) (v3 : RdV) (v5 : StV) (v6 : RdV) (v7 : PaV) (v8 : TxV) (v9 : SlV) (v10 : StV) (v11 : StV) (v12 : MdV) (v13 : OuV) {w9 : LwV} {Q : State → Prop} {c9 s9 : Nat} (hc9 : c9 + 4 ≤ 601024) (hs9 : s9 + 24 ≤ 7293033) (hf : f_law_1428 xs L i4 v1 v2 v3 v5 v6 v7 v8 v9 v10 v11 v12 v13 = some w9) {H : Heap} {locs : List Loc} {ls : Array Slot} (hP : gP G [maW a0 (a1 0) (a2 0) (a3 0) (a4 0) (a7 0 0) (a8 0) (a9 0) (a9 1), stW G a1 v1, stW G a2 v2, rdW G a3 v3, scW a4 (a5 0) (a6 0), stW G a5 v5, rdW G a6 v6, paW G a7 v7, txW G a8 v8, slW G a9 (a10 0) (a11 0) v9, stW G a10 v10, stW G a11 v11, mdW G a12 v12, ouW G a13 v13] H) (hD : gD A [maW a0 (a1 0) (a2 0) (a3 0) (a4 0) (a7 0 0) (a8 0) (a9 0) (a9 1), stW G a1 v1, stW G a2 v2, rdW G a3 v3, scW a4 (a5 0) (a6 0), stW G a5 v5, rdW G a6 v6, paW G a7 v7, txW G a8 v8, slW G a9 (a10 0) (a11 0) v9, stW G a10 v10, stW G a11 v11, mdW G a12 v12, ouW G a13 v13]) (hS : va_S A s.heap H locs) (hl : lv_has ls 7 [(0, .ref b), (1, .ref (a0 0)), (2, .ref (a12 0)), (3, .ref (a13 0)), (4, .int i4)]) (K : ∀ (H : Heap) (locs : List Loc) (ls : Array Slot), gP G [maW a0 (a1 0) (a2 0) (a3 0) (a4 0) (a7 0 0) (a8 0) (a9 0) (a9 1), stW G a1 w9.1, stW G a2 w9.2.1, rdW G a3 w9.2.2.1, scW a4 (a5 0) (a6 0), stW G a5 w9.2.2.2.1, rdW G a6 w9.2.2.2.2.1, paW G a7 w9.2.2.2.2.2.1, txW G a8 w9.2.2.2.2.2.2.1, slW G a9 (a10 0) (a11 0) w9.2.2.2.2.2.2.2.1, stW G a10 w9.2.2.2.2.2.2.2.2.1, stW G a11 w9.2.2.2.2.2.2.2.2.2.1, mdW G a12 w9.2.2.2.2.2.2.2.2.2.2.1, ouW G a13 w9.2.2.2.2.2.2.2.2.2.2.2] H → gD A [maW a0 (a1 0) (a2 0) (a3 0) (a4 0) (a7 0 0) (a8 0) (a9 0) (a9 1), stW G a1 w9.1, stW G a2 w9.2.1, rdW G a3 w9.2.2.1, scW a4 (a5 0) (a6 0), stW G a5 w9.2.2.2.1, rdW G a6 w9.2.2.2.2.1, paW G a7 w9.2.2.2.2.2.1, txW G a8 w9.2.2.2.2.2.2.1, slW G a9 (a10 0) (a11 0) w9.2.2.2.2.2.2.2.1, stW G a10 w9.2.2.2.2.2.2.2.2.1, stW G a11 w9.2.2.2.2.2.2.2.2.2.1, mdW G a12 w9.2.2.2.2.2.2.2.2.2.2.1, ouW G a13 w9.2.2.2.2.2.2.2.2.2.2.2] → va_S A s.heap H locs → lv_has ls 7 [(0, .ref b), (1, .ref (a0 0)), (2, .ref (a12 0)), (3, .ref (a13 0)), (4, .int i4)] → W p l e room_1 s m #[Value.ref b] below meth c H locs (c9 + 4) (s9 + 24) Q (F0 m 1796 ls [])) : W p l e room_1 s m #[Value.ref b] below meth c H locs (c9) (s9) Q (F0 m 1428 ls []) := by
  obtain ⟨hx, hb, hml, hown, hts, hr, hlocks⟩ := id S
  unfold f_law_1428 at hf
  refine lv_aload_n hx hb dL_law_1428 rfl (lv_at hl 1 rfl) ?_
  refine lv_aload_n hx hb dL_law_1429 rfl (lv_at hl 0 rfl) ?_
  refine lv_iload hx hb dL_law_1430 (lv_at hl 4 rfl) ?_
  refine lv_iconst (v := (1:Int32)) hx hb dL_law_1432 (by decide) ?_
  refine lv_iadd hx hb dL_law_1433 ?_
  obtain ⟨h263, hf⟩ := gi_some hf
  refine va_sld hx hb hX hbl hbA hS h263 dL_law_1434 ?_
  refine lv_aload_n hx hb dL_law_1435 rfl (lv_at hl 3 rfl) ?_
  obtain ⟨q264, hq264, hf⟩ := bd_some hf
  refine g_callHi S (As := [.ref (a0 0), .int (xs (i4 + (1:Int32)).toNatClampNeg), .ref (a13 0)]) (gs' := [maW a0 (a1 0) (a2 0) (a3 0) (a4 0) (a7 0 0) (a8 0) (a9 0) (a9 1), stW G a1 v1, stW G a2 q264.2.1, rdW G a3 q264.2.2.1, scW a4 (a5 0) (a6 0), stW G a5 v5, rdW G a6 v6, paW G a7 v7, txW G a8 v8, slW G a9 (a10 0) (a11 0) v9, stW G a10 v10, stW G a11 v11, mdW G a12 v12, ouW G a13 q264.2.2.2]) (c_L_inTheEnd l hl0 G a0 a1 a2 a3 a4 a5 a6 a7 a8 a9 a10 a11 a13 v1 v2 v3 v13 (xs (i4 + (1:Int32)).toNatClampNeg) hq264) (vx_cwSW 3 hts gL_law_L_inTheEnd rfl rfl rfl hd_L_inTheEnd.2 ⟨(Nat.le_of_ble_eq_true rfl), (Nat.le_of_ble_eq_true rfl)⟩) hTH hK hP hD hS hA (is := [0, 1, 2, 3, 13]) rfl rfl rfl hl.1 rfl (Nat.le_of_ble_eq_true rfl) dL_law_1436 ⟨by show c9 + 1 ≤ 601024; omega, by show s9 + 6 ≤ 7293033; omega⟩ rfl (fun H locs hP hD hS => ?_)
  refine lv_istore (lv' := [(5, .int q264.1), (0, .ref b), (1, .ref (a0 0)), (2, .ref (a12 0)), (3, .ref (a13 0)), (4, .int i4)]) hx hb dL_law_1439 hl (by decide) rfl (fun ls hl => ?_)
  refine lv_aload_n hx hb dL_law_1441 rfl (lv_at hl 3 rfl) ?_
  refine lv_aload_n hx hb dL_law_1442 rfl (lv_at hl 1 rfl) ?_
  refine lv_iload hx hb dL_law_1443 (lv_at hl 5 rfl) ?_
  refine lv_iconst (v := (1:Int32)) hx hb dL_law_1445 (by decide) ?_
  refine lv_iadd hx hb dL_law_1446 ?_
  obtain ⟨h265, hf⟩ := gi_some hf
  refine va_sld hx hb hX hbl hbA hS h265 dL_law_1447 ?_
  obtain ⟨q266, hq266, hf⟩ := bd_some hf
  refine g_callVi S (As := [.int (xs (i4 + (1:Int32)).toNatClampNeg)]) (gs' := [maW a0 (a1 0) (a2 0) (a3 0) (a4 0) (a7 0 0) (a8 0) (a9 0) (a9 1), stW G a1 v1, stW G a2 q264.2.1, rdW G a3 q264.2.2.1, scW a4 (a5 0) (a6 0), stW G a5 v5, rdW G a6 v6, paW G a7 v7, txW G a8 v8, slW G a9 (a10 0) (a11 0) v9, stW G a10 v10, stW G a11 v11, mdW G a12 q266.2, ouW G a13 q264.2.2.2]) (c_X6_inTheEnd l G a12 v12 (xs (i4 + (1:Int32)).toNatClampNeg) hq266) (cwV 1 hts gL_law_X6_inTheEnd rfl rfl rfl hd_X6_inTheEnd ⟨Nat.le_of_ble_eq_true rfl, Nat.le_of_ble_eq_true rfl⟩) hK hP hD hS hA (is := [12]) rfl rfl 12 rfl rfl rfl rfl hl.1 rfl (Nat.le_of_ble_eq_true rfl) dL_law_1448 ⟨by show c9 + 1 + 0 ≤ 601024; omega, by show s9 + 6 + 0 ≤ 7293033; omega⟩ rfl (fun H locs hP hD hS => ?_)
  refine lv_istore (lv' := [(6, .int q266.1), (5, .int q264.1), (0, .ref b), (1, .ref (a0 0)), (2, .ref (a12 0)), (3, .ref (a13 0)), (4, .int i4)]) hx hb dL_law_1451 hl (by decide) rfl (fun ls hl => ?_)
  refine lv_aload_n hx hb dL_law_1453 rfl (lv_at hl 4 rfl) ?_
  obtain ⟨q267, hq267, hf⟩ := bd_some hf
  refine g_callVi S (As := []) (gs' := [maW a0 (a1 0) (a2 0) (a3 0) (a4 0) (a7 0 0) (a8 0) (a9 0) (a9 1), stW G a1 v1, stW G a2 q264.2.1, rdW G a3 q264.2.2.1, scW a4 (a5 0) (a6 0), stW G a5 v5, rdW G a6 v6, paW G a7 v7, txW G a8 v8, slW G a9 (a10 0) (a11 0) v9, stW G a10 v10, stW G a11 v11, mdW G a12 q266.2, ouW G a13 q264.2.2.2]) (c_X6_thrown l G a12 q266.2 hq267) (cwV 0 hts gL_law_X6_thrown rfl rfl rfl hd_X6_thrown ⟨Nat.le_of_ble_eq_true rfl, Nat.le_of_ble_eq_true rfl⟩) hK hP hD hS hA (is := [12]) rfl rfl 12 rfl rfl rfl rfl hl.1 rfl (Nat.le_of_ble_eq_true rfl) dL_law_1454 ⟨by show c9 + 1 + 0 ≤ 601024; omega, by show s9 + 6 + 0 ≤ 7293033; omega⟩ rfl (fun H locs hP hD hS => ?_)
  refine lv_iload hx hb dL_law_1457 (lv_at hl 1 rfl) ?_
  refine lv_icmp_eq (tgt := 1464) hx hb dL_law_1459 (by decide) (fun c268 => ?_) (fun c268 => ?_)
  · rw [if_pos c268] at hf
    refine lv_iload hx hb dL_law_1464 (lv_at hl 1 rfl) ?_
    refine lv_if_ne (tgt := 1481) hx hb dL_law_1466 (by decide) (fun c269 => ?_) (fun c269 => ?_)
    · rw [if_neg c269] at hf
      refine lv_goto (tgt := 1796) hx hb dL_law_1481 (by decide) ?_
      cases hf
      refine W.widen (k := c9 + 4) (n := s9 + 24) (by omega) (by omega) ?_
      exact K H locs ls hP hD hS (lv_sub hl [2, 3, 4, 5, 6] rfl)
    · rw [if_pos c269] at hf
      refine lv_aload_n hx hb dL_law_1469 rfl (lv_at hl 5 rfl) ?_
      refine lv_iconst (v := (0:Int32)) hx hb dL_law_1470 (by decide) ?_
      obtain ⟨h270, hf⟩ := gi_some hf
      refine g_lald hx hb hK hP 13 0 3 rfl rfl rfl h270 dL_law_1471 ?_
      refine lv_iload hx hb dL_law_1472 (lv_at hl 0 rfl) ?_
      refine lv_i2l (v := q266.1.toInt64) hx hb dL_law_1474 rfl ?_
      refine W.lcmp hx hb dL_law_1475 ?_
      obtain ⟨x271, ex271, hf⟩ := lt_some hf
      refine lv_nmi ex271 ?_
      refine lv_if_eq (tgt := 1481) hx hb dL_law_1476 (by decide) (fun c272 => ?_) (fun c272 => ?_)
      · rw [if_pos c272] at hf
        refine lv_goto (tgt := 1796) hx hb dL_law_1481 (by decide) ?_
        cases hf
        refine W.widen (k := c9 + 4) (n := s9 + 24) (by omega) (by omega) ?_
        exact K H locs ls hP hD hS (lv_sub hl [2, 3, 4, 5, 6] rfl)
      · rw [if_neg c272] at hf
        refine lv_iconst (v := (0:Int32)) hx hb dL_law_1479 (by decide) ?_
        cases hf
  · rw [if_neg c268] at hf
    refine lv_iconst (v := (0:Int32)) hx hb dL_law_1462 (by decide) ?_
    cases hf
set_option maxHeartbeats 8000000 in
set_option maxRecDepth 100000 in
theorem w_law_1484 {p : Program} {l : Launch} (hl0 : l.stackTraces = false) {e : Env} {s : State} {m : MethodId} {below : List Frame} {meth : Method} {c : Code} {b L : Nat} {xs : Nat → Int32} {A : Nat → Prop} (S : Ev p s m #[Value.ref b] meth c cL_law 7 (some .boolean) RL wsL_law) {G : uG} (hK : kK G s) (hA : ∀ q, s.heap.size ≤ q → A q) (hTH : gTH A s s.heap) (hX : va_X b L xs s s.heap) (hbl : b < s.heap.size) (hbA : ¬ A b) (a0 : Nat → Nat) (a1 : Nat → Nat) (a2 : Nat → Nat) (a3 : Nat → Nat) (a4 : Nat → Nat) (a5 : Nat → Nat) (a6 : Nat → Nat) (a7 : Nat → Nat → Nat) (a8 : Nat → Nat) (a9 : Nat → Nat) (a10 : Nat → Nat) (a11 : Nat → Nat) (a12 : Nat → Nat) (a13 : Nat → Nat) (i4 : Int32) (v1 : StV) (v2 : StV) (v3 : RdV) (v5 : StV) (v6 : RdV) (v7 : PaV) (v8 : TxV) (v9 : SlV) (v10 : StV) (v11 : StV) (v12 : MdV) (v13 : OuV) {w9 : LwV} {Q : State → Prop} {c9 s9 : Nat} (hc9 : c9 + 4 ≤ 601024) (hs9 : s9 + 24 ≤ 7293033) (hf : f_law_1484 xs L i4 v1 v2 v3 v5 v6 v7 v8 v9 v10 v11 v12 v13 = some w9) {H : Heap} {locs : List Loc} {ls : Array Slot} (hP : gP G [maW a0 (a1 0) (a2 0) (a3 0) (a4 0) (a7 0 0) (a8 0) (a9 0) (a9 1), stW G a1 v1, stW G a2 v2, rdW G a3 v3, scW a4 (a5 0) (a6 0), stW G a5 v5, rdW G a6 v6, paW G a7 v7, txW G a8 v8, slW G a9 (a10 0) (a11 0) v9, stW G a10 v10, stW G a11 v11, mdW G a12 v12, ouW G a13 v13] H) (hD : gD A [maW a0 (a1 0) (a2 0) (a3 0) (a4 0) (a7 0 0) (a8 0) (a9 0) (a9 1), stW G a1 v1, stW G a2 v2, rdW G a3 v3, scW a4 (a5 0) (a6 0), stW G a5 v5, rdW G a6 v6, paW G a7 v7, txW G a8 v8, slW G a9 (a10 0) (a11 0) v9, stW G a10 v10, stW G a11 v11, mdW G a12 v12, ouW G a13 v13]) (hS : va_S A s.heap H locs) (hl : lv_has ls 7 [(0, .ref b), (1, .ref (a0 0)), (2, .ref (a12 0)), (3, .ref (a13 0)), (4, .int i4)]) (K : ∀ (H : Heap) (locs : List Loc) (ls : Array Slot), gP G [maW a0 (a1 0) (a2 0) (a3 0) (a4 0) (a7 0 0) (a8 0) (a9 0) (a9 1), stW G a1 w9.1, stW G a2 w9.2.1, rdW G a3 w9.2.2.1, scW a4 (a5 0) (a6 0), stW G a5 w9.2.2.2.1, rdW G a6 w9.2.2.2.2.1, paW G a7 w9.2.2.2.2.2.1, txW G a8 w9.2.2.2.2.2.2.1, slW G a9 (a10 0) (a11 0) w9.2.2.2.2.2.2.2.1, stW G a10 w9.2.2.2.2.2.2.2.2.1, stW G a11 w9.2.2.2.2.2.2.2.2.2.1, mdW G a12 w9.2.2.2.2.2.2.2.2.2.2.1, ouW G a13 w9.2.2.2.2.2.2.2.2.2.2.2] H → gD A [maW a0 (a1 0) (a2 0) (a3 0) (a4 0) (a7 0 0) (a8 0) (a9 0) (a9 1), stW G a1 w9.1, stW G a2 w9.2.1, rdW G a3 w9.2.2.1, scW a4 (a5 0) (a6 0), stW G a5 w9.2.2.2.1, rdW G a6 w9.2.2.2.2.1, paW G a7 w9.2.2.2.2.2.1, txW G a8 w9.2.2.2.2.2.2.1, slW G a9 (a10 0) (a11 0) w9.2.2.2.2.2.2.2.1, stW G a10 w9.2.2.2.2.2.2.2.2.1, stW G a11 w9.2.2.2.2.2.2.2.2.2.1, mdW G a12 w9.2.2.2.2.2.2.2.2.2.2.1, ouW G a13 w9.2.2.2.2.2.2.2.2.2.2.2] → va_S A s.heap H locs → lv_has ls 7 [(0, .ref b), (1, .ref (a0 0)), (2, .ref (a12 0)), (3, .ref (a13 0)), (4, .int i4)] → W p l e room_1 s m #[Value.ref b] below meth c H locs (c9 + 4) (s9 + 24) Q (F0 m 1796 ls [])) : W p l e room_1 s m #[Value.ref b] below meth c H locs (c9) (s9) Q (F0 m 1484 ls []) := by
  obtain ⟨hx, hb, hml, hown, hts, hr, hlocks⟩ := id S
  unfold f_law_1484 at hf
  refine lv_aload_n hx hb dL_law_1484 rfl (lv_at hl 1 rfl) ?_
  refine lv_aload_n hx hb dL_law_1485 rfl (lv_at hl 0 rfl) ?_
  refine lv_iload hx hb dL_law_1486 (lv_at hl 4 rfl) ?_
  refine lv_iconst (v := (1:Int32)) hx hb dL_law_1488 (by decide) ?_
  refine lv_iadd hx hb dL_law_1489 ?_
  obtain ⟨h273, hf⟩ := gi_some hf
  refine va_sld hx hb hX hbl hbA hS h273 dL_law_1490 ?_
  refine lv_aload_n hx hb dL_law_1491 rfl (lv_at hl 0 rfl) ?_
  refine lv_iload hx hb dL_law_1492 (lv_at hl 4 rfl) ?_
  refine lv_iconst (v := (2:Int32)) hx hb dL_law_1494 (by decide) ?_
  refine lv_iadd hx hb dL_law_1495 ?_
  obtain ⟨h274, hf⟩ := gi_some hf
  refine va_sld hx hb hX hbl hbA hS h274 dL_law_1496 ?_
  refine lv_i2l (v := (xs (i4 + (2:Int32)).toNatClampNeg).toInt64) hx hb dL_law_1497 rfl ?_
  refine lv_bipush (v := (32:Int32)) hx hb dL_law_1498 (by decide) ?_
  refine lv_lshl (v := ((xs (i4 + (2:Int32)).toNatClampNeg).toInt64) <<< ((32:Int32).toInt64 &&& 63)) hx hb dL_law_1500 rfl ?_
  obtain ⟨x275, ex275, hf⟩ := lt_some hf
  refine lv_nml ex275 ?_
  refine lv_aload_n hx hb dL_law_1501 rfl (lv_at hl 0 rfl) ?_
  refine lv_iload hx hb dL_law_1502 (lv_at hl 4 rfl) ?_
  refine lv_iconst (v := (3:Int32)) hx hb dL_law_1504 (by decide) ?_
  refine lv_iadd hx hb dL_law_1505 ?_
  obtain ⟨h276, hf⟩ := gi_some hf
  refine va_sld hx hb hX hbl hbA hS h276 dL_law_1506 ?_
  refine lv_i2l (v := (xs (i4 + (3:Int32)).toNatClampNeg).toInt64) hx hb dL_law_1507 rfl ?_
  refine lv_ldc2 (v := (4294967295:Int64)) hx hb hown (hts _ kL_law_0) dL_law_1508 ?_
  refine lv_land hx hb dL_law_1511 ?_
  obtain ⟨x277, ex277, hf⟩ := lt_some hf
  refine lv_nml ex277 ?_
  refine lv_lor hx hb dL_law_1512 ?_
  refine lv_aload_n hx hb dL_law_1513 rfl (lv_at hl 3 rfl) ?_
  obtain ⟨q278, hq278, hf⟩ := bd_some hf
  refine g_callHi S (As := [.ref (a0 0), .int (xs (i4 + (1:Int32)).toNatClampNeg), .long (x275 ||| x277), .ref (a13 0)]) (gs' := [maW a0 (a1 0) (a2 0) (a3 0) (a4 0) (a7 0 0) (a8 0) (a9 0) (a9 1), stW G a1 v1, stW G a2 v2, rdW G a3 v3, scW a4 (a5 0) (a6 0), stW G a5 q278.2.1, rdW G a6 q278.2.2.1, paW G a7 v7, txW G a8 v8, slW G a9 (a10 0) (a11 0) v9, stW G a10 v10, stW G a11 v11, mdW G a12 v12, ouW G a13 q278.2.2.2]) (c_L_runScript l hl0 G a0 a1 a2 a3 a4 a5 a6 a7 a8 a9 a10 a11 a13 v1 v5 v6 v13 (xs (i4 + (1:Int32)).toNatClampNeg) (x275 ||| x277) hq278) (vx_cwSW 4 hts gL_law_L_runScript rfl rfl rfl hd_L_runScript.2 ⟨(Nat.le_of_ble_eq_true rfl), (Nat.le_of_ble_eq_true rfl)⟩) hTH hK hP hD hS hA (is := [0, 1, 4, 5, 6, 13]) rfl rfl rfl hl.1 rfl (Nat.le_of_ble_eq_true rfl) dL_law_1514 ⟨by show c9 + 2 ≤ 601024; omega, by show s9 + 12 ≤ 7293033; omega⟩ rfl (fun H locs hP hD hS => ?_)
  refine lv_istore (lv' := [(5, .int q278.1), (0, .ref b), (1, .ref (a0 0)), (2, .ref (a12 0)), (3, .ref (a13 0)), (4, .int i4)]) hx hb dL_law_1517 hl (by decide) rfl (fun ls hl => ?_)
  refine lv_aload_n hx hb dL_law_1519 rfl (lv_at hl 3 rfl) ?_
  refine lv_aload_n hx hb dL_law_1520 rfl (lv_at hl 1 rfl) ?_
  refine lv_iload hx hb dL_law_1521 (lv_at hl 5 rfl) ?_
  refine lv_iconst (v := (1:Int32)) hx hb dL_law_1523 (by decide) ?_
  refine lv_iadd hx hb dL_law_1524 ?_
  obtain ⟨h279, hf⟩ := gi_some hf
  refine va_sld hx hb hX hbl hbA hS h279 dL_law_1525 ?_
  refine lv_aload_n hx hb dL_law_1526 rfl (lv_at hl 1 rfl) ?_
  refine lv_iload hx hb dL_law_1527 (lv_at hl 5 rfl) ?_
  refine lv_iconst (v := (2:Int32)) hx hb dL_law_1529 (by decide) ?_
  refine lv_iadd hx hb dL_law_1530 ?_
  obtain ⟨h280, hf⟩ := gi_some hf
  refine va_sld hx hb hX hbl hbA hS h280 dL_law_1531 ?_
  refine lv_i2l (v := (xs (i4 + (2:Int32)).toNatClampNeg).toInt64) hx hb dL_law_1532 rfl ?_
  refine lv_bipush (v := (32:Int32)) hx hb dL_law_1533 (by decide) ?_
  refine lv_lshl (v := ((xs (i4 + (2:Int32)).toNatClampNeg).toInt64) <<< ((32:Int32).toInt64 &&& 63)) hx hb dL_law_1535 rfl ?_
  obtain ⟨x281, ex281, hf⟩ := lt_some hf
  refine lv_nml ex281 ?_
  refine lv_aload_n hx hb dL_law_1536 rfl (lv_at hl 1 rfl) ?_
  refine lv_iload hx hb dL_law_1537 (lv_at hl 5 rfl) ?_
  refine lv_iconst (v := (3:Int32)) hx hb dL_law_1539 (by decide) ?_
  refine lv_iadd hx hb dL_law_1540 ?_
  obtain ⟨h282, hf⟩ := gi_some hf
  refine va_sld hx hb hX hbl hbA hS h282 dL_law_1541 ?_
  refine lv_i2l (v := (xs (i4 + (3:Int32)).toNatClampNeg).toInt64) hx hb dL_law_1542 rfl ?_
  refine lv_ldc2 (v := (4294967295:Int64)) hx hb hown (hts _ kL_law_0) dL_law_1543 ?_
  refine lv_land hx hb dL_law_1546 ?_
  obtain ⟨x283, ex283, hf⟩ := lt_some hf
  refine lv_nml ex283 ?_
  refine lv_lor hx hb dL_law_1547 ?_
  obtain ⟨q284, hq284, hf⟩ := bd_some hf
  refine g_callVi S (As := [.int (xs (i4 + (1:Int32)).toNatClampNeg), .long (x281 ||| x283)]) (gs' := [maW a0 (a1 0) (a2 0) (a3 0) (a4 0) (a7 0 0) (a8 0) (a9 0) (a9 1), stW G a1 v1, stW G a2 v2, rdW G a3 v3, scW a4 (a5 0) (a6 0), stW G a5 q278.2.1, rdW G a6 q278.2.2.1, paW G a7 v7, txW G a8 v8, slW G a9 (a10 0) (a11 0) v9, stW G a10 v10, stW G a11 v11, mdW G a12 q284.2, ouW G a13 q278.2.2.2]) (c_X6_runScript l G a12 v12 (xs (i4 + (1:Int32)).toNatClampNeg) (x281 ||| x283) hq284) (cwV 2 hts gL_law_X6_runScript rfl rfl rfl hd_X6_runScript ⟨Nat.le_of_ble_eq_true rfl, Nat.le_of_ble_eq_true rfl⟩) hK hP hD hS hA (is := [12]) rfl rfl 12 rfl rfl rfl rfl hl.1 rfl (Nat.le_of_ble_eq_true rfl) dL_law_1548 ⟨by show c9 + 2 + 0 ≤ 601024; omega, by show s9 + 12 + 0 ≤ 7293033; omega⟩ rfl (fun H locs hP hD hS => ?_)
  refine lv_istore (lv' := [(6, .int q284.1), (5, .int q278.1), (0, .ref b), (1, .ref (a0 0)), (2, .ref (a12 0)), (3, .ref (a13 0)), (4, .int i4)]) hx hb dL_law_1551 hl (by decide) rfl (fun ls hl => ?_)
  refine lv_aload_n hx hb dL_law_1553 rfl (lv_at hl 4 rfl) ?_
  obtain ⟨q285, hq285, hf⟩ := bd_some hf
  refine g_callVi S (As := []) (gs' := [maW a0 (a1 0) (a2 0) (a3 0) (a4 0) (a7 0 0) (a8 0) (a9 0) (a9 1), stW G a1 v1, stW G a2 v2, rdW G a3 v3, scW a4 (a5 0) (a6 0), stW G a5 q278.2.1, rdW G a6 q278.2.2.1, paW G a7 v7, txW G a8 v8, slW G a9 (a10 0) (a11 0) v9, stW G a10 v10, stW G a11 v11, mdW G a12 q284.2, ouW G a13 q278.2.2.2]) (c_X6_thrown l G a12 q284.2 hq285) (cwV 0 hts gL_law_X6_thrown rfl rfl rfl hd_X6_thrown ⟨Nat.le_of_ble_eq_true rfl, Nat.le_of_ble_eq_true rfl⟩) hK hP hD hS hA (is := [12]) rfl rfl 12 rfl rfl rfl rfl hl.1 rfl (Nat.le_of_ble_eq_true rfl) dL_law_1554 ⟨by show c9 + 2 + 0 ≤ 601024; omega, by show s9 + 12 + 0 ≤ 7293033; omega⟩ rfl (fun H locs hP hD hS => ?_)
  refine lv_iload hx hb dL_law_1557 (lv_at hl 1 rfl) ?_
  refine lv_icmp_eq (tgt := 1564) hx hb dL_law_1559 (by decide) (fun c286 => ?_) (fun c286 => ?_)
  · rw [if_pos c286] at hf
    refine lv_iload hx hb dL_law_1564 (lv_at hl 1 rfl) ?_
    refine lv_if_ne (tgt := 1581) hx hb dL_law_1566 (by decide) (fun c287 => ?_) (fun c287 => ?_)
    · rw [if_neg c287] at hf
      refine lv_goto (tgt := 1796) hx hb dL_law_1581 (by decide) ?_
      cases hf
      refine W.widen (k := c9 + 4) (n := s9 + 24) (by omega) (by omega) ?_
      exact K H locs ls hP hD hS (lv_sub hl [2, 3, 4, 5, 6] rfl)
    · rw [if_pos c287] at hf
      refine lv_aload_n hx hb dL_law_1569 rfl (lv_at hl 5 rfl) ?_
      refine lv_iconst (v := (0:Int32)) hx hb dL_law_1570 (by decide) ?_
      obtain ⟨h288, hf⟩ := gi_some hf
      refine g_lald hx hb hK hP 13 0 3 rfl rfl rfl h288 dL_law_1571 ?_
      refine lv_iload hx hb dL_law_1572 (lv_at hl 0 rfl) ?_
      refine lv_i2l (v := q284.1.toInt64) hx hb dL_law_1574 rfl ?_
      refine W.lcmp hx hb dL_law_1575 ?_
      obtain ⟨x289, ex289, hf⟩ := lt_some hf
      refine lv_nmi ex289 ?_
      refine lv_if_eq (tgt := 1581) hx hb dL_law_1576 (by decide) (fun c290 => ?_) (fun c290 => ?_)
      · rw [if_pos c290] at hf
        refine lv_goto (tgt := 1796) hx hb dL_law_1581 (by decide) ?_
        cases hf
        refine W.widen (k := c9 + 4) (n := s9 + 24) (by omega) (by omega) ?_
        exact K H locs ls hP hD hS (lv_sub hl [2, 3, 4, 5, 6] rfl)
      · rw [if_neg c290] at hf
        refine lv_iconst (v := (0:Int32)) hx hb dL_law_1579 (by decide) ?_
        cases hf
  · rw [if_neg c286] at hf
    refine lv_iconst (v := (0:Int32)) hx hb dL_law_1562 (by decide) ?_
    cases hf
set_option maxHeartbeats 8000000 in
set_option maxRecDepth 100000 in
theorem w_law_1584 {p : Program} {l : Launch} (hl0 : l.stackTraces = false) {e : Env} {s : State} {m : MethodId} {below : List Frame} {meth : Method} {c : Code} {b L : Nat} {xs : Nat → Int32} {A : Nat → Prop} (S : Ev p s m #[Value.ref b] meth c cL_law 7 (some .boolean) RL wsL_law) {G : uG} (hK : kK G s) (hA : ∀ q, s.heap.size ≤ q → A q) (hTH : gTH A s s.heap) (hX : va_X b L xs s s.heap) (hbl : b < s.heap.size) (hbA : ¬ A b) (a0 : Nat → Nat) (a1 : Nat → Nat) (a2 : Nat → Nat) (a3 : Nat → Nat) (a4 : Nat → Nat) (a5 : Nat → Nat) (a6 : Nat → Nat) (a7 : Nat → Nat → Nat) (a8 : Nat → Nat) (a9 : Nat → Nat) (a10 : Nat → Nat) (a11 : Nat → Nat) (a12 : Nat → Nat) (a13 : Nat → Nat) (i4 : Int32) (v1 : StV) (v2 : StV) (v3 : RdV) (v5 : StV) (v6 : RdV) (v7 : PaV) (v8 : TxV) (v9 : SlV) (v10 : StV) (v11 : StV) (v12 : MdV) (v13 : OuV) {w9 : LwV} {Q : State → Prop} {c9 s9 : Nat} (hc9 : c9 + 4 ≤ 601024) (hs9 : s9 + 24 ≤ 7293033) (hf : f_law_1584 xs L i4 v1 v2 v3 v5 v6 v7 v8 v9 v10 v11 v12 v13 = some w9) {H : Heap} {locs : List Loc} {ls : Array Slot} (hP : gP G [maW a0 (a1 0) (a2 0) (a3 0) (a4 0) (a7 0 0) (a8 0) (a9 0) (a9 1), stW G a1 v1, stW G a2 v2, rdW G a3 v3, scW a4 (a5 0) (a6 0), stW G a5 v5, rdW G a6 v6, paW G a7 v7, txW G a8 v8, slW G a9 (a10 0) (a11 0) v9, stW G a10 v10, stW G a11 v11, mdW G a12 v12, ouW G a13 v13] H) (hD : gD A [maW a0 (a1 0) (a2 0) (a3 0) (a4 0) (a7 0 0) (a8 0) (a9 0) (a9 1), stW G a1 v1, stW G a2 v2, rdW G a3 v3, scW a4 (a5 0) (a6 0), stW G a5 v5, rdW G a6 v6, paW G a7 v7, txW G a8 v8, slW G a9 (a10 0) (a11 0) v9, stW G a10 v10, stW G a11 v11, mdW G a12 v12, ouW G a13 v13]) (hS : va_S A s.heap H locs) (hl : lv_has ls 7 [(0, .ref b), (1, .ref (a0 0)), (2, .ref (a12 0)), (3, .ref (a13 0)), (4, .int i4)]) (K : ∀ (H : Heap) (locs : List Loc) (ls : Array Slot), gP G [maW a0 (a1 0) (a2 0) (a3 0) (a4 0) (a7 0 0) (a8 0) (a9 0) (a9 1), stW G a1 w9.1, stW G a2 w9.2.1, rdW G a3 w9.2.2.1, scW a4 (a5 0) (a6 0), stW G a5 w9.2.2.2.1, rdW G a6 w9.2.2.2.2.1, paW G a7 w9.2.2.2.2.2.1, txW G a8 w9.2.2.2.2.2.2.1, slW G a9 (a10 0) (a11 0) w9.2.2.2.2.2.2.2.1, stW G a10 w9.2.2.2.2.2.2.2.2.1, stW G a11 w9.2.2.2.2.2.2.2.2.2.1, mdW G a12 w9.2.2.2.2.2.2.2.2.2.2.1, ouW G a13 w9.2.2.2.2.2.2.2.2.2.2.2] H → gD A [maW a0 (a1 0) (a2 0) (a3 0) (a4 0) (a7 0 0) (a8 0) (a9 0) (a9 1), stW G a1 w9.1, stW G a2 w9.2.1, rdW G a3 w9.2.2.1, scW a4 (a5 0) (a6 0), stW G a5 w9.2.2.2.1, rdW G a6 w9.2.2.2.2.1, paW G a7 w9.2.2.2.2.2.1, txW G a8 w9.2.2.2.2.2.2.1, slW G a9 (a10 0) (a11 0) w9.2.2.2.2.2.2.2.1, stW G a10 w9.2.2.2.2.2.2.2.2.1, stW G a11 w9.2.2.2.2.2.2.2.2.2.1, mdW G a12 w9.2.2.2.2.2.2.2.2.2.2.1, ouW G a13 w9.2.2.2.2.2.2.2.2.2.2.2] → va_S A s.heap H locs → lv_has ls 7 [(0, .ref b), (1, .ref (a0 0)), (2, .ref (a12 0)), (3, .ref (a13 0)), (4, .int i4)] → W p l e room_1 s m #[Value.ref b] below meth c H locs (c9 + 4) (s9 + 24) Q (F0 m 1796 ls [])) : W p l e room_1 s m #[Value.ref b] below meth c H locs (c9) (s9) Q (F0 m 1584 ls []) := by
  obtain ⟨hx, hb, hml, hown, hts, hr, hlocks⟩ := id S
  unfold f_law_1584 at hf
  refine lv_aload_n hx hb dL_law_1584 rfl (lv_at hl 1 rfl) ?_
  refine lv_aload_n hx hb dL_law_1585 rfl (lv_at hl 0 rfl) ?_
  refine lv_iload hx hb dL_law_1586 (lv_at hl 4 rfl) ?_
  refine lv_iconst (v := (1:Int32)) hx hb dL_law_1588 (by decide) ?_
  refine lv_iadd hx hb dL_law_1589 ?_
  obtain ⟨h291, hf⟩ := gi_some hf
  refine va_sld hx hb hX hbl hbA hS h291 dL_law_1590 ?_
  refine lv_i2l (v := (xs (i4 + (1:Int32)).toNatClampNeg).toInt64) hx hb dL_law_1591 rfl ?_
  refine lv_bipush (v := (32:Int32)) hx hb dL_law_1592 (by decide) ?_
  refine lv_lshl (v := ((xs (i4 + (1:Int32)).toNatClampNeg).toInt64) <<< ((32:Int32).toInt64 &&& 63)) hx hb dL_law_1594 rfl ?_
  obtain ⟨x292, ex292, hf⟩ := lt_some hf
  refine lv_nml ex292 ?_
  refine lv_aload_n hx hb dL_law_1595 rfl (lv_at hl 0 rfl) ?_
  refine lv_iload hx hb dL_law_1596 (lv_at hl 4 rfl) ?_
  refine lv_iconst (v := (2:Int32)) hx hb dL_law_1598 (by decide) ?_
  refine lv_iadd hx hb dL_law_1599 ?_
  obtain ⟨h293, hf⟩ := gi_some hf
  refine va_sld hx hb hX hbl hbA hS h293 dL_law_1600 ?_
  refine lv_i2l (v := (xs (i4 + (2:Int32)).toNatClampNeg).toInt64) hx hb dL_law_1601 rfl ?_
  refine lv_ldc2 (v := (4294967295:Int64)) hx hb hown (hts _ kL_law_0) dL_law_1602 ?_
  refine lv_land hx hb dL_law_1605 ?_
  obtain ⟨x294, ex294, hf⟩ := lt_some hf
  refine lv_nml ex294 ?_
  refine lv_lor hx hb dL_law_1606 ?_
  refine lv_aload_n hx hb dL_law_1607 rfl (lv_at hl 0 rfl) ?_
  refine lv_iload hx hb dL_law_1608 (lv_at hl 4 rfl) ?_
  refine lv_iconst (v := (3:Int32)) hx hb dL_law_1610 (by decide) ?_
  refine lv_iadd hx hb dL_law_1611 ?_
  obtain ⟨h295, hf⟩ := gi_some hf
  refine va_sld hx hb hX hbl hbA hS h295 dL_law_1612 ?_
  refine lv_aload_n hx hb dL_law_1613 rfl (lv_at hl 3 rfl) ?_
  obtain ⟨q296, hq296, hf⟩ := bd_some hf
  refine g_callHi S (As := [.ref (a0 0), .long (x292 ||| x294), .int (xs (i4 + (3:Int32)).toNatClampNeg), .ref (a13 0)]) (gs' := [maW a0 (a1 0) (a2 0) (a3 0) (a4 0) (a7 0 0) (a8 0) (a9 0) (a9 1), stW G a1 v1, stW G a2 q296.2.1, rdW G a3 q296.2.2.1, scW a4 (a5 0) (a6 0), stW G a5 v5, rdW G a6 v6, paW G a7 v7, txW G a8 v8, slW G a9 (a10 0) (a11 0) v9, stW G a10 v10, stW G a11 v11, mdW G a12 v12, ouW G a13 q296.2.2.2]) (c_L_simulate l hl0 G a0 a1 a2 a3 a4 a5 a6 a7 a8 a9 a10 a11 a13 v1 v2 v3 v13 (x292 ||| x294) (xs (i4 + (3:Int32)).toNatClampNeg) hq296) (vx_cwSW 4 hts gL_law_L_simulate rfl rfl rfl hd_L_simulate.2 ⟨(Nat.le_of_ble_eq_true rfl), (Nat.le_of_ble_eq_true rfl)⟩) hTH hK hP hD hS hA (is := [0, 1, 2, 3, 13]) rfl rfl rfl hl.1 rfl (Nat.le_of_ble_eq_true rfl) dL_law_1614 ⟨by show c9 + 1 ≤ 601024; omega, by show s9 + 6 ≤ 7293033; omega⟩ rfl (fun H locs hP hD hS => ?_)
  refine lv_istore (lv' := [(5, .int q296.1), (0, .ref b), (1, .ref (a0 0)), (2, .ref (a12 0)), (3, .ref (a13 0)), (4, .int i4)]) hx hb dL_law_1617 hl (by decide) rfl (fun ls hl => ?_)
  refine lv_aload_n hx hb dL_law_1619 rfl (lv_at hl 3 rfl) ?_
  refine lv_aload_n hx hb dL_law_1620 rfl (lv_at hl 1 rfl) ?_
  refine lv_iload hx hb dL_law_1621 (lv_at hl 5 rfl) ?_
  refine lv_iconst (v := (1:Int32)) hx hb dL_law_1623 (by decide) ?_
  refine lv_iadd hx hb dL_law_1624 ?_
  obtain ⟨h297, hf⟩ := gi_some hf
  refine va_sld hx hb hX hbl hbA hS h297 dL_law_1625 ?_
  refine lv_i2l (v := (xs (i4 + (1:Int32)).toNatClampNeg).toInt64) hx hb dL_law_1626 rfl ?_
  refine lv_bipush (v := (32:Int32)) hx hb dL_law_1627 (by decide) ?_
  refine lv_lshl (v := ((xs (i4 + (1:Int32)).toNatClampNeg).toInt64) <<< ((32:Int32).toInt64 &&& 63)) hx hb dL_law_1629 rfl ?_
  obtain ⟨x298, ex298, hf⟩ := lt_some hf
  refine lv_nml ex298 ?_
  refine lv_aload_n hx hb dL_law_1630 rfl (lv_at hl 1 rfl) ?_
  refine lv_iload hx hb dL_law_1631 (lv_at hl 5 rfl) ?_
  refine lv_iconst (v := (2:Int32)) hx hb dL_law_1633 (by decide) ?_
  refine lv_iadd hx hb dL_law_1634 ?_
  obtain ⟨h299, hf⟩ := gi_some hf
  refine va_sld hx hb hX hbl hbA hS h299 dL_law_1635 ?_
  refine lv_i2l (v := (xs (i4 + (2:Int32)).toNatClampNeg).toInt64) hx hb dL_law_1636 rfl ?_
  refine lv_ldc2 (v := (4294967295:Int64)) hx hb hown (hts _ kL_law_0) dL_law_1637 ?_
  refine lv_land hx hb dL_law_1640 ?_
  obtain ⟨x300, ex300, hf⟩ := lt_some hf
  refine lv_nml ex300 ?_
  refine lv_lor hx hb dL_law_1641 ?_
  refine lv_aload_n hx hb dL_law_1642 rfl (lv_at hl 1 rfl) ?_
  refine lv_iload hx hb dL_law_1643 (lv_at hl 5 rfl) ?_
  refine lv_iconst (v := (3:Int32)) hx hb dL_law_1645 (by decide) ?_
  refine lv_iadd hx hb dL_law_1646 ?_
  obtain ⟨h301, hf⟩ := gi_some hf
  refine va_sld hx hb hX hbl hbA hS h301 dL_law_1647 ?_
  obtain ⟨q302, hq302, hf⟩ := bd_some hf
  refine g_callVi S (As := [.long (x298 ||| x300), .int (xs (i4 + (3:Int32)).toNatClampNeg)]) (gs' := [maW a0 (a1 0) (a2 0) (a3 0) (a4 0) (a7 0 0) (a8 0) (a9 0) (a9 1), stW G a1 v1, stW G a2 q296.2.1, rdW G a3 q296.2.2.1, scW a4 (a5 0) (a6 0), stW G a5 v5, rdW G a6 v6, paW G a7 v7, txW G a8 v8, slW G a9 (a10 0) (a11 0) v9, stW G a10 v10, stW G a11 v11, mdW G a12 q302.2, ouW G a13 q296.2.2.2]) (c_X6_simulate l G a12 v12 (x298 ||| x300) (xs (i4 + (3:Int32)).toNatClampNeg) hq302) (cwV 2 hts gL_law_X6_simulate rfl rfl rfl hd_X6_simulate ⟨Nat.le_of_ble_eq_true rfl, Nat.le_of_ble_eq_true rfl⟩) hK hP hD hS hA (is := [12]) rfl rfl 12 rfl rfl rfl rfl hl.1 rfl (Nat.le_of_ble_eq_true rfl) dL_law_1648 ⟨by show c9 + 1 + 0 ≤ 601024; omega, by show s9 + 6 + 0 ≤ 7293033; omega⟩ rfl (fun H locs hP hD hS => ?_)
  refine lv_istore (lv' := [(6, .int q302.1), (5, .int q296.1), (0, .ref b), (1, .ref (a0 0)), (2, .ref (a12 0)), (3, .ref (a13 0)), (4, .int i4)]) hx hb dL_law_1651 hl (by decide) rfl (fun ls hl => ?_)
  refine lv_aload_n hx hb dL_law_1653 rfl (lv_at hl 4 rfl) ?_
  obtain ⟨q303, hq303, hf⟩ := bd_some hf
  refine g_callVi S (As := []) (gs' := [maW a0 (a1 0) (a2 0) (a3 0) (a4 0) (a7 0 0) (a8 0) (a9 0) (a9 1), stW G a1 v1, stW G a2 q296.2.1, rdW G a3 q296.2.2.1, scW a4 (a5 0) (a6 0), stW G a5 v5, rdW G a6 v6, paW G a7 v7, txW G a8 v8, slW G a9 (a10 0) (a11 0) v9, stW G a10 v10, stW G a11 v11, mdW G a12 q302.2, ouW G a13 q296.2.2.2]) (c_X6_thrown l G a12 q302.2 hq303) (cwV 0 hts gL_law_X6_thrown rfl rfl rfl hd_X6_thrown ⟨Nat.le_of_ble_eq_true rfl, Nat.le_of_ble_eq_true rfl⟩) hK hP hD hS hA (is := [12]) rfl rfl 12 rfl rfl rfl rfl hl.1 rfl (Nat.le_of_ble_eq_true rfl) dL_law_1654 ⟨by show c9 + 1 + 0 ≤ 601024; omega, by show s9 + 6 + 0 ≤ 7293033; omega⟩ rfl (fun H locs hP hD hS => ?_)
  refine lv_iload hx hb dL_law_1657 (lv_at hl 1 rfl) ?_
  refine lv_icmp_eq (tgt := 1664) hx hb dL_law_1659 (by decide) (fun c304 => ?_) (fun c304 => ?_)
  · rw [if_pos c304] at hf
    refine lv_iload hx hb dL_law_1664 (lv_at hl 1 rfl) ?_
    refine lv_if_ne (tgt := 1681) hx hb dL_law_1666 (by decide) (fun c305 => ?_) (fun c305 => ?_)
    · rw [if_neg c305] at hf
      refine lv_goto (tgt := 1796) hx hb dL_law_1681 (by decide) ?_
      cases hf
      refine W.widen (k := c9 + 4) (n := s9 + 24) (by omega) (by omega) ?_
      exact K H locs ls hP hD hS (lv_sub hl [2, 3, 4, 5, 6] rfl)
    · rw [if_pos c305] at hf
      refine lv_aload_n hx hb dL_law_1669 rfl (lv_at hl 5 rfl) ?_
      refine lv_iconst (v := (0:Int32)) hx hb dL_law_1670 (by decide) ?_
      obtain ⟨h306, hf⟩ := gi_some hf
      refine g_lald hx hb hK hP 13 0 3 rfl rfl rfl h306 dL_law_1671 ?_
      refine lv_iload hx hb dL_law_1672 (lv_at hl 0 rfl) ?_
      refine lv_i2l (v := q302.1.toInt64) hx hb dL_law_1674 rfl ?_
      refine W.lcmp hx hb dL_law_1675 ?_
      obtain ⟨x307, ex307, hf⟩ := lt_some hf
      refine lv_nmi ex307 ?_
      refine lv_if_eq (tgt := 1681) hx hb dL_law_1676 (by decide) (fun c308 => ?_) (fun c308 => ?_)
      · rw [if_pos c308] at hf
        refine lv_goto (tgt := 1796) hx hb dL_law_1681 (by decide) ?_
        cases hf
        refine W.widen (k := c9 + 4) (n := s9 + 24) (by omega) (by omega) ?_
        exact K H locs ls hP hD hS (lv_sub hl [2, 3, 4, 5, 6] rfl)
      · rw [if_neg c308] at hf
        refine lv_iconst (v := (0:Int32)) hx hb dL_law_1679 (by decide) ?_
        cases hf
  · rw [if_neg c304] at hf
    refine lv_iconst (v := (0:Int32)) hx hb dL_law_1662 (by decide) ?_
    cases hf
set_option maxHeartbeats 8000000 in
set_option maxRecDepth 100000 in
theorem w_law_1684 {p : Program} {l : Launch} (hl0 : l.stackTraces = false) {e : Env} {s : State} {m : MethodId} {below : List Frame} {meth : Method} {c : Code} {b L : Nat} {xs : Nat → Int32} {A : Nat → Prop} (S : Ev p s m #[Value.ref b] meth c cL_law 7 (some .boolean) RL wsL_law) {G : uG} (hK : kK G s) (hA : ∀ q, s.heap.size ≤ q → A q) (hTH : gTH A s s.heap) (hX : va_X b L xs s s.heap) (hbl : b < s.heap.size) (hbA : ¬ A b) (a0 : Nat → Nat) (a1 : Nat → Nat) (a2 : Nat → Nat) (a3 : Nat → Nat) (a4 : Nat → Nat) (a5 : Nat → Nat) (a6 : Nat → Nat) (a7 : Nat → Nat → Nat) (a8 : Nat → Nat) (a9 : Nat → Nat) (a10 : Nat → Nat) (a11 : Nat → Nat) (a12 : Nat → Nat) (a13 : Nat → Nat) (i4 : Int32) (v1 : StV) (v2 : StV) (v3 : RdV) (v5 : StV) (v6 : RdV) (v7 : PaV) (v8 : TxV) (v9 : SlV) (v10 : StV) (v11 : StV) (v12 : MdV) (v13 : OuV) {w9 : LwV} {Q : State → Prop} {c9 s9 : Nat} (hc9 : c9 + 4 ≤ 601024) (hs9 : s9 + 24 ≤ 7293033) (hf : f_law_1684 xs L i4 v1 v2 v3 v5 v6 v7 v8 v9 v10 v11 v12 v13 = some w9) {H : Heap} {locs : List Loc} {ls : Array Slot} (hP : gP G [maW a0 (a1 0) (a2 0) (a3 0) (a4 0) (a7 0 0) (a8 0) (a9 0) (a9 1), stW G a1 v1, stW G a2 v2, rdW G a3 v3, scW a4 (a5 0) (a6 0), stW G a5 v5, rdW G a6 v6, paW G a7 v7, txW G a8 v8, slW G a9 (a10 0) (a11 0) v9, stW G a10 v10, stW G a11 v11, mdW G a12 v12, ouW G a13 v13] H) (hD : gD A [maW a0 (a1 0) (a2 0) (a3 0) (a4 0) (a7 0 0) (a8 0) (a9 0) (a9 1), stW G a1 v1, stW G a2 v2, rdW G a3 v3, scW a4 (a5 0) (a6 0), stW G a5 v5, rdW G a6 v6, paW G a7 v7, txW G a8 v8, slW G a9 (a10 0) (a11 0) v9, stW G a10 v10, stW G a11 v11, mdW G a12 v12, ouW G a13 v13]) (hS : va_S A s.heap H locs) (hl : lv_has ls 7 [(0, .ref b), (1, .ref (a0 0)), (2, .ref (a12 0)), (3, .ref (a13 0)), (4, .int i4)]) (K : ∀ (H : Heap) (locs : List Loc) (ls : Array Slot), gP G [maW a0 (a1 0) (a2 0) (a3 0) (a4 0) (a7 0 0) (a8 0) (a9 0) (a9 1), stW G a1 w9.1, stW G a2 w9.2.1, rdW G a3 w9.2.2.1, scW a4 (a5 0) (a6 0), stW G a5 w9.2.2.2.1, rdW G a6 w9.2.2.2.2.1, paW G a7 w9.2.2.2.2.2.1, txW G a8 w9.2.2.2.2.2.2.1, slW G a9 (a10 0) (a11 0) w9.2.2.2.2.2.2.2.1, stW G a10 w9.2.2.2.2.2.2.2.2.1, stW G a11 w9.2.2.2.2.2.2.2.2.2.1, mdW G a12 w9.2.2.2.2.2.2.2.2.2.2.1, ouW G a13 w9.2.2.2.2.2.2.2.2.2.2.2] H → gD A [maW a0 (a1 0) (a2 0) (a3 0) (a4 0) (a7 0 0) (a8 0) (a9 0) (a9 1), stW G a1 w9.1, stW G a2 w9.2.1, rdW G a3 w9.2.2.1, scW a4 (a5 0) (a6 0), stW G a5 w9.2.2.2.1, rdW G a6 w9.2.2.2.2.1, paW G a7 w9.2.2.2.2.2.1, txW G a8 w9.2.2.2.2.2.2.1, slW G a9 (a10 0) (a11 0) w9.2.2.2.2.2.2.2.1, stW G a10 w9.2.2.2.2.2.2.2.2.1, stW G a11 w9.2.2.2.2.2.2.2.2.2.1, mdW G a12 w9.2.2.2.2.2.2.2.2.2.2.1, ouW G a13 w9.2.2.2.2.2.2.2.2.2.2.2] → va_S A s.heap H locs → lv_has ls 7 [(0, .ref b), (1, .ref (a0 0)), (2, .ref (a12 0)), (3, .ref (a13 0)), (4, .int i4)] → W p l e room_1 s m #[Value.ref b] below meth c H locs (c9 + 4) (s9 + 24) Q (F0 m 1796 ls [])) : W p l e room_1 s m #[Value.ref b] below meth c H locs (c9) (s9) Q (F0 m 1684 ls []) := by
  obtain ⟨hx, hb, hml, hown, hts, hr, hlocks⟩ := id S
  unfold f_law_1684 at hf
  refine lv_aload_n hx hb dL_law_1684 rfl (lv_at hl 1 rfl) ?_
  refine lv_aload_n hx hb dL_law_1685 rfl (lv_at hl 0 rfl) ?_
  refine lv_iload hx hb dL_law_1686 (lv_at hl 4 rfl) ?_
  refine lv_iconst (v := (1:Int32)) hx hb dL_law_1688 (by decide) ?_
  refine lv_iadd hx hb dL_law_1689 ?_
  obtain ⟨h309, hf⟩ := gi_some hf
  refine va_sld hx hb hX hbl hbA hS h309 dL_law_1690 ?_
  refine lv_aload_n hx hb dL_law_1691 rfl (lv_at hl 3 rfl) ?_
  obtain ⟨q310, hq310, hf⟩ := bd_some hf
  refine g_callHi S (As := [.ref (a0 0), .int (xs (i4 + (1:Int32)).toNatClampNeg), .ref (a13 0)]) (gs' := [maW a0 (a1 0) (a2 0) (a3 0) (a4 0) (a7 0 0) (a8 0) (a9 0) (a9 1), stW G a1 v1, stW G a2 v2, rdW G a3 v3, scW a4 (a5 0) (a6 0), stW G a5 v5, rdW G a6 v6, paW G a7 v7, txW G a8 v8, slW G a9 (a10 0) (a11 0) q310.2.1, stW G a10 q310.2.2.1, stW G a11 q310.2.2.2.1, mdW G a12 v12, ouW G a13 q310.2.2.2.2]) (c_L_save l hl0 G a0 a1 a2 a3 a4 a5 a6 a7 a8 a9 a10 a11 a13 v1 v9 v10 v11 v13 (xs (i4 + (1:Int32)).toNatClampNeg) hq310) (vx_cwSW 3 hts gL_law_L_save rfl rfl rfl hd_L_save.2 ⟨(Nat.le_of_ble_eq_true rfl), (Nat.le_of_ble_eq_true rfl)⟩) hTH hK hP hD hS hA (is := [0, 1, 9, 10, 11, 13]) rfl rfl rfl hl.1 rfl (Nat.le_of_ble_eq_true rfl) dL_law_1692 ⟨by show c9 + 1 ≤ 601024; omega, by show s9 + 6 ≤ 7293033; omega⟩ rfl (fun H locs hP hD hS => ?_)
  refine lv_istore (lv' := [(5, .int q310.1), (0, .ref b), (1, .ref (a0 0)), (2, .ref (a12 0)), (3, .ref (a13 0)), (4, .int i4)]) hx hb dL_law_1695 hl (by decide) rfl (fun ls hl => ?_)
  refine lv_aload_n hx hb dL_law_1697 rfl (lv_at hl 3 rfl) ?_
  refine lv_aload_n hx hb dL_law_1698 rfl (lv_at hl 1 rfl) ?_
  refine lv_iload hx hb dL_law_1699 (lv_at hl 5 rfl) ?_
  refine lv_iconst (v := (1:Int32)) hx hb dL_law_1701 (by decide) ?_
  refine lv_iadd hx hb dL_law_1702 ?_
  obtain ⟨h311, hf⟩ := gi_some hf
  refine va_sld hx hb hX hbl hbA hS h311 dL_law_1703 ?_
  obtain ⟨q312, hq312, hf⟩ := bd_some hf
  refine g_callVi S (As := [.int (xs (i4 + (1:Int32)).toNatClampNeg)]) (gs' := [maW a0 (a1 0) (a2 0) (a3 0) (a4 0) (a7 0 0) (a8 0) (a9 0) (a9 1), stW G a1 v1, stW G a2 v2, rdW G a3 v3, scW a4 (a5 0) (a6 0), stW G a5 v5, rdW G a6 v6, paW G a7 v7, txW G a8 v8, slW G a9 (a10 0) (a11 0) q310.2.1, stW G a10 q310.2.2.1, stW G a11 q310.2.2.2.1, mdW G a12 q312.2, ouW G a13 q310.2.2.2.2]) (c_X6_save l G a12 v12 (xs (i4 + (1:Int32)).toNatClampNeg) hq312) (cwV 1 hts gL_law_X6_save rfl rfl rfl hd_X6_save ⟨Nat.le_of_ble_eq_true rfl, Nat.le_of_ble_eq_true rfl⟩) hK hP hD hS hA (is := [12]) rfl rfl 12 rfl rfl rfl rfl hl.1 rfl (Nat.le_of_ble_eq_true rfl) dL_law_1704 ⟨by show c9 + 1 + 0 ≤ 601024; omega, by show s9 + 6 + 0 ≤ 7293033; omega⟩ rfl (fun H locs hP hD hS => ?_)
  refine lv_istore (lv' := [(6, .int q312.1), (5, .int q310.1), (0, .ref b), (1, .ref (a0 0)), (2, .ref (a12 0)), (3, .ref (a13 0)), (4, .int i4)]) hx hb dL_law_1707 hl (by decide) rfl (fun ls hl => ?_)
  refine lv_aload_n hx hb dL_law_1709 rfl (lv_at hl 4 rfl) ?_
  obtain ⟨q313, hq313, hf⟩ := bd_some hf
  refine g_callVi S (As := []) (gs' := [maW a0 (a1 0) (a2 0) (a3 0) (a4 0) (a7 0 0) (a8 0) (a9 0) (a9 1), stW G a1 v1, stW G a2 v2, rdW G a3 v3, scW a4 (a5 0) (a6 0), stW G a5 v5, rdW G a6 v6, paW G a7 v7, txW G a8 v8, slW G a9 (a10 0) (a11 0) q310.2.1, stW G a10 q310.2.2.1, stW G a11 q310.2.2.2.1, mdW G a12 q312.2, ouW G a13 q310.2.2.2.2]) (c_X6_thrown l G a12 q312.2 hq313) (cwV 0 hts gL_law_X6_thrown rfl rfl rfl hd_X6_thrown ⟨Nat.le_of_ble_eq_true rfl, Nat.le_of_ble_eq_true rfl⟩) hK hP hD hS hA (is := [12]) rfl rfl 12 rfl rfl rfl rfl hl.1 rfl (Nat.le_of_ble_eq_true rfl) dL_law_1710 ⟨by show c9 + 1 + 0 ≤ 601024; omega, by show s9 + 6 + 0 ≤ 7293033; omega⟩ rfl (fun H locs hP hD hS => ?_)
  refine lv_iload hx hb dL_law_1713 (lv_at hl 1 rfl) ?_
  refine lv_icmp_eq (tgt := 1720) hx hb dL_law_1715 (by decide) (fun c314 => ?_) (fun c314 => ?_)
  · rw [if_pos c314] at hf
    refine lv_iload hx hb dL_law_1720 (lv_at hl 1 rfl) ?_
    refine lv_if_ne (tgt := 1737) hx hb dL_law_1722 (by decide) (fun c315 => ?_) (fun c315 => ?_)
    · rw [if_neg c315] at hf
      refine lv_goto (tgt := 1796) hx hb dL_law_1737 (by decide) ?_
      cases hf
      refine W.widen (k := c9 + 4) (n := s9 + 24) (by omega) (by omega) ?_
      exact K H locs ls hP hD hS (lv_sub hl [2, 3, 4, 5, 6] rfl)
    · rw [if_pos c315] at hf
      refine lv_aload_n hx hb dL_law_1725 rfl (lv_at hl 5 rfl) ?_
      refine lv_iconst (v := (0:Int32)) hx hb dL_law_1726 (by decide) ?_
      obtain ⟨h316, hf⟩ := gi_some hf
      refine g_lald hx hb hK hP 13 0 3 rfl rfl rfl h316 dL_law_1727 ?_
      refine lv_iload hx hb dL_law_1728 (lv_at hl 0 rfl) ?_
      refine lv_i2l (v := q312.1.toInt64) hx hb dL_law_1730 rfl ?_
      refine W.lcmp hx hb dL_law_1731 ?_
      obtain ⟨x317, ex317, hf⟩ := lt_some hf
      refine lv_nmi ex317 ?_
      refine lv_if_eq (tgt := 1737) hx hb dL_law_1732 (by decide) (fun c318 => ?_) (fun c318 => ?_)
      · rw [if_pos c318] at hf
        refine lv_goto (tgt := 1796) hx hb dL_law_1737 (by decide) ?_
        cases hf
        refine W.widen (k := c9 + 4) (n := s9 + 24) (by omega) (by omega) ?_
        exact K H locs ls hP hD hS (lv_sub hl [2, 3, 4, 5, 6] rfl)
      · rw [if_neg c318] at hf
        refine lv_iconst (v := (0:Int32)) hx hb dL_law_1735 (by decide) ?_
        cases hf
  · rw [if_neg c314] at hf
    refine lv_iconst (v := (0:Int32)) hx hb dL_law_1718 (by decide) ?_
    cases hf
set_option maxHeartbeats 8000000 in
set_option maxRecDepth 100000 in
theorem w_law_1740 {p : Program} {l : Launch} (hl0 : l.stackTraces = false) {e : Env} {s : State} {m : MethodId} {below : List Frame} {meth : Method} {c : Code} {b L : Nat} {xs : Nat → Int32} {A : Nat → Prop} (S : Ev p s m #[Value.ref b] meth c cL_law 7 (some .boolean) RL wsL_law) {G : uG} (hK : kK G s) (hA : ∀ q, s.heap.size ≤ q → A q) (hTH : gTH A s s.heap) (hX : va_X b L xs s s.heap) (hbl : b < s.heap.size) (hbA : ¬ A b) (a0 : Nat → Nat) (a1 : Nat → Nat) (a2 : Nat → Nat) (a3 : Nat → Nat) (a4 : Nat → Nat) (a5 : Nat → Nat) (a6 : Nat → Nat) (a7 : Nat → Nat → Nat) (a8 : Nat → Nat) (a9 : Nat → Nat) (a10 : Nat → Nat) (a11 : Nat → Nat) (a12 : Nat → Nat) (a13 : Nat → Nat) (i4 : Int32) (v1 : StV) (v2 : StV) (v3 : RdV) (v5 : StV) (v6 : RdV) (v7 : PaV) (v8 : TxV) (v9 : SlV) (v10 : StV) (v11 : StV) (v12 : MdV) (v13 : OuV) {w9 : LwV} {Q : State → Prop} {c9 s9 : Nat} (hc9 : c9 + 4 ≤ 601024) (hs9 : s9 + 24 ≤ 7293033) (hf : f_law_1740 xs L i4 v1 v2 v3 v5 v6 v7 v8 v9 v10 v11 v12 v13 = some w9) {H : Heap} {locs : List Loc} {ls : Array Slot} (hP : gP G [maW a0 (a1 0) (a2 0) (a3 0) (a4 0) (a7 0 0) (a8 0) (a9 0) (a9 1), stW G a1 v1, stW G a2 v2, rdW G a3 v3, scW a4 (a5 0) (a6 0), stW G a5 v5, rdW G a6 v6, paW G a7 v7, txW G a8 v8, slW G a9 (a10 0) (a11 0) v9, stW G a10 v10, stW G a11 v11, mdW G a12 v12, ouW G a13 v13] H) (hD : gD A [maW a0 (a1 0) (a2 0) (a3 0) (a4 0) (a7 0 0) (a8 0) (a9 0) (a9 1), stW G a1 v1, stW G a2 v2, rdW G a3 v3, scW a4 (a5 0) (a6 0), stW G a5 v5, rdW G a6 v6, paW G a7 v7, txW G a8 v8, slW G a9 (a10 0) (a11 0) v9, stW G a10 v10, stW G a11 v11, mdW G a12 v12, ouW G a13 v13]) (hS : va_S A s.heap H locs) (hl : lv_has ls 7 [(0, .ref b), (1, .ref (a0 0)), (2, .ref (a12 0)), (3, .ref (a13 0)), (4, .int i4)]) (K : ∀ (H : Heap) (locs : List Loc) (ls : Array Slot), gP G [maW a0 (a1 0) (a2 0) (a3 0) (a4 0) (a7 0 0) (a8 0) (a9 0) (a9 1), stW G a1 w9.1, stW G a2 w9.2.1, rdW G a3 w9.2.2.1, scW a4 (a5 0) (a6 0), stW G a5 w9.2.2.2.1, rdW G a6 w9.2.2.2.2.1, paW G a7 w9.2.2.2.2.2.1, txW G a8 w9.2.2.2.2.2.2.1, slW G a9 (a10 0) (a11 0) w9.2.2.2.2.2.2.2.1, stW G a10 w9.2.2.2.2.2.2.2.2.1, stW G a11 w9.2.2.2.2.2.2.2.2.2.1, mdW G a12 w9.2.2.2.2.2.2.2.2.2.2.1, ouW G a13 w9.2.2.2.2.2.2.2.2.2.2.2] H → gD A [maW a0 (a1 0) (a2 0) (a3 0) (a4 0) (a7 0 0) (a8 0) (a9 0) (a9 1), stW G a1 w9.1, stW G a2 w9.2.1, rdW G a3 w9.2.2.1, scW a4 (a5 0) (a6 0), stW G a5 w9.2.2.2.1, rdW G a6 w9.2.2.2.2.1, paW G a7 w9.2.2.2.2.2.1, txW G a8 w9.2.2.2.2.2.2.1, slW G a9 (a10 0) (a11 0) w9.2.2.2.2.2.2.2.1, stW G a10 w9.2.2.2.2.2.2.2.2.1, stW G a11 w9.2.2.2.2.2.2.2.2.2.1, mdW G a12 w9.2.2.2.2.2.2.2.2.2.2.1, ouW G a13 w9.2.2.2.2.2.2.2.2.2.2.2] → va_S A s.heap H locs → lv_has ls 7 [(0, .ref b), (1, .ref (a0 0)), (2, .ref (a12 0)), (3, .ref (a13 0)), (4, .int i4)] → W p l e room_1 s m #[Value.ref b] below meth c H locs (c9 + 4) (s9 + 24) Q (F0 m 1796 ls [])) : W p l e room_1 s m #[Value.ref b] below meth c H locs (c9) (s9) Q (F0 m 1740 ls []) := by
  obtain ⟨hx, hb, hml, hown, hts, hr, hlocks⟩ := id S
  unfold f_law_1740 at hf
  refine lv_aload_n hx hb dL_law_1740 rfl (lv_at hl 1 rfl) ?_
  refine lv_aload_n hx hb dL_law_1741 rfl (lv_at hl 0 rfl) ?_
  refine lv_iload hx hb dL_law_1742 (lv_at hl 4 rfl) ?_
  refine lv_iconst (v := (1:Int32)) hx hb dL_law_1744 (by decide) ?_
  refine lv_iadd hx hb dL_law_1745 ?_
  obtain ⟨h319, hf⟩ := gi_some hf
  refine va_sld hx hb hX hbl hbA hS h319 dL_law_1746 ?_
  refine lv_aload_n hx hb dL_law_1747 rfl (lv_at hl 3 rfl) ?_
  obtain ⟨q320, hq320, hf⟩ := bd_some hf
  refine g_callHi S (As := [.ref (a0 0), .int (xs (i4 + (1:Int32)).toNatClampNeg), .ref (a13 0)]) (gs' := [maW a0 (a1 0) (a2 0) (a3 0) (a4 0) (a7 0 0) (a8 0) (a9 0) (a9 1), stW G a1 q320.2.1, stW G a2 v2, rdW G a3 v3, scW a4 (a5 0) (a6 0), stW G a5 v5, rdW G a6 v6, paW G a7 q320.2.2.1, txW G a8 v8, slW G a9 (a10 0) (a11 0) v9, stW G a10 v10, stW G a11 v11, mdW G a12 v12, ouW G a13 q320.2.2.2]) (c_L_restore l hl0 G a0 a1 a2 a3 a4 a5 a6 a7 a8 a9 a10 a11 a13 v1 v7 v9 v10 v11 v13 (xs (i4 + (1:Int32)).toNatClampNeg) hq320) (vx_cwSW 3 hts gL_law_L_restore rfl rfl rfl hd_L_restore.2 ⟨(Nat.le_of_ble_eq_true rfl), (Nat.le_of_ble_eq_true rfl)⟩) hTH hK hP hD hS hA (is := [0, 1, 7, 9, 10, 11, 13]) rfl rfl rfl hl.1 rfl (Nat.le_of_ble_eq_true rfl) dL_law_1748 ⟨by show c9 + 2 ≤ 601024; omega, by show s9 + 12 ≤ 7293033; omega⟩ rfl (fun H locs hP hD hS => ?_)
  refine lv_istore (lv' := [(5, .int q320.1), (0, .ref b), (1, .ref (a0 0)), (2, .ref (a12 0)), (3, .ref (a13 0)), (4, .int i4)]) hx hb dL_law_1751 hl (by decide) rfl (fun ls hl => ?_)
  refine lv_aload_n hx hb dL_law_1753 rfl (lv_at hl 3 rfl) ?_
  refine lv_aload_n hx hb dL_law_1754 rfl (lv_at hl 1 rfl) ?_
  refine lv_iload hx hb dL_law_1755 (lv_at hl 5 rfl) ?_
  refine lv_iconst (v := (1:Int32)) hx hb dL_law_1757 (by decide) ?_
  refine lv_iadd hx hb dL_law_1758 ?_
  obtain ⟨h321, hf⟩ := gi_some hf
  refine va_sld hx hb hX hbl hbA hS h321 dL_law_1759 ?_
  obtain ⟨q322, hq322, hf⟩ := bd_some hf
  refine g_callVi S (As := [.int (xs (i4 + (1:Int32)).toNatClampNeg)]) (gs' := [maW a0 (a1 0) (a2 0) (a3 0) (a4 0) (a7 0 0) (a8 0) (a9 0) (a9 1), stW G a1 q320.2.1, stW G a2 v2, rdW G a3 v3, scW a4 (a5 0) (a6 0), stW G a5 v5, rdW G a6 v6, paW G a7 q320.2.2.1, txW G a8 v8, slW G a9 (a10 0) (a11 0) v9, stW G a10 v10, stW G a11 v11, mdW G a12 q322.2, ouW G a13 q320.2.2.2]) (c_X6_restore l G a12 v12 (xs (i4 + (1:Int32)).toNatClampNeg) hq322) (cwV 1 hts gL_law_X6_restore rfl rfl rfl hd_X6_restore ⟨Nat.le_of_ble_eq_true rfl, Nat.le_of_ble_eq_true rfl⟩) hK hP hD hS hA (is := [12]) rfl rfl 12 rfl rfl rfl rfl hl.1 rfl (Nat.le_of_ble_eq_true rfl) dL_law_1760 ⟨by show c9 + 2 + 0 ≤ 601024; omega, by show s9 + 12 + 0 ≤ 7293033; omega⟩ rfl (fun H locs hP hD hS => ?_)
  refine lv_istore (lv' := [(6, .int q322.1), (5, .int q320.1), (0, .ref b), (1, .ref (a0 0)), (2, .ref (a12 0)), (3, .ref (a13 0)), (4, .int i4)]) hx hb dL_law_1763 hl (by decide) rfl (fun ls hl => ?_)
  refine lv_aload_n hx hb dL_law_1765 rfl (lv_at hl 4 rfl) ?_
  obtain ⟨q323, hq323, hf⟩ := bd_some hf
  refine g_callVi S (As := []) (gs' := [maW a0 (a1 0) (a2 0) (a3 0) (a4 0) (a7 0 0) (a8 0) (a9 0) (a9 1), stW G a1 q320.2.1, stW G a2 v2, rdW G a3 v3, scW a4 (a5 0) (a6 0), stW G a5 v5, rdW G a6 v6, paW G a7 q320.2.2.1, txW G a8 v8, slW G a9 (a10 0) (a11 0) v9, stW G a10 v10, stW G a11 v11, mdW G a12 q322.2, ouW G a13 q320.2.2.2]) (c_X6_thrown l G a12 q322.2 hq323) (cwV 0 hts gL_law_X6_thrown rfl rfl rfl hd_X6_thrown ⟨Nat.le_of_ble_eq_true rfl, Nat.le_of_ble_eq_true rfl⟩) hK hP hD hS hA (is := [12]) rfl rfl 12 rfl rfl rfl rfl hl.1 rfl (Nat.le_of_ble_eq_true rfl) dL_law_1766 ⟨by show c9 + 2 + 0 ≤ 601024; omega, by show s9 + 12 + 0 ≤ 7293033; omega⟩ rfl (fun H locs hP hD hS => ?_)
  refine lv_iload hx hb dL_law_1769 (lv_at hl 1 rfl) ?_
  refine lv_icmp_eq (tgt := 1776) hx hb dL_law_1771 (by decide) (fun c324 => ?_) (fun c324 => ?_)
  · rw [if_pos c324] at hf
    refine lv_iload hx hb dL_law_1776 (lv_at hl 1 rfl) ?_
    refine lv_if_ne (tgt := 1793) hx hb dL_law_1778 (by decide) (fun c325 => ?_) (fun c325 => ?_)
    · rw [if_neg c325] at hf
      refine lv_goto (tgt := 1796) hx hb dL_law_1793 (by decide) ?_
      cases hf
      refine W.widen (k := c9 + 4) (n := s9 + 24) (by omega) (by omega) ?_
      exact K H locs ls hP hD hS (lv_sub hl [2, 3, 4, 5, 6] rfl)
    · rw [if_pos c325] at hf
      refine lv_aload_n hx hb dL_law_1781 rfl (lv_at hl 5 rfl) ?_
      refine lv_iconst (v := (0:Int32)) hx hb dL_law_1782 (by decide) ?_
      obtain ⟨h326, hf⟩ := gi_some hf
      refine g_lald hx hb hK hP 13 0 3 rfl rfl rfl h326 dL_law_1783 ?_
      refine lv_iload hx hb dL_law_1784 (lv_at hl 0 rfl) ?_
      refine lv_i2l (v := q322.1.toInt64) hx hb dL_law_1786 rfl ?_
      refine W.lcmp hx hb dL_law_1787 ?_
      obtain ⟨x327, ex327, hf⟩ := lt_some hf
      refine lv_nmi ex327 ?_
      refine lv_if_eq (tgt := 1793) hx hb dL_law_1788 (by decide) (fun c328 => ?_) (fun c328 => ?_)
      · rw [if_pos c328] at hf
        refine lv_goto (tgt := 1796) hx hb dL_law_1793 (by decide) ?_
        cases hf
        refine W.widen (k := c9 + 4) (n := s9 + 24) (by omega) (by omega) ?_
        exact K H locs ls hP hD hS (lv_sub hl [2, 3, 4, 5, 6] rfl)
      · rw [if_neg c328] at hf
        refine lv_iconst (v := (0:Int32)) hx hb dL_law_1791 (by decide) ?_
        cases hf
  · rw [if_neg c324] at hf
    refine lv_iconst (v := (0:Int32)) hx hb dL_law_1774 (by decide) ?_
    cases hf
