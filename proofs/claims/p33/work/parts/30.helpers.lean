theorem hd_L_cell : yL_cell.cls = RL ∧ yL_cell.cls ≠ "java/lang/invoke/MethodHandle" ∧ yL_cell.cls ≠ "java/lang/invoke/VarHandle" ∧ (parseMethodDescriptor yL_cell.desc).map (fun d => d.parameters.length) = some 2 := by decide +kernel
theorem hd_L_low : yL_low.cls = RL ∧ yL_low.cls ≠ "java/lang/invoke/MethodHandle" ∧ yL_low.cls ≠ "java/lang/invoke/VarHandle" ∧ (parseMethodDescriptor yL_low.desc).map (fun d => d.parameters.length) = some 2 := by decide +kernel
theorem hd_L_sum : yL_sum.cls = RL ∧ yL_sum.cls ≠ "java/lang/invoke/MethodHandle" ∧ yL_sum.cls ≠ "java/lang/invoke/VarHandle" ∧ (parseMethodDescriptor yL_sum.desc).map (fun d => d.parameters.length) = some 3 := by decide +kernel
theorem hd_X5_about : yX5_about.cls = RX5 ∧ yX5_about.cls ≠ "java/lang/invoke/MethodHandle" ∧ yX5_about.cls ≠ "java/lang/invoke/VarHandle" ∧ (parseMethodDescriptor yX5_about.desc).map (fun d => d.parameters.length) = some 1 := by decide +kernel
theorem hd_X5_addMember : yX5_addMember.cls = RX5 ∧ yX5_addMember.cls ≠ "java/lang/invoke/MethodHandle" ∧ yX5_addMember.cls ≠ "java/lang/invoke/VarHandle" ∧ (parseMethodDescriptor yX5_addMember.desc).map (fun d => d.parameters.length) = some 1 := by decide +kernel
theorem hd_X5_bid : yX5_bid.cls = RX5 ∧ yX5_bid.cls ≠ "java/lang/invoke/MethodHandle" ∧ yX5_bid.cls ≠ "java/lang/invoke/VarHandle" ∧ (parseMethodDescriptor yX5_bid.desc).map (fun d => d.parameters.length) = some 2 := by decide +kernel
theorem hd_X5_chain : yX5_chain.cls = RX5 ∧ yX5_chain.cls ≠ "java/lang/invoke/MethodHandle" ∧ yX5_chain.cls ≠ "java/lang/invoke/VarHandle" ∧ (parseMethodDescriptor yX5_chain.desc).map (fun d => d.parameters.length) = some 1 := by decide +kernel
theorem hd_X5_change : yX5_change.cls = RX5 ∧ yX5_change.cls ≠ "java/lang/invoke/MethodHandle" ∧ yX5_change.cls ≠ "java/lang/invoke/VarHandle" ∧ (parseMethodDescriptor yX5_change.desc).map (fun d => d.parameters.length) = some 1 := by decide +kernel
theorem hd_X5_inTheEnd : yX5_inTheEnd.cls = RX5 ∧ yX5_inTheEnd.cls ≠ "java/lang/invoke/MethodHandle" ∧ yX5_inTheEnd.cls ≠ "java/lang/invoke/VarHandle" ∧ (parseMethodDescriptor yX5_inTheEnd.desc).map (fun d => d.parameters.length) = some 1 := by decide +kernel
theorem hd_X5_leastBid : yX5_leastBid.cls = RX5 ∧ yX5_leastBid.cls ≠ "java/lang/invoke/MethodHandle" ∧ yX5_leastBid.cls ≠ "java/lang/invoke/VarHandle" ∧ (parseMethodDescriptor yX5_leastBid.desc).map (fun d => d.parameters.length) = some 1 := by decide +kernel
theorem hd_X5_leave : yX5_leave.cls = RX5 ∧ yX5_leave.cls ≠ "java/lang/invoke/MethodHandle" ∧ yX5_leave.cls ≠ "java/lang/invoke/VarHandle" ∧ (parseMethodDescriptor yX5_leave.desc).map (fun d => d.parameters.length) = some 1 := by decide +kernel
theorem hd_X5_member : yX5_member.cls = RX5 ∧ yX5_member.cls ≠ "java/lang/invoke/MethodHandle" ∧ yX5_member.cls ≠ "java/lang/invoke/VarHandle" ∧ (parseMethodDescriptor yX5_member.desc).map (fun d => d.parameters.length) = some 2 := by decide +kernel
theorem hd_X5_month : yX5_month.cls = RX5 ∧ yX5_month.cls ≠ "java/lang/invoke/MethodHandle" ∧ yX5_month.cls ≠ "java/lang/invoke/VarHandle" ∧ (parseMethodDescriptor yX5_month.desc).map (fun d => d.parameters.length) = some 0 := by decide +kernel
theorem hd_X5_owes : yX5_owes.cls = RX5 ∧ yX5_owes.cls ≠ "java/lang/invoke/MethodHandle" ∧ yX5_owes.cls ≠ "java/lang/invoke/VarHandle" ∧ (parseMethodDescriptor yX5_owes.desc).map (fun d => d.parameters.length) = some 2 := by decide +kernel
theorem hd_X5_pot : yX5_pot.cls = RX5 ∧ yX5_pot.cls ≠ "java/lang/invoke/MethodHandle" ∧ yX5_pot.cls ≠ "java/lang/invoke/VarHandle" ∧ (parseMethodDescriptor yX5_pot.desc).map (fun d => d.parameters.length) = some 0 := by decide +kernel
theorem hd_X5_repay : yX5_repay.cls = RX5 ∧ yX5_repay.cls ≠ "java/lang/invoke/MethodHandle" ∧ yX5_repay.cls ≠ "java/lang/invoke/VarHandle" ∧ (parseMethodDescriptor yX5_repay.desc).map (fun d => d.parameters.length) = some 2 := by decide +kernel
theorem hd_X5_setGuarantor : yX5_setGuarantor.cls = RX5 ∧ yX5_setGuarantor.cls ≠ "java/lang/invoke/MethodHandle" ∧ yX5_setGuarantor.cls ≠ "java/lang/invoke/VarHandle" ∧ (parseMethodDescriptor yX5_setGuarantor.desc).map (fun d => d.parameters.length) = some 2 := by decide +kernel
theorem hd_X5_stayAway : yX5_stayAway.cls = RX5 ∧ yX5_stayAway.cls ≠ "java/lang/invoke/MethodHandle" ∧ yX5_stayAway.cls ≠ "java/lang/invoke/VarHandle" ∧ (parseMethodDescriptor yX5_stayAway.desc).map (fun d => d.parameters.length) = some 2 := by decide +kernel
theorem hd_X5_undo : yX5_undo.cls = RX5 ∧ yX5_undo.cls ≠ "java/lang/invoke/MethodHandle" ∧ yX5_undo.cls ≠ "java/lang/invoke/VarHandle" ∧ (parseMethodDescriptor yX5_undo.desc).map (fun d => d.parameters.length) = some 0 := by decide +kernel
theorem hd_X5_when : yX5_when.cls = RX5 ∧ yX5_when.cls ≠ "java/lang/invoke/MethodHandle" ∧ yX5_when.cls ≠ "java/lang/invoke/VarHandle" ∧ (parseMethodDescriptor yX5_when.desc).map (fun d => d.parameters.length) = some 1 := by decide +kernel
theorem hd_X5_winner : yX5_winner.cls = RX5 ∧ yX5_winner.cls ≠ "java/lang/invoke/MethodHandle" ∧ yX5_winner.cls ≠ "java/lang/invoke/VarHandle" ∧ (parseMethodDescriptor yX5_winner.desc).map (fun d => d.parameters.length) = some 0 := by decide +kernel
theorem kL_cell_0 : Cond.constant RL 7 (32452867) ∈ wsL_cell := (List.mem_cons_of_mem _ (List.mem_of_getElem? (i := 0) rfl))
theorem kL_cell_1 : Cond.constant RL 8 (15485863) ∈ wsL_cell := (List.mem_cons_of_mem _ (List.mem_of_getElem? (i := 1) rfl))
set_option maxHeartbeats 4000000 in
set_option maxRecDepth 100000 in
theorem c_L_cell (l : Launch) (G : uG) (b : Nat) (xs : Nat → Int32) (L : Nat) (i1 : Int32) {q : Int32 × (Unit)} (hf : f_L_cell xs L i1 = some q) : mS l yL_cell wsL_cell ({ frames := 0, cells := 0, slots := 0, locals := 0 } : Room) b L xs G [.ref b, .int i1] [] [] (qI G [] q.1) := by
  unfold f_L_cell at hf
  refine ms_of (cc := cL_cell) (maxL := 2) (ret := (some .int)) (by decide) rfl rfl (Nat.le_of_ble_eq_true rfl) ?_
  intro p e s m args below meth c A ls S hK hA hX hbl hbA hP hD hS hl
  obtain ⟨hx, hb, hml, hown, hts, hr, hlocks⟩ := id S
  have hl : lv_has ls 2 [(0, .ref b), (1, .int i1)] := hl
  refine lv_iload_n hx hb dL_cell_0 rfl (lv_at hl 1 rfl) ?_
  refine lv_aload_n hx hb dL_cell_1 rfl (lv_at hl 0 rfl) ?_
  refine va_slen hx hb hX hbl hbA hS dL_cell_2 ?_
  refine lv_icmp_ge (tgt := 12) hx hb dL_cell_3 (by decide) (fun c1 => ?_) (fun c1 => ?_)
  · rw [if_pos c1] at hf
    refine lv_ldc (v := (32452867:Int32)) hx hb hown (hts _ kL_cell_0) dL_cell_12 ?_
    refine lv_iload_n hx hb dL_cell_14 rfl (lv_at hl 1 rfl) ?_
    refine lv_imul hx hb dL_cell_15 ?_
    refine lv_ldc (v := (15485863:Int32)) hx hb hown (hts _ kL_cell_1) dL_cell_16 ?_
    refine lv_iadd hx hb dL_cell_18 ?_
    have hq := Option.some.inj hf
    subst hq
    exact g_iret hx hb hr hlocks hP hS dL_cell_19
  · rw [if_neg c1] at hf
    refine lv_aload_n hx hb dL_cell_6 rfl (lv_at hl 0 rfl) ?_
    refine lv_iload_n hx hb dL_cell_7 rfl (lv_at hl 1 rfl) ?_
    obtain ⟨h2, hf⟩ := gi_some hf
    refine va_sld hx hb hX hbl hbA hS h2 dL_cell_8 ?_
    refine lv_goto (tgt := 19) hx hb dL_cell_9 (by decide) ?_
    have hq := Option.some.inj hf
    subst hq
    exact g_iret hx hb hr hlocks hP hS dL_cell_19
theorem kL_low_0 : Cond.constant RL 9 (2147483647) ∈ wsL_low := (List.mem_cons_of_mem _ (List.mem_of_getElem? (i := 0) rfl))
set_option maxHeartbeats 4000000 in
set_option maxRecDepth 100000 in
theorem c_L_low (l : Launch) (G : uG) (i0 : Int32) (i1 : Int32) {q : Int32 × (Unit)} (hf : f_L_low i0 i1 = some q) : mQ l yL_low wsL_low ({ frames := 0, cells := 0, slots := 0, locals := 0 } : Room) G [.int i0, .int i1] [] [] (qI G [] q.1) := by
  unfold f_L_low at hf
  refine m_of (cc := cL_low) (maxL := 2) (ret := (some .int)) (by decide) rfl rfl (Nat.le_of_ble_eq_true rfl) ?_
  intro p e s m args below meth c A ls S hK hA hP hD hS hl
  obtain ⟨hx, hb, hml, hown, hts, hr, hlocks⟩ := id S
  have hl : lv_has ls 2 [(0, .int i0), (1, .int i1)] := hl
  refine lv_iload_n hx hb dL_low_0 rfl (lv_at hl 0 rfl) ?_
  refine lv_ldc (v := (2147483647:Int32)) hx hb hown (hts _ kL_low_0) dL_low_1 ?_
  refine lv_iand hx hb dL_low_3 ?_
  refine lv_iload_n hx hb dL_low_4 rfl (lv_at hl 1 rfl) ?_
  obtain ⟨h1, hf⟩ := gz_some hf
  refine lv_irem hx hb dL_low_5 h1 ?_
  obtain ⟨x2, ex2, hf⟩ := lt_some hf
  refine lv_nmi ex2 ?_
  cases hf
  exact g_iret hx hb hr hlocks hP hS dL_low_6
theorem kL_build_0 : Cond.constant RL 29 (-99999) ∈ wsL_build := (List.mem_cons_of_mem _ (List.mem_append_left _ (List.mem_append_left _ (List.mem_append_left _ (List.mem_append_left _ (List.mem_append_left _ (List.mem_append_left _ (List.mem_append_left _ (List.mem_of_getElem? (i := 0) rfl)))))))))
set_option maxHeartbeats 4000000 in
set_option maxRecDepth 100000 in
theorem w_L_build_12 {p : Program} {l : Launch} {e : Env} {s : State} {m : MethodId} {args : Array Value} {below : List Frame} {meth : Method} {c : Code} {A : Nat → Prop} {Q : State → Prop} (S : Ev p s m args meth c cL_build 8 (some .boolean) yL_build.cls wsL_build) {G : uG} (hK : kK G s) (hA : ∀ q, s.heap.size ≤ q → A q) (_ : uG) (a0 : Nat → Nat) (a1 : Nat → Nat) (a2 : Nat → Nat) (a3 : Nat → Nat) (a4 : Nat → Nat) (a5 : Nat → Nat) (a6 : Nat → Nat) (a7 : Nat → Nat → Nat) (a8 : Nat → Nat) (a9 : Nat → Nat) (a10 : Nat → Nat) (a11 : Nat → Nat) (xs : Nat → Int32) (L : Nat) (p2 : Int32) (p4 : Int32) {b : Nat} (hX : va_X b L xs s s.heap) (hbl : b < s.heap.size) (hbA : ¬ A b) : ∀ (n : Nat) (z : (Int32 × Int32 × StV × PaV)) (e1 : (Int32 × Int32 × StV × PaV)), lp (b_L_build_12 xs L p2 p4) n z = some e1 → ∀ (H : Heap) (locs : List Loc) (ls : Array Slot), gP G [maW a0 (a1 0) (a2 0) (a3 0) (a4 0) (a7 0 0) (a8 0) (a9 0) (a9 1), stW G a1 z.2.2.1, paW G a7 z.2.2.2] H → gD A [maW a0 (a1 0) (a2 0) (a3 0) (a4 0) (a7 0 0) (a8 0) (a9 0) (a9 1), stW G a1 z.2.2.1, paW G a7 z.2.2.2] → va_S A s.heap H locs → lv_has ls 8 [(0, .ref (a0 0)), (1, .ref b), (2, .int p2), (3, .int z.1), (4, .int p4), (5, .int z.2.1)] → (∀ (H : Heap) (locs : List Loc) (ls : Array Slot), gP G [maW a0 (a1 0) (a2 0) (a3 0) (a4 0) (a7 0 0) (a8 0) (a9 0) (a9 1), stW G a1 e1.2.2.1, paW G a7 e1.2.2.2] H → gD A [maW a0 (a1 0) (a2 0) (a3 0) (a4 0) (a7 0 0) (a8 0) (a9 0) (a9 1), stW G a1 e1.2.2.1, paW G a7 e1.2.2.2] → va_S A s.heap H locs → lv_has ls 8 [(0, .ref (a0 0)), (1, .ref b), (2, .int p2), (3, .int e1.1), (4, .int p4), (5, .int e1.2.1)] → W p l e ({ frames := 4, cells := 0, slots := 0, locals := 87 } : Room) s m args below meth c H locs 0 0 Q (F0 m 113 ls [])) → W p l e ({ frames := 4, cells := 0, slots := 0, locals := 87 } : Room) s m args below meth c H locs 0 0 Q (F0 m 12 ls []) := by
  obtain ⟨hx, hb, hml, hown, hts, hr, hlocks⟩ := id S
  intro n
  induction n with
  | zero => intro z e1 h; cases h
  | succ n ih =>
    intro z e1 hlp H locs ls hP hD hS hl K
    obtain ⟨z9, hf, hz⟩ := lp_s hlp
    unfold b_L_build_12 at hf
    refine lv_iload hx hb dL_build_12 (lv_at hl 5 rfl) ?_
    refine lv_iload_n hx hb dL_build_14 rfl (lv_at hl 2 rfl) ?_
    refine lv_icmp_ge (tgt := 113) hx hb dL_build_15 (by decide) (fun c2 => ?_) (fun c2 => ?_)
    · rw [if_pos c2] at hf
      have he := lz_r hf hz
      subst he
      exact K H locs ls hP hD hS (lv_sub hl [0, 1, 2, 3, 4, 5] rfl)
    · rw [if_neg c2] at hf
      refine lv_iload_n hx hb dL_build_18 rfl (lv_at hl 3 rfl) ?_
      refine lv_if_eq (tgt := 113) hx hb dL_build_19 (by decide) (fun c3 => ?_) (fun c3 => ?_)
      · rw [if_pos c3] at hf
        have he := lz_r hf hz
        subst he
        exact K H locs ls hP hD hS (lv_sub hl [0, 1, 2, 3, 4, 5] rfl)
      · rw [if_neg c3] at hf
        refine lv_aload_n hx hb dL_build_22 rfl (lv_at hl 1 rfl) ?_
        refine lv_iconst (v := (2:Int32)) hx hb dL_build_23 (by decide) ?_
        refine lv_iload hx hb dL_build_24 (lv_at hl 5 rfl) ?_
        refine lv_iadd hx hb dL_build_26 ?_
        obtain ⟨q4, hq4, hf⟩ := bd_some hf
        refine g_callSis S (As := [.ref b, .int ((2:Int32) + z.2.1)]) (gs' := [maW a0 (a1 0) (a2 0) (a3 0) (a4 0) (a7 0 0) (a8 0) (a9 0) (a9 1), stW G a1 z.2.2.1, paW G a7 z.2.2.2]) (c_L_cell l G b xs L ((2:Int32) + z.2.1) hq4) (va_cwS 2 hts gL_build_L_cell rfl rfl rfl hd_L_cell.2 ⟨Nat.le_of_ble_eq_true rfl, Nat.le_of_ble_eq_true rfl⟩) hX hbl hbA hK hP hD hS hA (is := []) rfl rfl rfl hl.1 rfl (Nat.le_of_ble_eq_true rfl) dL_build_27 ⟨Nat.le_of_ble_eq_true rfl, Nat.le_of_ble_eq_true rfl⟩ rfl (fun H locs hP hD hS => ?_)
        refine lv_iload hx hb dL_build_30 (lv_at hl 4 rfl) ?_
        refine lv_iload hx hb dL_build_32 (lv_at hl 5 rfl) ?_
        refine lv_ishr hx hb dL_build_34 ?_
        refine lv_iconst (v := (3:Int32)) hx hb dL_build_35 (by decide) ?_
        obtain ⟨q5, hq5, hf⟩ := bd_some hf
        refine g_callSi S (As := [.int (p4 >>> (z.2.1 &&& 31)), .int (3:Int32)]) (gs' := [maW a0 (a1 0) (a2 0) (a3 0) (a4 0) (a7 0 0) (a8 0) (a9 0) (a9 1), stW G a1 z.2.2.1, paW G a7 z.2.2.2]) (c_L_low l G (p4 >>> (z.2.1 &&& 31)) (3:Int32) hq5) (va_cwS 2 hts gL_build_L_low rfl rfl rfl hd_L_low.2 ⟨Nat.le_of_ble_eq_true rfl, Nat.le_of_ble_eq_true rfl⟩) hK hP hD hS hA (is := []) rfl rfl rfl hl.1 rfl (Nat.le_of_ble_eq_true rfl) dL_build_36 ⟨Nat.le_of_ble_eq_true rfl, Nat.le_of_ble_eq_true rfl⟩ rfl (fun H locs hP hD hS => ?_)
        refine lv_if_ne (tgt := 47) hx hb dL_build_39 (by decide) (fun c6 => ?_) (fun c6 => ?_)
        · rw [if_neg c6] at hf
          refine lv_sipush (v := (400:Int32)) hx hb dL_build_47 (by decide) ?_
          obtain ⟨q7, hq7, hf⟩ := bd_some hf
          refine g_callSi S (As := [.int q4.1, .int (400:Int32)]) (gs' := [maW a0 (a1 0) (a2 0) (a3 0) (a4 0) (a7 0 0) (a8 0) (a9 0) (a9 1), stW G a1 z.2.2.1, paW G a7 z.2.2.2]) (c_L_low l G q4.1 (400:Int32) hq7) (va_cwS 2 hts gL_build_L_low rfl rfl rfl hd_L_low.2 ⟨Nat.le_of_ble_eq_true rfl, Nat.le_of_ble_eq_true rfl⟩) hK hP hD hS hA (is := []) rfl rfl rfl hl.1 rfl (Nat.le_of_ble_eq_true rfl) dL_build_50 ⟨Nat.le_of_ble_eq_true rfl, Nat.le_of_ble_eq_true rfl⟩ rfl (fun H locs hP hD hS => ?_)
          refine lv_istore (lv' := [(6, .int q7.1), (0, .ref (a0 0)), (1, .ref b), (2, .int p2), (3, .int z.1), (4, .int p4), (5, .int z.2.1)]) hx hb dL_build_53 hl (by decide) rfl (fun ls hl => ?_)
          refine lv_aload_n hx hb dL_build_55 rfl (lv_at hl 1 rfl) ?_
          refine lv_iload hx hb dL_build_56 (lv_at hl 0 rfl) ?_
          obtain ⟨q8, hq8, hf⟩ := bd_some hf
          refine g_callVi S (As := [.int q7.1]) (gs' := [maW a0 (a1 0) (a2 0) (a3 0) (a4 0) (a7 0 0) (a8 0) (a9 0) (a9 1), stW G a1 q8.2.1, paW G a7 q8.2.2]) (c_X5_addMember l G a0 a1 a2 a3 a4 a5 a6 a7 a8 a9 a10 a11 z.2.2.1 z.2.2.2 q7.1 hq8) (cwV 1 hts gL_build_X5_addMember rfl rfl rfl hd_X5_addMember ⟨Nat.le_of_ble_eq_true rfl, Nat.le_of_ble_eq_true rfl⟩) hK hP hD hS hA (is := [0, 1, 2]) rfl rfl 0 rfl rfl rfl rfl hl.1 rfl (Nat.le_of_ble_eq_true rfl) dL_build_58 ⟨Nat.le_of_ble_eq_true rfl, Nat.le_of_ble_eq_true rfl⟩ rfl (fun H locs hP hD hS => ?_)
          refine lv_iload hx hb dL_build_61 (lv_at hl 6 rfl) ?_
          refine lv_icmp_ne (tgt := 105) hx hb dL_build_63 (by decide) (fun c9 => ?_) (fun c9 => ?_)
          · rw [if_neg c9] at hf
            refine lv_iconst (v := (0:Int32)) hx hb dL_build_105 (by decide) ?_
            refine lv_istore_n (lv' := [(3, .int (0:Int32)), (6, .int q7.1), (0, .ref (a0 0)), (1, .ref b), (2, .int p2), (4, .int p4), (5, .int z.2.1)]) hx hb dL_build_106 rfl hl (by decide) rfl (fun ls hl => ?_)
            obtain ⟨x10, ex10, hf⟩ := lt_some hf
            refine lv_iinc (v := x10) (lv' := [(5, .int x10), (3, .int (0:Int32)), (6, .int q7.1), (0, .ref (a0 0)), (1, .ref b), (2, .int p2), (4, .int p4)]) hx hb dL_build_107 hl (k := 6) rfl (by rw [ex10]; rfl) (by decide) rfl (fun ls hl => ?_)
            refine lv_goto (tgt := 12) hx hb dL_build_110 (by decide) ?_
            exact ih _ e1 (lz_l hf hz) H locs ls hP hD hS (lv_sub hl [3, 4, 5, 1, 6, 0] rfl) K
          · rw [if_pos c9] at hf
            refine lv_aload_n hx hb dL_build_66 rfl (lv_at hl 1 rfl) ?_
            refine lv_iload hx hb dL_build_67 (lv_at hl 6 rfl) ?_
            refine lv_iconst (v := (0:Int32)) hx hb dL_build_69 (by decide) ?_
            obtain ⟨q11, hq11, hf⟩ := bd_some hf
            refine g_callVi S (As := [.int z.2.1, .int (0:Int32)]) (gs' := [maW a0 (a1 0) (a2 0) (a3 0) (a4 0) (a7 0 0) (a8 0) (a9 0) (a9 1), stW G a1 q8.2.1, paW G a7 q8.2.2]) (c_X5_member l G a0 a1 a2 a3 a4 a5 a6 a7 a8 a9 a10 a11 q8.2.1 z.2.1 (0:Int32) hq11) (cwV 2 hts gL_build_X5_member rfl rfl rfl hd_X5_member ⟨Nat.le_of_ble_eq_true rfl, Nat.le_of_ble_eq_true rfl⟩) hK hP hD hS hA (is := [0, 1]) rfl rfl 0 rfl rfl rfl rfl hl.1 rfl (Nat.le_of_ble_eq_true rfl) dL_build_70 ⟨Nat.le_of_ble_eq_true rfl, Nat.le_of_ble_eq_true rfl⟩ rfl (fun H locs hP hD hS => ?_)
            refine lv_iload hx hb dL_build_73 (lv_at hl 0 rfl) ?_
            refine lv_icmp_ne (tgt := 105) hx hb dL_build_75 (by decide) (fun c12 => ?_) (fun c12 => ?_)
            · rw [if_neg c12] at hf
              refine lv_iconst (v := (0:Int32)) hx hb dL_build_105 (by decide) ?_
              refine lv_istore_n (lv' := [(3, .int (0:Int32)), (6, .int q7.1), (0, .ref (a0 0)), (1, .ref b), (2, .int p2), (4, .int p4), (5, .int z.2.1)]) hx hb dL_build_106 rfl hl (by decide) rfl (fun ls hl => ?_)
              obtain ⟨x13, ex13, hf⟩ := lt_some hf
              refine lv_iinc (v := x13) (lv' := [(5, .int x13), (3, .int (0:Int32)), (6, .int q7.1), (0, .ref (a0 0)), (1, .ref b), (2, .int p2), (4, .int p4)]) hx hb dL_build_107 hl (k := 6) rfl (by rw [ex13]; rfl) (by decide) rfl (fun ls hl => ?_)
              refine lv_goto (tgt := 12) hx hb dL_build_110 (by decide) ?_
              exact ih _ e1 (lz_l hf hz) H locs ls hP hD hS (lv_sub hl [3, 4, 5, 1, 6, 0] rfl) K
            · rw [if_pos c12] at hf
              refine lv_aload_n hx hb dL_build_78 rfl (lv_at hl 1 rfl) ?_
              refine lv_iload hx hb dL_build_79 (lv_at hl 6 rfl) ?_
              refine lv_iconst (v := (1:Int32)) hx hb dL_build_81 (by decide) ?_
              obtain ⟨q14, hq14, hf⟩ := bd_some hf
              refine g_callVi S (As := [.int z.2.1, .int (1:Int32)]) (gs' := [maW a0 (a1 0) (a2 0) (a3 0) (a4 0) (a7 0 0) (a8 0) (a9 0) (a9 1), stW G a1 q8.2.1, paW G a7 q8.2.2]) (c_X5_member l G a0 a1 a2 a3 a4 a5 a6 a7 a8 a9 a10 a11 q8.2.1 z.2.1 (1:Int32) hq14) (cwV 2 hts gL_build_X5_member rfl rfl rfl hd_X5_member ⟨Nat.le_of_ble_eq_true rfl, Nat.le_of_ble_eq_true rfl⟩) hK hP hD hS hA (is := [0, 1]) rfl rfl 0 rfl rfl rfl rfl hl.1 rfl (Nat.le_of_ble_eq_true rfl) dL_build_82 ⟨Nat.le_of_ble_eq_true rfl, Nat.le_of_ble_eq_true rfl⟩ rfl (fun H locs hP hD hS => ?_)
              refine lv_ldc (v := (-99999:Int32)) hx hb hown (hts _ kL_build_0) dL_build_85 ?_
              refine lv_icmp_ne (tgt := 105) hx hb dL_build_87 (by decide) (fun c15 => ?_) (fun c15 => ?_)
              · rw [if_neg c15] at hf
                refine lv_iconst (v := (0:Int32)) hx hb dL_build_105 (by decide) ?_
                refine lv_istore_n (lv' := [(3, .int (0:Int32)), (6, .int q7.1), (0, .ref (a0 0)), (1, .ref b), (2, .int p2), (4, .int p4), (5, .int z.2.1)]) hx hb dL_build_106 rfl hl (by decide) rfl (fun ls hl => ?_)
                obtain ⟨x16, ex16, hf⟩ := lt_some hf
                refine lv_iinc (v := x16) (lv' := [(5, .int x16), (3, .int (0:Int32)), (6, .int q7.1), (0, .ref (a0 0)), (1, .ref b), (2, .int p2), (4, .int p4)]) hx hb dL_build_107 hl (k := 6) rfl (by rw [ex16]; rfl) (by decide) rfl (fun ls hl => ?_)
                refine lv_goto (tgt := 12) hx hb dL_build_110 (by decide) ?_
                exact ih _ e1 (lz_l hf hz) H locs ls hP hD hS (lv_sub hl [3, 4, 5, 1, 6, 0] rfl) K
              · rw [if_pos c15] at hf
                refine lv_aload_n hx hb dL_build_90 rfl (lv_at hl 1 rfl) ?_
                refine lv_iload hx hb dL_build_91 (lv_at hl 6 rfl) ?_
                refine lv_iconst (v := (5:Int32)) hx hb dL_build_93 (by decide) ?_
                obtain ⟨q17, hq17, hf⟩ := bd_some hf
                refine g_callVi S (As := [.int z.2.1, .int (5:Int32)]) (gs' := [maW a0 (a1 0) (a2 0) (a3 0) (a4 0) (a7 0 0) (a8 0) (a9 0) (a9 1), stW G a1 q8.2.1, paW G a7 q8.2.2]) (c_X5_member l G a0 a1 a2 a3 a4 a5 a6 a7 a8 a9 a10 a11 q8.2.1 z.2.1 (5:Int32) hq17) (cwV 2 hts gL_build_X5_member rfl rfl rfl hd_X5_member ⟨Nat.le_of_ble_eq_true rfl, Nat.le_of_ble_eq_true rfl⟩) hK hP hD hS hA (is := [0, 1]) rfl rfl 0 rfl rfl rfl rfl hl.1 rfl (Nat.le_of_ble_eq_true rfl) dL_build_94 ⟨Nat.le_of_ble_eq_true rfl, Nat.le_of_ble_eq_true rfl⟩ rfl (fun H locs hP hD hS => ?_)
                refine lv_iconst (v := (1:Int32)) hx hb dL_build_97 (by decide) ?_
                refine lv_icmp_ne (tgt := 105) hx hb dL_build_98 (by decide) (fun c18 => ?_) (fun c18 => ?_)
                · rw [if_neg c18] at hf
                  refine lv_iconst (v := (0:Int32)) hx hb dL_build_105 (by decide) ?_
                  refine lv_istore_n (lv' := [(3, .int (0:Int32)), (6, .int q7.1), (0, .ref (a0 0)), (1, .ref b), (2, .int p2), (4, .int p4), (5, .int z.2.1)]) hx hb dL_build_106 rfl hl (by decide) rfl (fun ls hl => ?_)
                  obtain ⟨x19, ex19, hf⟩ := lt_some hf
                  refine lv_iinc (v := x19) (lv' := [(5, .int x19), (3, .int (0:Int32)), (6, .int q7.1), (0, .ref (a0 0)), (1, .ref b), (2, .int p2), (4, .int p4)]) hx hb dL_build_107 hl (k := 6) rfl (by rw [ex19]; rfl) (by decide) rfl (fun ls hl => ?_)
                  refine lv_goto (tgt := 12) hx hb dL_build_110 (by decide) ?_
                  exact ih _ e1 (lz_l hf hz) H locs ls hP hD hS (lv_sub hl [3, 4, 5, 1, 6, 0] rfl) K
                · rw [if_pos c18] at hf
                  refine lv_iconst (v := (1:Int32)) hx hb dL_build_101 (by decide) ?_
                  refine lv_goto (tgt := 106) hx hb dL_build_102 (by decide) ?_
                  refine lv_istore_n (lv' := [(3, .int (1:Int32)), (6, .int q7.1), (0, .ref (a0 0)), (1, .ref b), (2, .int p2), (4, .int p4), (5, .int z.2.1)]) hx hb dL_build_106 rfl hl (by decide) rfl (fun ls hl => ?_)
                  obtain ⟨x20, ex20, hf⟩ := lt_some hf
                  refine lv_iinc (v := x20) (lv' := [(5, .int x20), (3, .int (1:Int32)), (6, .int q7.1), (0, .ref (a0 0)), (1, .ref b), (2, .int p2), (4, .int p4)]) hx hb dL_build_107 hl (k := 6) rfl (by rw [ex20]; rfl) (by decide) rfl (fun ls hl => ?_)
                  refine lv_goto (tgt := 12) hx hb dL_build_110 (by decide) ?_
                  exact ih _ e1 (lz_l hf hz) H locs ls hP hD hS (lv_sub hl [3, 4, 5, 1, 6, 0] rfl) K
        · rw [if_pos c6] at hf
          refine lv_bipush (v := (20:Int32)) hx hb dL_build_42 (by decide) ?_
          refine lv_goto (tgt := 50) hx hb dL_build_44 (by decide) ?_
          obtain ⟨q21, hq21, hf⟩ := bd_some hf
          refine g_callSi S (As := [.int q4.1, .int (20:Int32)]) (gs' := [maW a0 (a1 0) (a2 0) (a3 0) (a4 0) (a7 0 0) (a8 0) (a9 0) (a9 1), stW G a1 z.2.2.1, paW G a7 z.2.2.2]) (c_L_low l G q4.1 (20:Int32) hq21) (va_cwS 2 hts gL_build_L_low rfl rfl rfl hd_L_low.2 ⟨Nat.le_of_ble_eq_true rfl, Nat.le_of_ble_eq_true rfl⟩) hK hP hD hS hA (is := []) rfl rfl rfl hl.1 rfl (Nat.le_of_ble_eq_true rfl) dL_build_50 ⟨Nat.le_of_ble_eq_true rfl, Nat.le_of_ble_eq_true rfl⟩ rfl (fun H locs hP hD hS => ?_)
          refine lv_istore (lv' := [(6, .int q21.1), (0, .ref (a0 0)), (1, .ref b), (2, .int p2), (3, .int z.1), (4, .int p4), (5, .int z.2.1)]) hx hb dL_build_53 hl (by decide) rfl (fun ls hl => ?_)
          refine lv_aload_n hx hb dL_build_55 rfl (lv_at hl 1 rfl) ?_
          refine lv_iload hx hb dL_build_56 (lv_at hl 0 rfl) ?_
          obtain ⟨q22, hq22, hf⟩ := bd_some hf
          refine g_callVi S (As := [.int q21.1]) (gs' := [maW a0 (a1 0) (a2 0) (a3 0) (a4 0) (a7 0 0) (a8 0) (a9 0) (a9 1), stW G a1 q22.2.1, paW G a7 q22.2.2]) (c_X5_addMember l G a0 a1 a2 a3 a4 a5 a6 a7 a8 a9 a10 a11 z.2.2.1 z.2.2.2 q21.1 hq22) (cwV 1 hts gL_build_X5_addMember rfl rfl rfl hd_X5_addMember ⟨Nat.le_of_ble_eq_true rfl, Nat.le_of_ble_eq_true rfl⟩) hK hP hD hS hA (is := [0, 1, 2]) rfl rfl 0 rfl rfl rfl rfl hl.1 rfl (Nat.le_of_ble_eq_true rfl) dL_build_58 ⟨Nat.le_of_ble_eq_true rfl, Nat.le_of_ble_eq_true rfl⟩ rfl (fun H locs hP hD hS => ?_)
          refine lv_iload hx hb dL_build_61 (lv_at hl 6 rfl) ?_
          refine lv_icmp_ne (tgt := 105) hx hb dL_build_63 (by decide) (fun c23 => ?_) (fun c23 => ?_)
          · rw [if_neg c23] at hf
            refine lv_iconst (v := (0:Int32)) hx hb dL_build_105 (by decide) ?_
            refine lv_istore_n (lv' := [(3, .int (0:Int32)), (6, .int q21.1), (0, .ref (a0 0)), (1, .ref b), (2, .int p2), (4, .int p4), (5, .int z.2.1)]) hx hb dL_build_106 rfl hl (by decide) rfl (fun ls hl => ?_)
            obtain ⟨x24, ex24, hf⟩ := lt_some hf
            refine lv_iinc (v := x24) (lv' := [(5, .int x24), (3, .int (0:Int32)), (6, .int q21.1), (0, .ref (a0 0)), (1, .ref b), (2, .int p2), (4, .int p4)]) hx hb dL_build_107 hl (k := 6) rfl (by rw [ex24]; rfl) (by decide) rfl (fun ls hl => ?_)
            refine lv_goto (tgt := 12) hx hb dL_build_110 (by decide) ?_
            exact ih _ e1 (lz_l hf hz) H locs ls hP hD hS (lv_sub hl [3, 4, 5, 1, 6, 0] rfl) K
          · rw [if_pos c23] at hf
            refine lv_aload_n hx hb dL_build_66 rfl (lv_at hl 1 rfl) ?_
            refine lv_iload hx hb dL_build_67 (lv_at hl 6 rfl) ?_
            refine lv_iconst (v := (0:Int32)) hx hb dL_build_69 (by decide) ?_
            obtain ⟨q25, hq25, hf⟩ := bd_some hf
            refine g_callVi S (As := [.int z.2.1, .int (0:Int32)]) (gs' := [maW a0 (a1 0) (a2 0) (a3 0) (a4 0) (a7 0 0) (a8 0) (a9 0) (a9 1), stW G a1 q22.2.1, paW G a7 q22.2.2]) (c_X5_member l G a0 a1 a2 a3 a4 a5 a6 a7 a8 a9 a10 a11 q22.2.1 z.2.1 (0:Int32) hq25) (cwV 2 hts gL_build_X5_member rfl rfl rfl hd_X5_member ⟨Nat.le_of_ble_eq_true rfl, Nat.le_of_ble_eq_true rfl⟩) hK hP hD hS hA (is := [0, 1]) rfl rfl 0 rfl rfl rfl rfl hl.1 rfl (Nat.le_of_ble_eq_true rfl) dL_build_70 ⟨Nat.le_of_ble_eq_true rfl, Nat.le_of_ble_eq_true rfl⟩ rfl (fun H locs hP hD hS => ?_)
            refine lv_iload hx hb dL_build_73 (lv_at hl 0 rfl) ?_
            refine lv_icmp_ne (tgt := 105) hx hb dL_build_75 (by decide) (fun c26 => ?_) (fun c26 => ?_)
            · rw [if_neg c26] at hf
              refine lv_iconst (v := (0:Int32)) hx hb dL_build_105 (by decide) ?_
              refine lv_istore_n (lv' := [(3, .int (0:Int32)), (6, .int q21.1), (0, .ref (a0 0)), (1, .ref b), (2, .int p2), (4, .int p4), (5, .int z.2.1)]) hx hb dL_build_106 rfl hl (by decide) rfl (fun ls hl => ?_)
              obtain ⟨x27, ex27, hf⟩ := lt_some hf
              refine lv_iinc (v := x27) (lv' := [(5, .int x27), (3, .int (0:Int32)), (6, .int q21.1), (0, .ref (a0 0)), (1, .ref b), (2, .int p2), (4, .int p4)]) hx hb dL_build_107 hl (k := 6) rfl (by rw [ex27]; rfl) (by decide) rfl (fun ls hl => ?_)
              refine lv_goto (tgt := 12) hx hb dL_build_110 (by decide) ?_
              exact ih _ e1 (lz_l hf hz) H locs ls hP hD hS (lv_sub hl [3, 4, 5, 1, 6, 0] rfl) K
            · rw [if_pos c26] at hf
              refine lv_aload_n hx hb dL_build_78 rfl (lv_at hl 1 rfl) ?_
              refine lv_iload hx hb dL_build_79 (lv_at hl 6 rfl) ?_
              refine lv_iconst (v := (1:Int32)) hx hb dL_build_81 (by decide) ?_
              obtain ⟨q28, hq28, hf⟩ := bd_some hf
              refine g_callVi S (As := [.int z.2.1, .int (1:Int32)]) (gs' := [maW a0 (a1 0) (a2 0) (a3 0) (a4 0) (a7 0 0) (a8 0) (a9 0) (a9 1), stW G a1 q22.2.1, paW G a7 q22.2.2]) (c_X5_member l G a0 a1 a2 a3 a4 a5 a6 a7 a8 a9 a10 a11 q22.2.1 z.2.1 (1:Int32) hq28) (cwV 2 hts gL_build_X5_member rfl rfl rfl hd_X5_member ⟨Nat.le_of_ble_eq_true rfl, Nat.le_of_ble_eq_true rfl⟩) hK hP hD hS hA (is := [0, 1]) rfl rfl 0 rfl rfl rfl rfl hl.1 rfl (Nat.le_of_ble_eq_true rfl) dL_build_82 ⟨Nat.le_of_ble_eq_true rfl, Nat.le_of_ble_eq_true rfl⟩ rfl (fun H locs hP hD hS => ?_)
              refine lv_ldc (v := (-99999:Int32)) hx hb hown (hts _ kL_build_0) dL_build_85 ?_
              refine lv_icmp_ne (tgt := 105) hx hb dL_build_87 (by decide) (fun c29 => ?_) (fun c29 => ?_)
              · rw [if_neg c29] at hf
                refine lv_iconst (v := (0:Int32)) hx hb dL_build_105 (by decide) ?_
                refine lv_istore_n (lv' := [(3, .int (0:Int32)), (6, .int q21.1), (0, .ref (a0 0)), (1, .ref b), (2, .int p2), (4, .int p4), (5, .int z.2.1)]) hx hb dL_build_106 rfl hl (by decide) rfl (fun ls hl => ?_)
                obtain ⟨x30, ex30, hf⟩ := lt_some hf
                refine lv_iinc (v := x30) (lv' := [(5, .int x30), (3, .int (0:Int32)), (6, .int q21.1), (0, .ref (a0 0)), (1, .ref b), (2, .int p2), (4, .int p4)]) hx hb dL_build_107 hl (k := 6) rfl (by rw [ex30]; rfl) (by decide) rfl (fun ls hl => ?_)
                refine lv_goto (tgt := 12) hx hb dL_build_110 (by decide) ?_
                exact ih _ e1 (lz_l hf hz) H locs ls hP hD hS (lv_sub hl [3, 4, 5, 1, 6, 0] rfl) K
              · rw [if_pos c29] at hf
                refine lv_aload_n hx hb dL_build_90 rfl (lv_at hl 1 rfl) ?_
                refine lv_iload hx hb dL_build_91 (lv_at hl 6 rfl) ?_
                refine lv_iconst (v := (5:Int32)) hx hb dL_build_93 (by decide) ?_
                obtain ⟨q31, hq31, hf⟩ := bd_some hf
                refine g_callVi S (As := [.int z.2.1, .int (5:Int32)]) (gs' := [maW a0 (a1 0) (a2 0) (a3 0) (a4 0) (a7 0 0) (a8 0) (a9 0) (a9 1), stW G a1 q22.2.1, paW G a7 q22.2.2]) (c_X5_member l G a0 a1 a2 a3 a4 a5 a6 a7 a8 a9 a10 a11 q22.2.1 z.2.1 (5:Int32) hq31) (cwV 2 hts gL_build_X5_member rfl rfl rfl hd_X5_member ⟨Nat.le_of_ble_eq_true rfl, Nat.le_of_ble_eq_true rfl⟩) hK hP hD hS hA (is := [0, 1]) rfl rfl 0 rfl rfl rfl rfl hl.1 rfl (Nat.le_of_ble_eq_true rfl) dL_build_94 ⟨Nat.le_of_ble_eq_true rfl, Nat.le_of_ble_eq_true rfl⟩ rfl (fun H locs hP hD hS => ?_)
                refine lv_iconst (v := (1:Int32)) hx hb dL_build_97 (by decide) ?_
                refine lv_icmp_ne (tgt := 105) hx hb dL_build_98 (by decide) (fun c32 => ?_) (fun c32 => ?_)
                · rw [if_neg c32] at hf
                  refine lv_iconst (v := (0:Int32)) hx hb dL_build_105 (by decide) ?_
                  refine lv_istore_n (lv' := [(3, .int (0:Int32)), (6, .int q21.1), (0, .ref (a0 0)), (1, .ref b), (2, .int p2), (4, .int p4), (5, .int z.2.1)]) hx hb dL_build_106 rfl hl (by decide) rfl (fun ls hl => ?_)
                  obtain ⟨x33, ex33, hf⟩ := lt_some hf
                  refine lv_iinc (v := x33) (lv' := [(5, .int x33), (3, .int (0:Int32)), (6, .int q21.1), (0, .ref (a0 0)), (1, .ref b), (2, .int p2), (4, .int p4)]) hx hb dL_build_107 hl (k := 6) rfl (by rw [ex33]; rfl) (by decide) rfl (fun ls hl => ?_)
                  refine lv_goto (tgt := 12) hx hb dL_build_110 (by decide) ?_
                  exact ih _ e1 (lz_l hf hz) H locs ls hP hD hS (lv_sub hl [3, 4, 5, 1, 6, 0] rfl) K
                · rw [if_pos c32] at hf
                  refine lv_iconst (v := (1:Int32)) hx hb dL_build_101 (by decide) ?_
                  refine lv_goto (tgt := 106) hx hb dL_build_102 (by decide) ?_
                  refine lv_istore_n (lv' := [(3, .int (1:Int32)), (6, .int q21.1), (0, .ref (a0 0)), (1, .ref b), (2, .int p2), (4, .int p4), (5, .int z.2.1)]) hx hb dL_build_106 rfl hl (by decide) rfl (fun ls hl => ?_)
                  obtain ⟨x34, ex34, hf⟩ := lt_some hf
                  refine lv_iinc (v := x34) (lv' := [(5, .int x34), (3, .int (1:Int32)), (6, .int q21.1), (0, .ref (a0 0)), (1, .ref b), (2, .int p2), (4, .int p4)]) hx hb dL_build_107 hl (k := 6) rfl (by rw [ex34]; rfl) (by decide) rfl (fun ls hl => ?_)
                  refine lv_goto (tgt := 12) hx hb dL_build_110 (by decide) ?_
                  exact ih _ e1 (lz_l hf hz) H locs ls hP hD hS (lv_sub hl [3, 4, 5, 1, 6, 0] rfl) K
set_option maxHeartbeats 4000000 in
set_option maxRecDepth 100000 in
theorem w_L_build_116 {p : Program} {l : Launch} {e : Env} {s : State} {m : MethodId} {args : Array Value} {below : List Frame} {meth : Method} {c : Code} {A : Nat → Prop} {Q : State → Prop} (S : Ev p s m args meth c cL_build 8 (some .boolean) yL_build.cls wsL_build) {G : uG} (hK : kK G s) (hA : ∀ q, s.heap.size ≤ q → A q) (_ : uG) (a0 : Nat → Nat) (a1 : Nat → Nat) (a2 : Nat → Nat) (a3 : Nat → Nat) (a4 : Nat → Nat) (a5 : Nat → Nat) (a6 : Nat → Nat) (a7 : Nat → Nat → Nat) (a8 : Nat → Nat) (a9 : Nat → Nat) (a10 : Nat → Nat) (a11 : Nat → Nat) (xs : Nat → Int32) (L : Nat) (p2 : Int32) {b : Nat} (hX : va_X b L xs s s.heap) (hbl : b < s.heap.size) (hbA : ¬ A b) : ∀ (n : Nat) (z : (Int32 × Int32 × StV × PaV)) (e1 : (Int32 × Int32 × StV × PaV)), lp (b_L_build_116 xs L p2) n z = some e1 → ∀ (H : Heap) (locs : List Loc) (ls : Array Slot), gP G [maW a0 (a1 0) (a2 0) (a3 0) (a4 0) (a7 0 0) (a8 0) (a9 0) (a9 1), stW G a1 z.2.2.1, paW G a7 z.2.2.2] H → gD A [maW a0 (a1 0) (a2 0) (a3 0) (a4 0) (a7 0 0) (a8 0) (a9 0) (a9 1), stW G a1 z.2.2.1, paW G a7 z.2.2.2] → va_S A s.heap H locs → lv_has ls 8 [(0, .ref (a0 0)), (1, .ref b), (2, .int p2), (3, .int z.1), (5, .int z.2.1)] → (∀ (H : Heap) (locs : List Loc) (ls : Array Slot), gP G [maW a0 (a1 0) (a2 0) (a3 0) (a4 0) (a7 0 0) (a8 0) (a9 0) (a9 1), stW G a1 e1.2.2.1, paW G a7 e1.2.2.2] H → gD A [maW a0 (a1 0) (a2 0) (a3 0) (a4 0) (a7 0 0) (a8 0) (a9 0) (a9 1), stW G a1 e1.2.2.1, paW G a7 e1.2.2.2] → va_S A s.heap H locs → lv_has ls 8 [(0, .ref (a0 0)), (1, .ref b), (2, .int p2), (3, .int e1.1), (5, .int e1.2.1)] → W p l e ({ frames := 4, cells := 0, slots := 0, locals := 87 } : Room) s m args below meth c H locs 0 0 Q (F0 m 207 ls [])) → W p l e ({ frames := 4, cells := 0, slots := 0, locals := 87 } : Room) s m args below meth c H locs 0 0 Q (F0 m 116 ls []) := by
  obtain ⟨hx, hb, hml, hown, hts, hr, hlocks⟩ := id S
  intro n
  induction n with
  | zero => intro z e1 h; cases h
  | succ n ih =>
    intro z e1 hlp H locs ls hP hD hS hl K
    obtain ⟨z9, hf, hz⟩ := lp_s hlp
    unfold b_L_build_116 at hf
    refine lv_iload hx hb dL_build_116 (lv_at hl 4 rfl) ?_
    refine lv_iload_n hx hb dL_build_118 rfl (lv_at hl 2 rfl) ?_
    refine lv_icmp_ge (tgt := 207) hx hb dL_build_119 (by decide) (fun c36 => ?_) (fun c36 => ?_)
    · rw [if_pos c36] at hf
      have he := lz_r hf hz
      subst he
      exact K H locs ls hP hD hS (lv_sub hl [0, 1, 2, 3, 4] rfl)
    · rw [if_neg c36] at hf
      refine lv_iload_n hx hb dL_build_122 rfl (lv_at hl 3 rfl) ?_
      refine lv_if_eq (tgt := 207) hx hb dL_build_123 (by decide) (fun c37 => ?_) (fun c37 => ?_)
      · rw [if_pos c37] at hf
        have he := lz_r hf hz
        subst he
        exact K H locs ls hP hD hS (lv_sub hl [0, 1, 2, 3, 4] rfl)
      · rw [if_neg c37] at hf
        refine lv_iload_n hx hb dL_build_126 rfl (lv_at hl 2 rfl) ?_
        refine lv_iconst (v := (1:Int32)) hx hb dL_build_127 (by decide) ?_
        refine lv_icmp_le (tgt := 207) hx hb dL_build_128 (by decide) (fun c38 => ?_) (fun c38 => ?_)
        · rw [if_pos c38] at hf
          have he := lz_r hf hz
          subst he
          exact K H locs ls hP hD hS (lv_sub hl [0, 1, 2, 3, 4] rfl)
        · rw [if_neg c38] at hf
          refine lv_aload_n hx hb dL_build_131 rfl (lv_at hl 1 rfl) ?_
          refine lv_bipush (v := (10:Int32)) hx hb dL_build_132 (by decide) ?_
          refine lv_iload hx hb dL_build_134 (lv_at hl 4 rfl) ?_
          refine lv_iadd hx hb dL_build_136 ?_
          obtain ⟨q39, hq39, hf⟩ := bd_some hf
          refine g_callSis S (As := [.ref b, .int ((10:Int32) + z.2.1)]) (gs' := [maW a0 (a1 0) (a2 0) (a3 0) (a4 0) (a7 0 0) (a8 0) (a9 0) (a9 1), stW G a1 z.2.2.1, paW G a7 z.2.2.2]) (c_L_cell l G b xs L ((10:Int32) + z.2.1) hq39) (va_cwS 2 hts gL_build_L_cell rfl rfl rfl hd_L_cell.2 ⟨Nat.le_of_ble_eq_true rfl, Nat.le_of_ble_eq_true rfl⟩) hX hbl hbA hK hP hD hS hA (is := []) rfl rfl rfl hl.1 rfl (Nat.le_of_ble_eq_true rfl) dL_build_137 ⟨Nat.le_of_ble_eq_true rfl, Nat.le_of_ble_eq_true rfl⟩ rfl (fun H locs hP hD hS => ?_)
          refine lv_istore (lv' := [(6, .int q39.1), (0, .ref (a0 0)), (1, .ref b), (2, .int p2), (3, .int z.1), (5, .int z.2.1)]) hx hb dL_build_140 hl (by decide) rfl (fun ls hl => ?_)
          refine lv_iload hx hb dL_build_142 (lv_at hl 0 rfl) ?_
          refine lv_iconst (v := (2:Int32)) hx hb dL_build_144 (by decide) ?_
          obtain ⟨q40, hq40, hf⟩ := bd_some hf
          refine g_callSi S (As := [.int q39.1, .int (2:Int32)]) (gs' := [maW a0 (a1 0) (a2 0) (a3 0) (a4 0) (a7 0 0) (a8 0) (a9 0) (a9 1), stW G a1 z.2.2.1, paW G a7 z.2.2.2]) (c_L_low l G q39.1 (2:Int32) hq40) (va_cwS 2 hts gL_build_L_low rfl rfl rfl hd_L_low.2 ⟨Nat.le_of_ble_eq_true rfl, Nat.le_of_ble_eq_true rfl⟩) hK hP hD hS hA (is := []) rfl rfl rfl hl.1 rfl (Nat.le_of_ble_eq_true rfl) dL_build_145 ⟨Nat.le_of_ble_eq_true rfl, Nat.le_of_ble_eq_true rfl⟩ rfl (fun H locs hP hD hS => ?_)
          refine lv_if_ne (tgt := 201) hx hb dL_build_148 (by decide) (fun c41 => ?_) (fun c41 => ?_)
          · rw [if_neg c41] at hf
            obtain ⟨x42, ex42, hf⟩ := lt_some hf
            refine lv_iinc (v := x42) (lv' := [(5, .int x42), (6, .int q39.1), (0, .ref (a0 0)), (1, .ref b), (2, .int p2), (3, .int z.1)]) hx hb dL_build_201 hl (k := 5) rfl (by rw [ex42]; rfl) (by decide) rfl (fun ls hl => ?_)
            refine lv_goto (tgt := 116) hx hb dL_build_204 (by decide) ?_
            exact ih _ e1 (lz_l hf hz) H locs ls hP hD hS (lv_sub hl [2, 3, 4, 5, 0] rfl) K
          · rw [if_pos c41] at hf
            refine lv_iload hx hb dL_build_151 (lv_at hl 5 rfl) ?_
            refine lv_iconst (v := (1:Int32)) hx hb dL_build_153 (by decide) ?_
            refine lv_iadd hx hb dL_build_154 ?_
            refine lv_iload hx hb dL_build_155 (lv_at hl 0 rfl) ?_
            refine lv_iconst (v := (1:Int32)) hx hb dL_build_157 (by decide) ?_
            refine lv_ishr hx hb dL_build_158 ?_
            refine lv_iload_n hx hb dL_build_159 rfl (lv_at hl 3 rfl) ?_
            refine lv_iconst (v := (1:Int32)) hx hb dL_build_160 (by decide) ?_
            refine lv_isub hx hb dL_build_161 ?_
            obtain ⟨q43, hq43, hf⟩ := bd_some hf
            refine g_callSi S (As := [.int (q39.1 >>> ((1:Int32) &&& 31)), .int (p2 - (1:Int32))]) (gs' := [maW a0 (a1 0) (a2 0) (a3 0) (a4 0) (a7 0 0) (a8 0) (a9 0) (a9 1), stW G a1 z.2.2.1, paW G a7 z.2.2.2]) (c_L_low l G (q39.1 >>> ((1:Int32) &&& 31)) (p2 - (1:Int32)) hq43) (va_cwS 2 hts gL_build_L_low rfl rfl rfl hd_L_low.2 ⟨Nat.le_of_ble_eq_true rfl, Nat.le_of_ble_eq_true rfl⟩) hK hP hD hS hA (is := []) rfl rfl rfl hl.1 rfl (Nat.le_of_ble_eq_true rfl) dL_build_162 ⟨Nat.le_of_ble_eq_true rfl, Nat.le_of_ble_eq_true rfl⟩ rfl (fun H locs hP hD hS => ?_)
            refine lv_iadd hx hb dL_build_165 ?_
            refine lv_iload_n hx hb dL_build_166 rfl (lv_at hl 3 rfl) ?_
            obtain ⟨h44, hf⟩ := gz_some hf
            refine lv_irem hx hb dL_build_167 h44 ?_
            obtain ⟨x45, ex45, hf⟩ := lt_some hf
            refine lv_nmi ex45 ?_
            refine lv_istore (lv' := [(7, .int x45), (6, .int q39.1), (0, .ref (a0 0)), (1, .ref b), (2, .int p2), (3, .int z.1), (5, .int z.2.1)]) hx hb dL_build_168 hl (by decide) rfl (fun ls hl => ?_)
            refine lv_aload_n hx hb dL_build_170 rfl (lv_at hl 2 rfl) ?_
            refine lv_iload hx hb dL_build_171 (lv_at hl 6 rfl) ?_
            refine lv_iload hx hb dL_build_173 (lv_at hl 0 rfl) ?_
            obtain ⟨q46, hq46, hf⟩ := bd_some hf
            refine g_callVi S (As := [.int z.2.1, .int x45]) (gs' := [maW a0 (a1 0) (a2 0) (a3 0) (a4 0) (a7 0 0) (a8 0) (a9 0) (a9 1), stW G a1 q46.2.1, paW G a7 q46.2.2]) (c_X5_setGuarantor l G a0 a1 a2 a3 a4 a5 a6 a7 a8 a9 a10 a11 z.2.2.1 z.2.2.2 z.2.1 x45 hq46) (cwV 2 hts gL_build_X5_setGuarantor rfl rfl rfl hd_X5_setGuarantor ⟨Nat.le_of_ble_eq_true rfl, Nat.le_of_ble_eq_true rfl⟩) hK hP hD hS hA (is := [0, 1, 2]) rfl rfl 0 rfl rfl rfl rfl hl.1 rfl (Nat.le_of_ble_eq_true rfl) dL_build_175 ⟨Nat.le_of_ble_eq_true rfl, Nat.le_of_ble_eq_true rfl⟩ rfl (fun H locs hP hD hS => ?_)
            refine lv_ldc (v := (-99999:Int32)) hx hb hown (hts _ kL_build_0) dL_build_178 ?_
            refine lv_icmp_ne (tgt := 199) hx hb dL_build_180 (by decide) (fun c47 => ?_) (fun c47 => ?_)
            · rw [if_neg c47] at hf
              refine lv_iconst (v := (0:Int32)) hx hb dL_build_199 (by decide) ?_
              refine lv_istore_n (lv' := [(3, .int (0:Int32)), (7, .int x45), (6, .int q39.1), (0, .ref (a0 0)), (1, .ref b), (2, .int p2), (5, .int z.2.1)]) hx hb dL_build_200 rfl hl (by decide) rfl (fun ls hl => ?_)
              obtain ⟨x48, ex48, hf⟩ := lt_some hf
              refine lv_iinc (v := x48) (lv' := [(5, .int x48), (3, .int (0:Int32)), (7, .int x45), (6, .int q39.1), (0, .ref (a0 0)), (1, .ref b), (2, .int p2)]) hx hb dL_build_201 hl (k := 6) rfl (by rw [ex48]; rfl) (by decide) rfl (fun ls hl => ?_)
              refine lv_goto (tgt := 116) hx hb dL_build_204 (by decide) ?_
              exact ih _ e1 (lz_l hf hz) H locs ls hP hD hS (lv_sub hl [4, 5, 6, 1, 0] rfl) K
            · rw [if_pos c47] at hf
              refine lv_aload_n hx hb dL_build_183 rfl (lv_at hl 2 rfl) ?_
              refine lv_iload hx hb dL_build_184 (lv_at hl 6 rfl) ?_
              refine lv_iconst (v := (1:Int32)) hx hb dL_build_186 (by decide) ?_
              obtain ⟨q49, hq49, hf⟩ := bd_some hf
              refine g_callVi S (As := [.int z.2.1, .int (1:Int32)]) (gs' := [maW a0 (a1 0) (a2 0) (a3 0) (a4 0) (a7 0 0) (a8 0) (a9 0) (a9 1), stW G a1 q46.2.1, paW G a7 q46.2.2]) (c_X5_member l G a0 a1 a2 a3 a4 a5 a6 a7 a8 a9 a10 a11 q46.2.1 z.2.1 (1:Int32) hq49) (cwV 2 hts gL_build_X5_member rfl rfl rfl hd_X5_member ⟨Nat.le_of_ble_eq_true rfl, Nat.le_of_ble_eq_true rfl⟩) hK hP hD hS hA (is := [0, 1]) rfl rfl 0 rfl rfl rfl rfl hl.1 rfl (Nat.le_of_ble_eq_true rfl) dL_build_187 ⟨Nat.le_of_ble_eq_true rfl, Nat.le_of_ble_eq_true rfl⟩ rfl (fun H locs hP hD hS => ?_)
              refine lv_iload hx hb dL_build_190 (lv_at hl 0 rfl) ?_
              refine lv_icmp_ne (tgt := 199) hx hb dL_build_192 (by decide) (fun c50 => ?_) (fun c50 => ?_)
              · rw [if_neg c50] at hf
                refine lv_iconst (v := (0:Int32)) hx hb dL_build_199 (by decide) ?_
                refine lv_istore_n (lv' := [(3, .int (0:Int32)), (7, .int x45), (6, .int q39.1), (0, .ref (a0 0)), (1, .ref b), (2, .int p2), (5, .int z.2.1)]) hx hb dL_build_200 rfl hl (by decide) rfl (fun ls hl => ?_)
                obtain ⟨x51, ex51, hf⟩ := lt_some hf
                refine lv_iinc (v := x51) (lv' := [(5, .int x51), (3, .int (0:Int32)), (7, .int x45), (6, .int q39.1), (0, .ref (a0 0)), (1, .ref b), (2, .int p2)]) hx hb dL_build_201 hl (k := 6) rfl (by rw [ex51]; rfl) (by decide) rfl (fun ls hl => ?_)
                refine lv_goto (tgt := 116) hx hb dL_build_204 (by decide) ?_
                exact ih _ e1 (lz_l hf hz) H locs ls hP hD hS (lv_sub hl [4, 5, 6, 1, 0] rfl) K
              · rw [if_pos c50] at hf
                refine lv_iconst (v := (1:Int32)) hx hb dL_build_195 (by decide) ?_
                refine lv_goto (tgt := 200) hx hb dL_build_196 (by decide) ?_
                refine lv_istore_n (lv' := [(3, .int (1:Int32)), (7, .int x45), (6, .int q39.1), (0, .ref (a0 0)), (1, .ref b), (2, .int p2), (5, .int z.2.1)]) hx hb dL_build_200 rfl hl (by decide) rfl (fun ls hl => ?_)
                obtain ⟨x52, ex52, hf⟩ := lt_some hf
                refine lv_iinc (v := x52) (lv' := [(5, .int x52), (3, .int (1:Int32)), (7, .int x45), (6, .int q39.1), (0, .ref (a0 0)), (1, .ref b), (2, .int p2)]) hx hb dL_build_201 hl (k := 6) rfl (by rw [ex52]; rfl) (by decide) rfl (fun ls hl => ?_)
                refine lv_goto (tgt := 116) hx hb dL_build_204 (by decide) ?_
                exact ih _ e1 (lz_l hf hz) H locs ls hP hD hS (lv_sub hl [4, 5, 6, 1, 0] rfl) K
set_option maxHeartbeats 4000000 in
set_option maxRecDepth 100000 in
theorem c_L_build (l : Launch) (G : uG) (b : Nat) (a0 : Nat → Nat) (a1 : Nat → Nat) (a2 : Nat → Nat) (a3 : Nat → Nat) (a4 : Nat → Nat) (a5 : Nat → Nat) (a6 : Nat → Nat) (a7 : Nat → Nat → Nat) (a8 : Nat → Nat) (a9 : Nat → Nat) (a10 : Nat → Nat) (a11 : Nat → Nat) (xs : Nat → Int32) (L : Nat) (v1 : StV) (v7 : PaV) (i2 : Int32) {q : Int32 × (StV × PaV)} (hf : f_L_build xs L v1 v7 i2 = some q) : mS l yL_build wsL_build ({ frames := 4, cells := 0, slots := 0, locals := 87 } : Room) b L xs G [.ref (a0 0), .ref b, .int i2] [maW a0 (a1 0) (a2 0) (a3 0) (a4 0) (a7 0 0) (a8 0) (a9 0) (a9 1), stW G a1 v1, paW G a7 v7] [maW a0 (a1 0) (a2 0) (a3 0) (a4 0) (a7 0 0) (a8 0) (a9 0) (a9 1), stW G a1 q.2.1, paW G a7 q.2.2] (qI G [maW a0 (a1 0) (a2 0) (a3 0) (a4 0) (a7 0 0) (a8 0) (a9 0) (a9 1), stW G a1 q.2.1, paW G a7 q.2.2] q.1) := by
  unfold f_L_build at hf
  refine ms_of (cc := cL_build) (maxL := 8) (ret := (some .boolean)) (by decide) rfl rfl (Nat.le_of_ble_eq_true rfl) ?_
  intro p e s m args below meth c A ls S hK hA hX hbl hbA hP hD hS hl
  obtain ⟨hx, hb, hml, hown, hts, hr, hlocks⟩ := id S
  have hl : lv_has ls 8 [(0, .ref (a0 0)), (1, .ref b), (2, .int i2)] := hl
  refine lv_iconst (v := (1:Int32)) hx hb dL_build_0 (by decide) ?_
  refine lv_istore_n (lv' := [(3, .int (1:Int32)), (0, .ref (a0 0)), (1, .ref b), (2, .int i2)]) hx hb dL_build_1 rfl hl (by decide) rfl (fun ls hl => ?_)
  refine lv_aload_n hx hb dL_build_2 rfl (lv_at hl 2 rfl) ?_
  refine lv_iconst (v := (1:Int32)) hx hb dL_build_3 (by decide) ?_
  obtain ⟨q1, hq1, hf⟩ := bd_some hf
  refine g_callSis S (As := [.ref b, .int (1:Int32)]) (gs' := [maW a0 (a1 0) (a2 0) (a3 0) (a4 0) (a7 0 0) (a8 0) (a9 0) (a9 1), stW G a1 v1, paW G a7 v7]) (c_L_cell l G b xs L (1:Int32) hq1) (va_cwS 2 hts gL_build_L_cell rfl rfl rfl hd_L_cell.2 ⟨Nat.le_of_ble_eq_true rfl, Nat.le_of_ble_eq_true rfl⟩) hX hbl hbA hK hP hD hS hA (is := []) rfl rfl rfl hl.1 rfl (Nat.le_of_ble_eq_true rfl) dL_build_4 ⟨Nat.le_of_ble_eq_true rfl, Nat.le_of_ble_eq_true rfl⟩ rfl (fun H locs hP hD hS => ?_)
  refine lv_istore (lv' := [(4, .int q1.1), (3, .int (1:Int32)), (0, .ref (a0 0)), (1, .ref b), (2, .int i2)]) hx hb dL_build_7 hl (by decide) rfl (fun ls hl => ?_)
  refine lv_iconst (v := (0:Int32)) hx hb dL_build_9 (by decide) ?_
  refine lv_istore (lv' := [(5, .int (0:Int32)), (4, .int q1.1), (3, .int (1:Int32)), (0, .ref (a0 0)), (1, .ref b), (2, .int i2)]) hx hb dL_build_10 hl (by decide) rfl (fun ls hl => ?_)
  obtain ⟨e35, he35, hf⟩ := bd_some hf
  refine w_L_build_12 (Q := _) S hK hA G a0 a1 a2 a3 a4 a5 a6 a7 a8 a9 a10 a11 xs L i2 q1.1 hX hbl hbA FU _ e35 he35 _ _ _ hP hD hS (lv_sub hl [3, 4, 5, 2, 1, 0] rfl) (fun H locs ls hP hD hS hl => ?_)
  refine lv_iconst (v := (0:Int32)) hx hb dL_build_113 (by decide) ?_
  refine lv_istore (lv' := [(5, .int (0:Int32)), (0, .ref (a0 0)), (1, .ref b), (2, .int i2), (3, .int e35.1), (4, .int q1.1)]) hx hb dL_build_114 hl (by decide) rfl (fun ls hl => ?_)
  obtain ⟨e53, he53, hf⟩ := bd_some hf
  refine w_L_build_116 (Q := _) S hK hA G a0 a1 a2 a3 a4 a5 a6 a7 a8 a9 a10 a11 xs L i2 hX hbl hbA FU _ e53 he53 _ _ _ hP hD hS (lv_sub hl [1, 2, 3, 4, 0] rfl) (fun H locs ls hP hD hS hl => ?_)
  refine lv_iload_n hx hb dL_build_207 rfl (lv_at hl 3 rfl) ?_
  obtain ⟨h54, hf⟩ := gb_some hf
  cases hf
  exact g_zret hx hb hr h54 hlocks hP hS dL_build_208
set_option maxHeartbeats 4000000 in
set_option maxRecDepth 100000 in
theorem w_L_sum_5 {p : Program} {l : Launch} {e : Env} {s : State} {m : MethodId} {args : Array Value} {below : List Frame} {meth : Method} {c : Code} {A : Nat → Prop} {Q : State → Prop} (S : Ev p s m args meth c cL_sum 5 (some .int) yL_sum.cls wsL_sum) {G : uG} (hK : kK G s) (hA : ∀ q, s.heap.size ≤ q → A q) (_ : uG) (a0 : Nat → Nat) (a1 : Nat → Nat) (a2 : Nat → Nat) (a3 : Nat → Nat) (a4 : Nat → Nat) (a5 : Nat → Nat) (a6 : Nat → Nat) (a7 : Nat → Nat → Nat) (a8 : Nat → Nat) (a9 : Nat → Nat) (a10 : Nat → Nat) (a11 : Nat → Nat) (v1 : StV) (p1 : Int32) (p2 : Int32) : ∀ (n : Nat) (z : (Int32 × Int32)) (e1 : (Int32 × Int32)), lp (b_L_sum_5 v1 p1 p2) n z = some e1 → ∀ (H : Heap) (locs : List Loc) (ls : Array Slot), gP G [maW a0 (a1 0) (a2 0) (a3 0) (a4 0) (a7 0 0) (a8 0) (a9 0) (a9 1), stW G a1 v1] H → gD A [maW a0 (a1 0) (a2 0) (a3 0) (a4 0) (a7 0 0) (a8 0) (a9 0) (a9 1), stW G a1 v1] → va_S A s.heap H locs → lv_has ls 5 [(0, .ref (a0 0)), (1, .int p1), (2, .int p2), (3, .int z.1), (4, .int z.2)] → (∀ (H : Heap) (locs : List Loc) (ls : Array Slot), gP G [maW a0 (a1 0) (a2 0) (a3 0) (a4 0) (a7 0 0) (a8 0) (a9 0) (a9 1), stW G a1 v1] H → gD A [maW a0 (a1 0) (a2 0) (a3 0) (a4 0) (a7 0 0) (a8 0) (a9 0) (a9 1), stW G a1 v1] → va_S A s.heap H locs → lv_has ls 5 [(0, .ref (a0 0)), (1, .int p1), (2, .int p2), (3, .int e1.1), (4, .int e1.2)] → W p l e ({ frames := 3, cells := 0, slots := 0, locals := 64 } : Room) s m args below meth c H locs 0 0 Q (F0 m 27 ls [])) → W p l e ({ frames := 3, cells := 0, slots := 0, locals := 64 } : Room) s m args below meth c H locs 0 0 Q (F0 m 5 ls []) := by
  obtain ⟨hx, hb, hml, hown, hts, hr, hlocks⟩ := id S
  intro n
  induction n with
  | zero => intro z e1 h; cases h
  | succ n ih =>
    intro z e1 hlp H locs ls hP hD hS hl K
    obtain ⟨z9, hf, hz⟩ := lp_s hlp
    unfold b_L_sum_5 at hf
    refine lv_iload hx hb dL_sum_5 (lv_at hl 4 rfl) ?_
    refine lv_iload_n hx hb dL_sum_7 rfl (lv_at hl 1 rfl) ?_
    refine lv_icmp_ge (tgt := 27) hx hb dL_sum_8 (by decide) (fun c1 => ?_) (fun c1 => ?_)
    · rw [if_pos c1] at hf
      have he := lz_r hf hz
      subst he
      exact K H locs ls hP hD hS (lv_sub hl [0, 1, 2, 3, 4] rfl)
    · rw [if_neg c1] at hf
      refine lv_iload_n hx hb dL_sum_11 rfl (lv_at hl 3 rfl) ?_
      refine lv_aload_n hx hb dL_sum_12 rfl (lv_at hl 0 rfl) ?_
      refine lv_iload hx hb dL_sum_13 (lv_at hl 4 rfl) ?_
      refine lv_iload_n hx hb dL_sum_15 rfl (lv_at hl 2 rfl) ?_
      obtain ⟨q2, hq2, hf⟩ := bd_some hf
      refine g_callVi S (As := [.int z.2, .int p2]) (gs' := [maW a0 (a1 0) (a2 0) (a3 0) (a4 0) (a7 0 0) (a8 0) (a9 0) (a9 1), stW G a1 v1]) (c_X5_member l G a0 a1 a2 a3 a4 a5 a6 a7 a8 a9 a10 a11 v1 z.2 p2 hq2) (cwV 2 hts gL_sum_X5_member rfl rfl rfl hd_X5_member ⟨Nat.le_of_ble_eq_true rfl, Nat.le_of_ble_eq_true rfl⟩) hK hP hD hS hA (is := [0, 1]) rfl rfl 0 rfl rfl rfl rfl hl.1 rfl (Nat.le_of_ble_eq_true rfl) dL_sum_16 ⟨Nat.le_of_ble_eq_true rfl, Nat.le_of_ble_eq_true rfl⟩ rfl (fun H locs hP hD hS => ?_)
      refine lv_iadd hx hb dL_sum_19 ?_
      obtain ⟨x3, ex3, hf⟩ := lt_some hf
      refine lv_nmi ex3 ?_
      refine lv_istore_n (lv' := [(3, .int x3), (0, .ref (a0 0)), (1, .int p1), (2, .int p2), (4, .int z.2)]) hx hb dL_sum_20 rfl hl (by decide) rfl (fun ls hl => ?_)
      obtain ⟨x4, ex4, hf⟩ := lt_some hf
      refine lv_iinc (v := x4) (lv' := [(4, .int x4), (3, .int x3), (0, .ref (a0 0)), (1, .int p1), (2, .int p2)]) hx hb dL_sum_21 hl (k := 4) rfl (by rw [ex4]; rfl) (by decide) rfl (fun ls hl => ?_)
      refine lv_goto (tgt := 5) hx hb dL_sum_24 (by decide) ?_
      exact ih _ e1 (lz_l hf hz) H locs ls hP hD hS (lv_sub hl [2, 3, 4, 1, 0] rfl) K
set_option maxHeartbeats 4000000 in
set_option maxRecDepth 100000 in
theorem c_L_sum (l : Launch) (G : uG) (a0 : Nat → Nat) (a1 : Nat → Nat) (a2 : Nat → Nat) (a3 : Nat → Nat) (a4 : Nat → Nat) (a5 : Nat → Nat) (a6 : Nat → Nat) (a7 : Nat → Nat → Nat) (a8 : Nat → Nat) (a9 : Nat → Nat) (a10 : Nat → Nat) (a11 : Nat → Nat) (v1 : StV) (i1 : Int32) (i2 : Int32) {q : Int32 × (Unit)} (hf : f_L_sum v1 i1 i2 = some q) : mQ l yL_sum wsL_sum ({ frames := 3, cells := 0, slots := 0, locals := 64 } : Room) G [.ref (a0 0), .int i1, .int i2] [maW a0 (a1 0) (a2 0) (a3 0) (a4 0) (a7 0 0) (a8 0) (a9 0) (a9 1), stW G a1 v1] [maW a0 (a1 0) (a2 0) (a3 0) (a4 0) (a7 0 0) (a8 0) (a9 0) (a9 1), stW G a1 v1] (qI G [maW a0 (a1 0) (a2 0) (a3 0) (a4 0) (a7 0 0) (a8 0) (a9 0) (a9 1), stW G a1 v1] q.1) := by
  unfold f_L_sum at hf
  refine m_of (cc := cL_sum) (maxL := 5) (ret := (some .int)) (by decide) rfl rfl (Nat.le_of_ble_eq_true rfl) ?_
  intro p e s m args below meth c A ls S hK hA hP hD hS hl
  obtain ⟨hx, hb, hml, hown, hts, hr, hlocks⟩ := id S
  have hl : lv_has ls 5 [(0, .ref (a0 0)), (1, .int i1), (2, .int i2)] := hl
  refine lv_iconst (v := (0:Int32)) hx hb dL_sum_0 (by decide) ?_
  refine lv_istore_n (lv' := [(3, .int (0:Int32)), (0, .ref (a0 0)), (1, .int i1), (2, .int i2)]) hx hb dL_sum_1 rfl hl (by decide) rfl (fun ls hl => ?_)
  refine lv_iconst (v := (0:Int32)) hx hb dL_sum_2 (by decide) ?_
  refine lv_istore (lv' := [(4, .int (0:Int32)), (3, .int (0:Int32)), (0, .ref (a0 0)), (1, .int i1), (2, .int i2)]) hx hb dL_sum_3 hl (by decide) rfl (fun ls hl => ?_)
  obtain ⟨e5, he5, hf⟩ := bd_some hf
  refine w_L_sum_5 (Q := _) S hK hA G a0 a1 a2 a3 a4 a5 a6 a7 a8 a9 a10 a11 v1 i1 i2 FU _ e5 he5 _ _ _ hP hD hS (lv_sub hl [2, 3, 4, 1, 0] rfl) (fun H locs ls hP hD hS hl => ?_)
  refine lv_iload_n hx hb dL_sum_27 rfl (lv_at hl 3 rfl) ?_
  cases hf
  exact g_iret hx hb hr hlocks hP hS dL_sum_28
theorem kL_addUp_0 : Cond.constant RL 29 (-99999) ∈ wsL_addUp := (List.mem_cons_of_mem _ (List.mem_append_left _ (List.mem_append_left _ (List.mem_append_left _ (List.mem_append_left _ (List.mem_append_left _ (List.mem_of_getElem? (i := 0) rfl)))))))
set_option maxHeartbeats 4000000 in
set_option maxRecDepth 100000 in
theorem w_L_addUp_16 {p : Program} {l : Launch} {e : Env} {s : State} {m : MethodId} {args : Array Value} {below : List Frame} {meth : Method} {c : Code} {A : Nat → Prop} {Q : State → Prop} (S : Ev p s m args meth c cL_addUp 7 (some .boolean) yL_addUp.cls wsL_addUp) {G : uG} (hK : kK G s) (hA : ∀ q, s.heap.size ≤ q → A q) (_ : uG) (a0 : Nat → Nat) (a1 : Nat → Nat) (a2 : Nat → Nat) (a3 : Nat → Nat) (a4 : Nat → Nat) (a5 : Nat → Nat) (a6 : Nat → Nat) (a7 : Nat → Nat → Nat) (a8 : Nat → Nat) (a9 : Nat → Nat) (a10 : Nat → Nat) (a11 : Nat → Nat) (v1 : StV) (p1 : Int32) (p3 : Int32) (p4 : Int32) : ∀ (n : Nat) (z : (Int32 × Int32)) (e1 : (Int32 × Int32)), lp (b_L_addUp_16 v1 p1 p3 p4) n z = some e1 → ∀ (H : Heap) (locs : List Loc) (ls : Array Slot), gP G [maW a0 (a1 0) (a2 0) (a3 0) (a4 0) (a7 0 0) (a8 0) (a9 0) (a9 1), stW G a1 v1] H → gD A [maW a0 (a1 0) (a2 0) (a3 0) (a4 0) (a7 0 0) (a8 0) (a9 0) (a9 1), stW G a1 v1] → va_S A s.heap H locs → lv_has ls 7 [(0, .ref (a0 0)), (1, .int p1), (2, .int z.1), (3, .int p3), (4, .int p4), (5, .int z.2)] → (∀ (H : Heap) (locs : List Loc) (ls : Array Slot), gP G [maW a0 (a1 0) (a2 0) (a3 0) (a4 0) (a7 0 0) (a8 0) (a9 0) (a9 1), stW G a1 v1] H → gD A [maW a0 (a1 0) (a2 0) (a3 0) (a4 0) (a7 0 0) (a8 0) (a9 0) (a9 1), stW G a1 v1] → va_S A s.heap H locs → lv_has ls 7 [(0, .ref (a0 0)), (1, .int p1), (2, .int e1.1), (3, .int p3), (4, .int p4), (5, .int e1.2)] → W p l e ({ frames := 4, cells := 0, slots := 0, locals := 88 } : Room) s m args below meth c H locs 0 0 Q (F0 m 50 ls [])) → W p l e ({ frames := 4, cells := 0, slots := 0, locals := 88 } : Room) s m args below meth c H locs 0 0 Q (F0 m 16 ls []) := by
  obtain ⟨hx, hb, hml, hown, hts, hr, hlocks⟩ := id S
  intro n
  induction n with
  | zero => intro z e1 h; cases h
  | succ n ih =>
    intro z e1 hlp H locs ls hP hD hS hl K
    obtain ⟨z9, hf, hz⟩ := lp_s hlp
    unfold b_L_addUp_16 at hf
    refine lv_iload hx hb dL_addUp_16 (lv_at hl 5 rfl) ?_
    refine lv_iload_n hx hb dL_addUp_18 rfl (lv_at hl 1 rfl) ?_
    refine lv_icmp_ge (tgt := 50) hx hb dL_addUp_19 (by decide) (fun c2 => ?_) (fun c2 => ?_)
    · rw [if_pos c2] at hf
      have he := lz_r hf hz
      subst he
      exact K H locs ls hP hD hS (lv_sub hl [0, 1, 2, 3, 4, 5] rfl)
    · rw [if_neg c2] at hf
      refine lv_iload_n hx hb dL_addUp_22 rfl (lv_at hl 2 rfl) ?_
      refine lv_iload hx hb dL_addUp_23 (lv_at hl 4 rfl) ?_
      refine lv_iload hx hb dL_addUp_25 (lv_at hl 5 rfl) ?_
      refine lv_icmp_ne (tgt := 34) hx hb dL_addUp_27 (by decide) (fun c3 => ?_) (fun c3 => ?_)
      · rw [if_neg c3] at hf
        refine lv_aload_n hx hb dL_addUp_34 rfl (lv_at hl 0 rfl) ?_
        refine lv_iload hx hb dL_addUp_35 (lv_at hl 4 rfl) ?_
        refine lv_iload hx hb dL_addUp_37 (lv_at hl 5 rfl) ?_
        obtain ⟨q4, hq4, hf⟩ := bd_some hf
        refine g_callVi S (As := [.int p4, .int z.2]) (gs' := [maW a0 (a1 0) (a2 0) (a3 0) (a4 0) (a7 0 0) (a8 0) (a9 0) (a9 1), stW G a1 v1]) (c_X5_owes l G a0 a1 a2 a3 a4 a5 a6 a7 a8 a9 a10 a11 v1 p4 z.2 hq4) (cwV 2 hts gL_addUp_X5_owes rfl rfl rfl hd_X5_owes ⟨Nat.le_of_ble_eq_true rfl, Nat.le_of_ble_eq_true rfl⟩) hK hP hD hS hA (is := [0, 1]) rfl rfl 0 rfl rfl rfl rfl hl.1 rfl (Nat.le_of_ble_eq_true rfl) dL_addUp_39 ⟨Nat.le_of_ble_eq_true rfl, Nat.le_of_ble_eq_true rfl⟩ rfl (fun H locs hP hD hS => ?_)
        refine lv_iadd hx hb dL_addUp_42 ?_
        obtain ⟨x5, ex5, hf⟩ := lt_some hf
        refine lv_nmi ex5 ?_
        refine lv_istore_n (lv' := [(2, .int x5), (0, .ref (a0 0)), (1, .int p1), (3, .int p3), (4, .int p4), (5, .int z.2)]) hx hb dL_addUp_43 rfl hl (by decide) rfl (fun ls hl => ?_)
        obtain ⟨x6, ex6, hf⟩ := lt_some hf
        refine lv_iinc (v := x6) (lv' := [(5, .int x6), (2, .int x5), (0, .ref (a0 0)), (1, .int p1), (3, .int p3), (4, .int p4)]) hx hb dL_addUp_44 hl (k := 5) rfl (by rw [ex6]; rfl) (by decide) rfl (fun ls hl => ?_)
        refine lv_goto (tgt := 16) hx hb dL_addUp_47 (by decide) ?_
        exact ih _ e1 (lz_l hf hz) H locs ls hP hD hS (lv_sub hl [2, 3, 1, 4, 5, 0] rfl) K
      · rw [if_pos c3] at hf
        refine lv_iconst (v := (0:Int32)) hx hb dL_addUp_30 (by decide) ?_
        refine lv_goto (tgt := 42) hx hb dL_addUp_31 (by decide) ?_
        refine lv_iadd hx hb dL_addUp_42 ?_
        obtain ⟨x7, ex7, hf⟩ := lt_some hf
        refine lv_nmi ex7 ?_
        refine lv_istore_n (lv' := [(2, .int x7), (0, .ref (a0 0)), (1, .int p1), (3, .int p3), (4, .int p4), (5, .int z.2)]) hx hb dL_addUp_43 rfl hl (by decide) rfl (fun ls hl => ?_)
        obtain ⟨x8, ex8, hf⟩ := lt_some hf
        refine lv_iinc (v := x8) (lv' := [(5, .int x8), (2, .int x7), (0, .ref (a0 0)), (1, .int p1), (3, .int p3), (4, .int p4)]) hx hb dL_addUp_44 hl (k := 5) rfl (by rw [ex8]; rfl) (by decide) rfl (fun ls hl => ?_)
        refine lv_goto (tgt := 16) hx hb dL_addUp_47 (by decide) ?_
        exact ih _ e1 (lz_l hf hz) H locs ls hP hD hS (lv_sub hl [2, 3, 1, 4, 5, 0] rfl) K
set_option maxHeartbeats 4000000 in
set_option maxRecDepth 100000 in
theorem w_L_addUp_7 {p : Program} {l : Launch} {e : Env} {s : State} {m : MethodId} {args : Array Value} {below : List Frame} {meth : Method} {c : Code} {A : Nat → Prop} {q : Int32 × (Unit)} (S : Ev p s m args meth c cL_addUp 7 (some .boolean) yL_addUp.cls wsL_addUp) {G : uG} (hK : kK G s) (hA : ∀ q, s.heap.size ≤ q → A q) (_ : uG) (a0 : Nat → Nat) (a1 : Nat → Nat) (a2 : Nat → Nat) (a3 : Nat → Nat) (a4 : Nat → Nat) (a5 : Nat → Nat) (a6 : Nat → Nat) (a7 : Nat → Nat → Nat) (a8 : Nat → Nat) (a9 : Nat → Nat) (a10 : Nat → Nat) (a11 : Nat → Nat) (v1 : StV) (p1 : Int32) : ∀ (n : Nat) (z : (Int32 × Int32 × Int32)) (e1 : ((Int32 × Int32 × Int32) ⊕ (Int32 × (Unit)))) (_ : ∀ r, e1 = Sum.inr r → r = q), lp (b_L_addUp_7 v1 p1) n z = some e1 → ∀ (H : Heap) (locs : List Loc) (ls : Array Slot), gP G [maW a0 (a1 0) (a2 0) (a3 0) (a4 0) (a7 0 0) (a8 0) (a9 0) (a9 1), stW G a1 v1] H → gD A [maW a0 (a1 0) (a2 0) (a3 0) (a4 0) (a7 0 0) (a8 0) (a9 0) (a9 1), stW G a1 v1] → va_S A s.heap H locs → lv_has ls 7 [(0, .ref (a0 0)), (1, .int p1), (2, .int z.1), (3, .int z.2.1), (4, .int z.2.2)] → (∀ (s1 : (Int32 × Int32 × Int32)), e1 = .inl s1 → ∀ (H : Heap) (locs : List Loc) (ls : Array Slot), gP G [maW a0 (a1 0) (a2 0) (a3 0) (a4 0) (a7 0 0) (a8 0) (a9 0) (a9 1), stW G a1 v1] H → gD A [maW a0 (a1 0) (a2 0) (a3 0) (a4 0) (a7 0 0) (a8 0) (a9 0) (a9 1), stW G a1 v1] → va_S A s.heap H locs → lv_has ls 7 [(0, .ref (a0 0)), (1, .int p1), (2, .int s1.1), (3, .int s1.2.1), (4, .int s1.2.2)] → W p l e ({ frames := 4, cells := 0, slots := 0, locals := 88 } : Room) s m args below meth c H locs 0 0 (MQ below (qI G [maW a0 (a1 0) (a2 0) (a3 0) (a4 0) (a7 0 0) (a8 0) (a9 0) (a9 1), stW G a1 v1] q.1 A) args s 0 0 A) (F0 m 152 ls [])) → W p l e ({ frames := 4, cells := 0, slots := 0, locals := 88 } : Room) s m args below meth c H locs 0 0 (MQ below (qI G [maW a0 (a1 0) (a2 0) (a3 0) (a4 0) (a7 0 0) (a8 0) (a9 0) (a9 1), stW G a1 v1] q.1 A) args s 0 0 A) (F0 m 7 ls []) := by
  obtain ⟨hx, hb, hml, hown, hts, hr, hlocks⟩ := id S
  intro n
  induction n with
  | zero => intro z e1 hE h; cases h
  | succ n ih =>
    intro z e1 hE hlp H locs ls hP hD hS hl K
    obtain ⟨z9, hf, hz⟩ := lp_s hlp
    unfold b_L_addUp_7 at hf
    refine lv_iload hx hb dL_addUp_7 (lv_at hl 4 rfl) ?_
    refine lv_iload_n hx hb dL_addUp_9 rfl (lv_at hl 1 rfl) ?_
    refine lv_icmp_ge (tgt := 152) hx hb dL_addUp_10 (by decide) (fun c1 => ?_) (fun c1 => ?_)
    · rw [if_pos c1] at hf
      have he := lz_r hf hz
      exact K _ he.symm H locs ls hP hD hS (lv_sub hl [0, 1, 2, 3, 4] rfl)
    · rw [if_neg c1] at hf
      refine lv_iconst (v := (0:Int32)) hx hb dL_addUp_13 (by decide) ?_
      refine lv_istore (lv' := [(5, .int (0:Int32)), (0, .ref (a0 0)), (1, .int p1), (2, .int z.1), (3, .int z.2.1), (4, .int z.2.2)]) hx hb dL_addUp_14 hl (by decide) rfl (fun ls hl => ?_)
      obtain ⟨e9, he9, hf⟩ := bd_some hf
      refine w_L_addUp_16 (Q := _) S hK hA G a0 a1 a2 a3 a4 a5 a6 a7 a8 a9 a10 a11 v1 p1 z.2.1 z.2.2 FU _ e9 he9 _ _ _ hP hD hS (lv_sub hl [1, 2, 3, 4, 5, 0] rfl) (fun H locs ls hP hD hS hl => ?_)
      refine lv_iload_n hx hb dL_addUp_50 rfl (lv_at hl 3 rfl) ?_
      refine lv_aload_n hx hb dL_addUp_51 rfl (lv_at hl 0 rfl) ?_
      refine lv_iload hx hb dL_addUp_52 (lv_at hl 4 rfl) ?_
      refine lv_iconst (v := (5:Int32)) hx hb dL_addUp_54 (by decide) ?_
      obtain ⟨q10, hq10, hf⟩ := bd_some hf
      refine g_callVi S (As := [.int z.2.2, .int (5:Int32)]) (gs' := [maW a0 (a1 0) (a2 0) (a3 0) (a4 0) (a7 0 0) (a8 0) (a9 0) (a9 1), stW G a1 v1]) (c_X5_member l G a0 a1 a2 a3 a4 a5 a6 a7 a8 a9 a10 a11 v1 z.2.2 (5:Int32) hq10) (cwV 2 hts gL_addUp_X5_member rfl rfl rfl hd_X5_member ⟨Nat.le_of_ble_eq_true rfl, Nat.le_of_ble_eq_true rfl⟩) hK hP hD hS hA (is := [0, 1]) rfl rfl 0 rfl rfl rfl rfl hl.1 rfl (Nat.le_of_ble_eq_true rfl) dL_addUp_55 ⟨Nat.le_of_ble_eq_true rfl, Nat.le_of_ble_eq_true rfl⟩ rfl (fun H locs hP hD hS => ?_)
      refine lv_iconst (v := (1:Int32)) hx hb dL_addUp_58 (by decide) ?_
      refine lv_icmp_ne (tgt := 76) hx hb dL_addUp_59 (by decide) (fun c11 => ?_) (fun c11 => ?_)
      · rw [if_neg c11] at hf
        refine lv_iconst (v := (0:Int32)) hx hb dL_addUp_76 (by decide) ?_
        refine lv_iadd hx hb dL_addUp_77 ?_
        obtain ⟨x12, ex12, hf⟩ := lt_some hf
        refine lv_nmi ex12 ?_
        refine lv_istore_n (lv' := [(3, .int x12), (0, .ref (a0 0)), (1, .int p1), (2, .int e9.1), (4, .int z.2.2), (5, .int e9.2)]) hx hb dL_addUp_78 rfl hl (by decide) rfl (fun ls hl => ?_)
        refine lv_aload_n hx hb dL_addUp_79 rfl (lv_at hl 1 rfl) ?_
        refine lv_iload hx hb dL_addUp_80 (lv_at hl 4 rfl) ?_
        obtain ⟨q13, hq13, hf⟩ := bd_some hf
        refine g_callVi S (As := [.int z.2.2]) (gs' := [maW a0 (a1 0) (a2 0) (a3 0) (a4 0) (a7 0 0) (a8 0) (a9 0) (a9 1), stW G a1 v1]) (c_X5_chain l G a0 a1 a2 a3 a4 a5 a6 a7 a8 a9 a10 a11 v1 z.2.2 hq13) (cwV 1 hts gL_addUp_X5_chain rfl rfl rfl hd_X5_chain ⟨Nat.le_of_ble_eq_true rfl, Nat.le_of_ble_eq_true rfl⟩) hK hP hD hS hA (is := [0, 1]) rfl rfl 0 rfl rfl rfl rfl hl.1 rfl (Nat.le_of_ble_eq_true rfl) dL_addUp_82 ⟨Nat.le_of_ble_eq_true rfl, Nat.le_of_ble_eq_true rfl⟩ rfl (fun H locs hP hD hS => ?_)
        refine lv_istore (lv' := [(5, .int q13.1), (3, .int x12), (0, .ref (a0 0)), (1, .int p1), (2, .int e9.1), (4, .int z.2.2)]) hx hb dL_addUp_85 hl (by decide) rfl (fun ls hl => ?_)
        refine lv_aload_n hx hb dL_addUp_87 rfl (lv_at hl 2 rfl) ?_
        refine lv_iload hx hb dL_addUp_88 (lv_at hl 5 rfl) ?_
        refine lv_iconst (v := (1:Int32)) hx hb dL_addUp_90 (by decide) ?_
        obtain ⟨q14, hq14, hf⟩ := bd_some hf
        refine g_callVi S (As := [.int z.2.2, .int (1:Int32)]) (gs' := [maW a0 (a1 0) (a2 0) (a3 0) (a4 0) (a7 0 0) (a8 0) (a9 0) (a9 1), stW G a1 v1]) (c_X5_member l G a0 a1 a2 a3 a4 a5 a6 a7 a8 a9 a10 a11 v1 z.2.2 (1:Int32) hq14) (cwV 2 hts gL_addUp_X5_member rfl rfl rfl hd_X5_member ⟨Nat.le_of_ble_eq_true rfl, Nat.le_of_ble_eq_true rfl⟩) hK hP hD hS hA (is := [0, 1]) rfl rfl 0 rfl rfl rfl rfl hl.1 rfl (Nat.le_of_ble_eq_true rfl) dL_addUp_91 ⟨Nat.le_of_ble_eq_true rfl, Nat.le_of_ble_eq_true rfl⟩ rfl (fun H locs hP hD hS => ?_)
        refine lv_istore (lv' := [(6, .int q14.1), (5, .int q13.1), (3, .int x12), (0, .ref (a0 0)), (1, .int p1), (2, .int e9.1), (4, .int z.2.2)]) hx hb dL_addUp_94 hl (by decide) rfl (fun ls hl => ?_)
        refine lv_aload_n hx hb dL_addUp_96 rfl (lv_at hl 3 rfl) ?_
        refine lv_iload hx hb dL_addUp_97 (lv_at hl 6 rfl) ?_
        refine lv_iconst (v := (0:Int32)) hx hb dL_addUp_99 (by decide) ?_
        obtain ⟨q15, hq15, hf⟩ := bd_some hf
        refine g_callVi S (As := [.int z.2.2, .int (0:Int32)]) (gs' := [maW a0 (a1 0) (a2 0) (a3 0) (a4 0) (a7 0 0) (a8 0) (a9 0) (a9 1), stW G a1 v1]) (c_X5_member l G a0 a1 a2 a3 a4 a5 a6 a7 a8 a9 a10 a11 v1 z.2.2 (0:Int32) hq15) (cwV 2 hts gL_addUp_X5_member rfl rfl rfl hd_X5_member ⟨Nat.le_of_ble_eq_true rfl, Nat.le_of_ble_eq_true rfl⟩) hK hP hD hS hA (is := [0, 1]) rfl rfl 0 rfl rfl rfl rfl hl.1 rfl (Nat.le_of_ble_eq_true rfl) dL_addUp_100 ⟨Nat.le_of_ble_eq_true rfl, Nat.le_of_ble_eq_true rfl⟩ rfl (fun H locs hP hD hS => ?_)
        refine lv_if_lt (tgt := 144) hx hb dL_addUp_103 (by decide) (fun c16 => ?_) (fun c16 => ?_)
        · rw [if_pos c16] at hf
          refine lv_iconst (v := (0:Int32)) hx hb dL_addUp_144 (by decide) ?_
          have he := lz_r hf hz
          have hq := hE _ he.symm
          subst hq
          exact g_zret hx hb hr gz0 hlocks hP hS dL_addUp_145
        · rw [if_neg c16] at hf
          refine lv_iload hx hb dL_addUp_106 (lv_at hl 1 rfl) ?_
          refine lv_iconst (v := (1:Int32)) hx hb dL_addUp_108 (by decide) ?_
          refine lv_icmp_lt (tgt := 144) hx hb dL_addUp_109 (by decide) (fun c17 => ?_) (fun c17 => ?_)
          · rw [if_pos c17] at hf
            refine lv_iconst (v := (0:Int32)) hx hb dL_addUp_144 (by decide) ?_
            have he := lz_r hf hz
            have hq := hE _ he.symm
            subst hq
            exact g_zret hx hb hr gz0 hlocks hP hS dL_addUp_145
          · rw [if_neg c17] at hf
            refine lv_iload hx hb dL_addUp_112 (lv_at hl 1 rfl) ?_
            refine lv_iload_n hx hb dL_addUp_114 rfl (lv_at hl 4 rfl) ?_
            refine lv_icmp_gt (tgt := 144) hx hb dL_addUp_115 (by decide) (fun c18 => ?_) (fun c18 => ?_)
            · rw [if_pos c18] at hf
              refine lv_iconst (v := (0:Int32)) hx hb dL_addUp_144 (by decide) ?_
              have he := lz_r hf hz
              have hq := hE _ he.symm
              subst hq
              exact g_zret hx hb hr gz0 hlocks hP hS dL_addUp_145
            · rw [if_neg c18] at hf
              refine lv_iload hx hb dL_addUp_118 (lv_at hl 0 rfl) ?_
              refine lv_ldc (v := (-99999:Int32)) hx hb hown (hts _ kL_addUp_0) dL_addUp_120 ?_
              refine lv_icmp_ne (tgt := 129) hx hb dL_addUp_122 (by decide) (fun c19 => ?_) (fun c19 => ?_)
              · rw [if_neg c19] at hf
                refine lv_iconst (v := (0:Int32)) hx hb dL_addUp_129 (by decide) ?_
                refine lv_iload hx hb dL_addUp_130 (lv_at hl 1 rfl) ?_
                refine lv_iconst (v := (1:Int32)) hx hb dL_addUp_132 (by decide) ?_
                refine lv_icmp_ne (tgt := 140) hx hb dL_addUp_133 (by decide) (fun c20 => ?_) (fun c20 => ?_)
                · rw [if_neg c20] at hf
                  refine lv_iconst (v := (0:Int32)) hx hb dL_addUp_140 (by decide) ?_
                  refine lv_icmp_eq (tgt := 146) hx hb dL_addUp_141 (by decide) (fun c21 => ?_) (fun c21 => ?_)
                  · rw [if_pos c21] at hf
                    obtain ⟨x22, ex22, hf⟩ := lt_some hf
                    refine lv_iinc (v := x22) (lv' := [(4, .int x22), (6, .int q14.1), (5, .int q13.1), (3, .int x12), (0, .ref (a0 0)), (1, .int p1), (2, .int e9.1)]) hx hb dL_addUp_146 hl (k := 6) rfl (by rw [ex22]; rfl) (by decide) rfl (fun ls hl => ?_)
                    refine lv_goto (tgt := 7) hx hb dL_addUp_149 (by decide) ?_
                    exact ih _ e1 hE (lz_l hf hz) H locs ls hP hD hS (lv_sub hl [4, 5, 6, 3, 0] rfl) K
                  · rw [if_neg c21] at hf
                    refine lv_iconst (v := (0:Int32)) hx hb dL_addUp_144 (by decide) ?_
                    have he := lz_r hf hz
                    have hq := hE _ he.symm
                    subst hq
                    exact g_zret hx hb hr gz0 hlocks hP hS dL_addUp_145
                · rw [if_pos c20] at hf
                  refine lv_iconst (v := (1:Int32)) hx hb dL_addUp_136 (by decide) ?_
                  refine lv_goto (tgt := 141) hx hb dL_addUp_137 (by decide) ?_
                  refine lv_icmp_eq (tgt := 146) hx hb dL_addUp_141 (by decide) (fun c23 => ?_) (fun c23 => ?_)
                  · rw [if_pos c23] at hf
                    obtain ⟨x24, ex24, hf⟩ := lt_some hf
                    refine lv_iinc (v := x24) (lv' := [(4, .int x24), (6, .int q14.1), (5, .int q13.1), (3, .int x12), (0, .ref (a0 0)), (1, .int p1), (2, .int e9.1)]) hx hb dL_addUp_146 hl (k := 6) rfl (by rw [ex24]; rfl) (by decide) rfl (fun ls hl => ?_)
                    refine lv_goto (tgt := 7) hx hb dL_addUp_149 (by decide) ?_
                    exact ih _ e1 hE (lz_l hf hz) H locs ls hP hD hS (lv_sub hl [4, 5, 6, 3, 0] rfl) K
                  · rw [if_neg c23] at hf
                    refine lv_iconst (v := (0:Int32)) hx hb dL_addUp_144 (by decide) ?_
                    have he := lz_r hf hz
                    have hq := hE _ he.symm
                    subst hq
                    exact g_zret hx hb hr gz0 hlocks hP hS dL_addUp_145
              · rw [if_pos c19] at hf
                refine lv_iconst (v := (1:Int32)) hx hb dL_addUp_125 (by decide) ?_
                refine lv_goto (tgt := 130) hx hb dL_addUp_126 (by decide) ?_
                refine lv_iload hx hb dL_addUp_130 (lv_at hl 1 rfl) ?_
                refine lv_iconst (v := (1:Int32)) hx hb dL_addUp_132 (by decide) ?_
                refine lv_icmp_ne (tgt := 140) hx hb dL_addUp_133 (by decide) (fun c25 => ?_) (fun c25 => ?_)
                · rw [if_neg c25] at hf
                  refine lv_iconst (v := (0:Int32)) hx hb dL_addUp_140 (by decide) ?_
                  refine lv_icmp_eq (tgt := 146) hx hb dL_addUp_141 (by decide) (fun c26 => ?_) (fun c26 => ?_)
                  · rw [if_pos c26] at hf
                    obtain ⟨x27, ex27, hf⟩ := lt_some hf
                    refine lv_iinc (v := x27) (lv' := [(4, .int x27), (6, .int q14.1), (5, .int q13.1), (3, .int x12), (0, .ref (a0 0)), (1, .int p1), (2, .int e9.1)]) hx hb dL_addUp_146 hl (k := 6) rfl (by rw [ex27]; rfl) (by decide) rfl (fun ls hl => ?_)
                    refine lv_goto (tgt := 7) hx hb dL_addUp_149 (by decide) ?_
                    exact ih _ e1 hE (lz_l hf hz) H locs ls hP hD hS (lv_sub hl [4, 5, 6, 3, 0] rfl) K
                  · rw [if_neg c26] at hf
                    refine lv_iconst (v := (0:Int32)) hx hb dL_addUp_144 (by decide) ?_
                    have he := lz_r hf hz
                    have hq := hE _ he.symm
                    subst hq
                    exact g_zret hx hb hr gz0 hlocks hP hS dL_addUp_145
                · rw [if_pos c25] at hf
                  refine lv_iconst (v := (1:Int32)) hx hb dL_addUp_136 (by decide) ?_
                  refine lv_goto (tgt := 141) hx hb dL_addUp_137 (by decide) ?_
                  refine lv_icmp_eq (tgt := 146) hx hb dL_addUp_141 (by decide) (fun c28 => ?_) (fun c28 => ?_)
                  · rw [if_pos c28] at hf
                    obtain ⟨x29, ex29, hf⟩ := lt_some hf
                    refine lv_iinc (v := x29) (lv' := [(4, .int x29), (6, .int q14.1), (5, .int q13.1), (3, .int x12), (0, .ref (a0 0)), (1, .int p1), (2, .int e9.1)]) hx hb dL_addUp_146 hl (k := 6) rfl (by rw [ex29]; rfl) (by decide) rfl (fun ls hl => ?_)
                    refine lv_goto (tgt := 7) hx hb dL_addUp_149 (by decide) ?_
                    exact ih _ e1 hE (lz_l hf hz) H locs ls hP hD hS (lv_sub hl [4, 5, 6, 3, 0] rfl) K
                  · rw [if_neg c28] at hf
                    refine lv_iconst (v := (0:Int32)) hx hb dL_addUp_144 (by decide) ?_
                    have he := lz_r hf hz
                    have hq := hE _ he.symm
                    subst hq
                    exact g_zret hx hb hr gz0 hlocks hP hS dL_addUp_145
      · rw [if_pos c11] at hf
        refine lv_aload_n hx hb dL_addUp_62 rfl (lv_at hl 0 rfl) ?_
        refine lv_iload hx hb dL_addUp_63 (lv_at hl 4 rfl) ?_
        refine lv_iconst (v := (4:Int32)) hx hb dL_addUp_65 (by decide) ?_
        obtain ⟨q30, hq30, hf⟩ := bd_some hf
        refine g_callVi S (As := [.int z.2.2, .int (4:Int32)]) (gs' := [maW a0 (a1 0) (a2 0) (a3 0) (a4 0) (a7 0 0) (a8 0) (a9 0) (a9 1), stW G a1 v1]) (c_X5_member l G a0 a1 a2 a3 a4 a5 a6 a7 a8 a9 a10 a11 v1 z.2.2 (4:Int32) hq30) (cwV 2 hts gL_addUp_X5_member rfl rfl rfl hd_X5_member ⟨Nat.le_of_ble_eq_true rfl, Nat.le_of_ble_eq_true rfl⟩) hK hP hD hS hA (is := [0, 1]) rfl rfl 0 rfl rfl rfl rfl hl.1 rfl (Nat.le_of_ble_eq_true rfl) dL_addUp_66 ⟨Nat.le_of_ble_eq_true rfl, Nat.le_of_ble_eq_true rfl⟩ rfl (fun H locs hP hD hS => ?_)
        refine lv_if_ne (tgt := 76) hx hb dL_addUp_69 (by decide) (fun c31 => ?_) (fun c31 => ?_)
        · rw [if_neg c31] at hf
          refine lv_iconst (v := (0:Int32)) hx hb dL_addUp_76 (by decide) ?_
          refine lv_iadd hx hb dL_addUp_77 ?_
          obtain ⟨x32, ex32, hf⟩ := lt_some hf
          refine lv_nmi ex32 ?_
          refine lv_istore_n (lv' := [(3, .int x32), (0, .ref (a0 0)), (1, .int p1), (2, .int e9.1), (4, .int z.2.2), (5, .int e9.2)]) hx hb dL_addUp_78 rfl hl (by decide) rfl (fun ls hl => ?_)
          refine lv_aload_n hx hb dL_addUp_79 rfl (lv_at hl 1 rfl) ?_
          refine lv_iload hx hb dL_addUp_80 (lv_at hl 4 rfl) ?_
          obtain ⟨q33, hq33, hf⟩ := bd_some hf
          refine g_callVi S (As := [.int z.2.2]) (gs' := [maW a0 (a1 0) (a2 0) (a3 0) (a4 0) (a7 0 0) (a8 0) (a9 0) (a9 1), stW G a1 v1]) (c_X5_chain l G a0 a1 a2 a3 a4 a5 a6 a7 a8 a9 a10 a11 v1 z.2.2 hq33) (cwV 1 hts gL_addUp_X5_chain rfl rfl rfl hd_X5_chain ⟨Nat.le_of_ble_eq_true rfl, Nat.le_of_ble_eq_true rfl⟩) hK hP hD hS hA (is := [0, 1]) rfl rfl 0 rfl rfl rfl rfl hl.1 rfl (Nat.le_of_ble_eq_true rfl) dL_addUp_82 ⟨Nat.le_of_ble_eq_true rfl, Nat.le_of_ble_eq_true rfl⟩ rfl (fun H locs hP hD hS => ?_)
          refine lv_istore (lv' := [(5, .int q33.1), (3, .int x32), (0, .ref (a0 0)), (1, .int p1), (2, .int e9.1), (4, .int z.2.2)]) hx hb dL_addUp_85 hl (by decide) rfl (fun ls hl => ?_)
          refine lv_aload_n hx hb dL_addUp_87 rfl (lv_at hl 2 rfl) ?_
          refine lv_iload hx hb dL_addUp_88 (lv_at hl 5 rfl) ?_
          refine lv_iconst (v := (1:Int32)) hx hb dL_addUp_90 (by decide) ?_
          obtain ⟨q34, hq34, hf⟩ := bd_some hf
          refine g_callVi S (As := [.int z.2.2, .int (1:Int32)]) (gs' := [maW a0 (a1 0) (a2 0) (a3 0) (a4 0) (a7 0 0) (a8 0) (a9 0) (a9 1), stW G a1 v1]) (c_X5_member l G a0 a1 a2 a3 a4 a5 a6 a7 a8 a9 a10 a11 v1 z.2.2 (1:Int32) hq34) (cwV 2 hts gL_addUp_X5_member rfl rfl rfl hd_X5_member ⟨Nat.le_of_ble_eq_true rfl, Nat.le_of_ble_eq_true rfl⟩) hK hP hD hS hA (is := [0, 1]) rfl rfl 0 rfl rfl rfl rfl hl.1 rfl (Nat.le_of_ble_eq_true rfl) dL_addUp_91 ⟨Nat.le_of_ble_eq_true rfl, Nat.le_of_ble_eq_true rfl⟩ rfl (fun H locs hP hD hS => ?_)
          refine lv_istore (lv' := [(6, .int q34.1), (5, .int q33.1), (3, .int x32), (0, .ref (a0 0)), (1, .int p1), (2, .int e9.1), (4, .int z.2.2)]) hx hb dL_addUp_94 hl (by decide) rfl (fun ls hl => ?_)
          refine lv_aload_n hx hb dL_addUp_96 rfl (lv_at hl 3 rfl) ?_
          refine lv_iload hx hb dL_addUp_97 (lv_at hl 6 rfl) ?_
          refine lv_iconst (v := (0:Int32)) hx hb dL_addUp_99 (by decide) ?_
          obtain ⟨q35, hq35, hf⟩ := bd_some hf
          refine g_callVi S (As := [.int z.2.2, .int (0:Int32)]) (gs' := [maW a0 (a1 0) (a2 0) (a3 0) (a4 0) (a7 0 0) (a8 0) (a9 0) (a9 1), stW G a1 v1]) (c_X5_member l G a0 a1 a2 a3 a4 a5 a6 a7 a8 a9 a10 a11 v1 z.2.2 (0:Int32) hq35) (cwV 2 hts gL_addUp_X5_member rfl rfl rfl hd_X5_member ⟨Nat.le_of_ble_eq_true rfl, Nat.le_of_ble_eq_true rfl⟩) hK hP hD hS hA (is := [0, 1]) rfl rfl 0 rfl rfl rfl rfl hl.1 rfl (Nat.le_of_ble_eq_true rfl) dL_addUp_100 ⟨Nat.le_of_ble_eq_true rfl, Nat.le_of_ble_eq_true rfl⟩ rfl (fun H locs hP hD hS => ?_)
          refine lv_if_lt (tgt := 144) hx hb dL_addUp_103 (by decide) (fun c36 => ?_) (fun c36 => ?_)
          · rw [if_pos c36] at hf
            refine lv_iconst (v := (0:Int32)) hx hb dL_addUp_144 (by decide) ?_
            have he := lz_r hf hz
            have hq := hE _ he.symm
            subst hq
            exact g_zret hx hb hr gz0 hlocks hP hS dL_addUp_145
          · rw [if_neg c36] at hf
            refine lv_iload hx hb dL_addUp_106 (lv_at hl 1 rfl) ?_
            refine lv_iconst (v := (1:Int32)) hx hb dL_addUp_108 (by decide) ?_
            refine lv_icmp_lt (tgt := 144) hx hb dL_addUp_109 (by decide) (fun c37 => ?_) (fun c37 => ?_)
            · rw [if_pos c37] at hf
              refine lv_iconst (v := (0:Int32)) hx hb dL_addUp_144 (by decide) ?_
              have he := lz_r hf hz
              have hq := hE _ he.symm
              subst hq
              exact g_zret hx hb hr gz0 hlocks hP hS dL_addUp_145
            · rw [if_neg c37] at hf
              refine lv_iload hx hb dL_addUp_112 (lv_at hl 1 rfl) ?_
              refine lv_iload_n hx hb dL_addUp_114 rfl (lv_at hl 4 rfl) ?_
              refine lv_icmp_gt (tgt := 144) hx hb dL_addUp_115 (by decide) (fun c38 => ?_) (fun c38 => ?_)
              · rw [if_pos c38] at hf
                refine lv_iconst (v := (0:Int32)) hx hb dL_addUp_144 (by decide) ?_
                have he := lz_r hf hz
                have hq := hE _ he.symm
                subst hq
                exact g_zret hx hb hr gz0 hlocks hP hS dL_addUp_145
              · rw [if_neg c38] at hf
                refine lv_iload hx hb dL_addUp_118 (lv_at hl 0 rfl) ?_
                refine lv_ldc (v := (-99999:Int32)) hx hb hown (hts _ kL_addUp_0) dL_addUp_120 ?_
                refine lv_icmp_ne (tgt := 129) hx hb dL_addUp_122 (by decide) (fun c39 => ?_) (fun c39 => ?_)
                · rw [if_neg c39] at hf
                  refine lv_iconst (v := (0:Int32)) hx hb dL_addUp_129 (by decide) ?_
                  refine lv_iload hx hb dL_addUp_130 (lv_at hl 1 rfl) ?_
                  refine lv_iconst (v := (1:Int32)) hx hb dL_addUp_132 (by decide) ?_
                  refine lv_icmp_ne (tgt := 140) hx hb dL_addUp_133 (by decide) (fun c40 => ?_) (fun c40 => ?_)
                  · rw [if_neg c40] at hf
                    refine lv_iconst (v := (0:Int32)) hx hb dL_addUp_140 (by decide) ?_
                    refine lv_icmp_eq (tgt := 146) hx hb dL_addUp_141 (by decide) (fun c41 => ?_) (fun c41 => ?_)
                    · rw [if_pos c41] at hf
                      obtain ⟨x42, ex42, hf⟩ := lt_some hf
                      refine lv_iinc (v := x42) (lv' := [(4, .int x42), (6, .int q34.1), (5, .int q33.1), (3, .int x32), (0, .ref (a0 0)), (1, .int p1), (2, .int e9.1)]) hx hb dL_addUp_146 hl (k := 6) rfl (by rw [ex42]; rfl) (by decide) rfl (fun ls hl => ?_)
                      refine lv_goto (tgt := 7) hx hb dL_addUp_149 (by decide) ?_
                      exact ih _ e1 hE (lz_l hf hz) H locs ls hP hD hS (lv_sub hl [4, 5, 6, 3, 0] rfl) K
                    · rw [if_neg c41] at hf
                      refine lv_iconst (v := (0:Int32)) hx hb dL_addUp_144 (by decide) ?_
                      have he := lz_r hf hz
                      have hq := hE _ he.symm
                      subst hq
                      exact g_zret hx hb hr gz0 hlocks hP hS dL_addUp_145
                  · rw [if_pos c40] at hf
                    refine lv_iconst (v := (1:Int32)) hx hb dL_addUp_136 (by decide) ?_
                    refine lv_goto (tgt := 141) hx hb dL_addUp_137 (by decide) ?_
                    refine lv_icmp_eq (tgt := 146) hx hb dL_addUp_141 (by decide) (fun c43 => ?_) (fun c43 => ?_)
                    · rw [if_pos c43] at hf
                      obtain ⟨x44, ex44, hf⟩ := lt_some hf
                      refine lv_iinc (v := x44) (lv' := [(4, .int x44), (6, .int q34.1), (5, .int q33.1), (3, .int x32), (0, .ref (a0 0)), (1, .int p1), (2, .int e9.1)]) hx hb dL_addUp_146 hl (k := 6) rfl (by rw [ex44]; rfl) (by decide) rfl (fun ls hl => ?_)
                      refine lv_goto (tgt := 7) hx hb dL_addUp_149 (by decide) ?_
                      exact ih _ e1 hE (lz_l hf hz) H locs ls hP hD hS (lv_sub hl [4, 5, 6, 3, 0] rfl) K
                    · rw [if_neg c43] at hf
                      refine lv_iconst (v := (0:Int32)) hx hb dL_addUp_144 (by decide) ?_
                      have he := lz_r hf hz
                      have hq := hE _ he.symm
                      subst hq
                      exact g_zret hx hb hr gz0 hlocks hP hS dL_addUp_145
                · rw [if_pos c39] at hf
                  refine lv_iconst (v := (1:Int32)) hx hb dL_addUp_125 (by decide) ?_
                  refine lv_goto (tgt := 130) hx hb dL_addUp_126 (by decide) ?_
                  refine lv_iload hx hb dL_addUp_130 (lv_at hl 1 rfl) ?_
                  refine lv_iconst (v := (1:Int32)) hx hb dL_addUp_132 (by decide) ?_
                  refine lv_icmp_ne (tgt := 140) hx hb dL_addUp_133 (by decide) (fun c45 => ?_) (fun c45 => ?_)
                  · rw [if_neg c45] at hf
                    refine lv_iconst (v := (0:Int32)) hx hb dL_addUp_140 (by decide) ?_
                    refine lv_icmp_eq (tgt := 146) hx hb dL_addUp_141 (by decide) (fun c46 => ?_) (fun c46 => ?_)
                    · rw [if_pos c46] at hf
                      obtain ⟨x47, ex47, hf⟩ := lt_some hf
                      refine lv_iinc (v := x47) (lv' := [(4, .int x47), (6, .int q34.1), (5, .int q33.1), (3, .int x32), (0, .ref (a0 0)), (1, .int p1), (2, .int e9.1)]) hx hb dL_addUp_146 hl (k := 6) rfl (by rw [ex47]; rfl) (by decide) rfl (fun ls hl => ?_)
                      refine lv_goto (tgt := 7) hx hb dL_addUp_149 (by decide) ?_
                      exact ih _ e1 hE (lz_l hf hz) H locs ls hP hD hS (lv_sub hl [4, 5, 6, 3, 0] rfl) K
                    · rw [if_neg c46] at hf
                      refine lv_iconst (v := (0:Int32)) hx hb dL_addUp_144 (by decide) ?_
                      have he := lz_r hf hz
                      have hq := hE _ he.symm
                      subst hq
                      exact g_zret hx hb hr gz0 hlocks hP hS dL_addUp_145
                  · rw [if_pos c45] at hf
                    refine lv_iconst (v := (1:Int32)) hx hb dL_addUp_136 (by decide) ?_
                    refine lv_goto (tgt := 141) hx hb dL_addUp_137 (by decide) ?_
                    refine lv_icmp_eq (tgt := 146) hx hb dL_addUp_141 (by decide) (fun c48 => ?_) (fun c48 => ?_)
                    · rw [if_pos c48] at hf
                      obtain ⟨x49, ex49, hf⟩ := lt_some hf
                      refine lv_iinc (v := x49) (lv' := [(4, .int x49), (6, .int q34.1), (5, .int q33.1), (3, .int x32), (0, .ref (a0 0)), (1, .int p1), (2, .int e9.1)]) hx hb dL_addUp_146 hl (k := 6) rfl (by rw [ex49]; rfl) (by decide) rfl (fun ls hl => ?_)
                      refine lv_goto (tgt := 7) hx hb dL_addUp_149 (by decide) ?_
                      exact ih _ e1 hE (lz_l hf hz) H locs ls hP hD hS (lv_sub hl [4, 5, 6, 3, 0] rfl) K
                    · rw [if_neg c48] at hf
                      refine lv_iconst (v := (0:Int32)) hx hb dL_addUp_144 (by decide) ?_
                      have he := lz_r hf hz
                      have hq := hE _ he.symm
                      subst hq
                      exact g_zret hx hb hr gz0 hlocks hP hS dL_addUp_145
        · rw [if_pos c31] at hf
          refine lv_iconst (v := (1:Int32)) hx hb dL_addUp_72 (by decide) ?_
          refine lv_goto (tgt := 77) hx hb dL_addUp_73 (by decide) ?_
          refine lv_iadd hx hb dL_addUp_77 ?_
          obtain ⟨x50, ex50, hf⟩ := lt_some hf
          refine lv_nmi ex50 ?_
          refine lv_istore_n (lv' := [(3, .int x50), (0, .ref (a0 0)), (1, .int p1), (2, .int e9.1), (4, .int z.2.2), (5, .int e9.2)]) hx hb dL_addUp_78 rfl hl (by decide) rfl (fun ls hl => ?_)
          refine lv_aload_n hx hb dL_addUp_79 rfl (lv_at hl 1 rfl) ?_
          refine lv_iload hx hb dL_addUp_80 (lv_at hl 4 rfl) ?_
          obtain ⟨q51, hq51, hf⟩ := bd_some hf
          refine g_callVi S (As := [.int z.2.2]) (gs' := [maW a0 (a1 0) (a2 0) (a3 0) (a4 0) (a7 0 0) (a8 0) (a9 0) (a9 1), stW G a1 v1]) (c_X5_chain l G a0 a1 a2 a3 a4 a5 a6 a7 a8 a9 a10 a11 v1 z.2.2 hq51) (cwV 1 hts gL_addUp_X5_chain rfl rfl rfl hd_X5_chain ⟨Nat.le_of_ble_eq_true rfl, Nat.le_of_ble_eq_true rfl⟩) hK hP hD hS hA (is := [0, 1]) rfl rfl 0 rfl rfl rfl rfl hl.1 rfl (Nat.le_of_ble_eq_true rfl) dL_addUp_82 ⟨Nat.le_of_ble_eq_true rfl, Nat.le_of_ble_eq_true rfl⟩ rfl (fun H locs hP hD hS => ?_)
          refine lv_istore (lv' := [(5, .int q51.1), (3, .int x50), (0, .ref (a0 0)), (1, .int p1), (2, .int e9.1), (4, .int z.2.2)]) hx hb dL_addUp_85 hl (by decide) rfl (fun ls hl => ?_)
          refine lv_aload_n hx hb dL_addUp_87 rfl (lv_at hl 2 rfl) ?_
          refine lv_iload hx hb dL_addUp_88 (lv_at hl 5 rfl) ?_
          refine lv_iconst (v := (1:Int32)) hx hb dL_addUp_90 (by decide) ?_
          obtain ⟨q52, hq52, hf⟩ := bd_some hf
          refine g_callVi S (As := [.int z.2.2, .int (1:Int32)]) (gs' := [maW a0 (a1 0) (a2 0) (a3 0) (a4 0) (a7 0 0) (a8 0) (a9 0) (a9 1), stW G a1 v1]) (c_X5_member l G a0 a1 a2 a3 a4 a5 a6 a7 a8 a9 a10 a11 v1 z.2.2 (1:Int32) hq52) (cwV 2 hts gL_addUp_X5_member rfl rfl rfl hd_X5_member ⟨Nat.le_of_ble_eq_true rfl, Nat.le_of_ble_eq_true rfl⟩) hK hP hD hS hA (is := [0, 1]) rfl rfl 0 rfl rfl rfl rfl hl.1 rfl (Nat.le_of_ble_eq_true rfl) dL_addUp_91 ⟨Nat.le_of_ble_eq_true rfl, Nat.le_of_ble_eq_true rfl⟩ rfl (fun H locs hP hD hS => ?_)
          refine lv_istore (lv' := [(6, .int q52.1), (5, .int q51.1), (3, .int x50), (0, .ref (a0 0)), (1, .int p1), (2, .int e9.1), (4, .int z.2.2)]) hx hb dL_addUp_94 hl (by decide) rfl (fun ls hl => ?_)
          refine lv_aload_n hx hb dL_addUp_96 rfl (lv_at hl 3 rfl) ?_
          refine lv_iload hx hb dL_addUp_97 (lv_at hl 6 rfl) ?_
          refine lv_iconst (v := (0:Int32)) hx hb dL_addUp_99 (by decide) ?_
          obtain ⟨q53, hq53, hf⟩ := bd_some hf
          refine g_callVi S (As := [.int z.2.2, .int (0:Int32)]) (gs' := [maW a0 (a1 0) (a2 0) (a3 0) (a4 0) (a7 0 0) (a8 0) (a9 0) (a9 1), stW G a1 v1]) (c_X5_member l G a0 a1 a2 a3 a4 a5 a6 a7 a8 a9 a10 a11 v1 z.2.2 (0:Int32) hq53) (cwV 2 hts gL_addUp_X5_member rfl rfl rfl hd_X5_member ⟨Nat.le_of_ble_eq_true rfl, Nat.le_of_ble_eq_true rfl⟩) hK hP hD hS hA (is := [0, 1]) rfl rfl 0 rfl rfl rfl rfl hl.1 rfl (Nat.le_of_ble_eq_true rfl) dL_addUp_100 ⟨Nat.le_of_ble_eq_true rfl, Nat.le_of_ble_eq_true rfl⟩ rfl (fun H locs hP hD hS => ?_)
          refine lv_if_lt (tgt := 144) hx hb dL_addUp_103 (by decide) (fun c54 => ?_) (fun c54 => ?_)
          · rw [if_pos c54] at hf
            refine lv_iconst (v := (0:Int32)) hx hb dL_addUp_144 (by decide) ?_
            have he := lz_r hf hz
            have hq := hE _ he.symm
            subst hq
            exact g_zret hx hb hr gz0 hlocks hP hS dL_addUp_145
          · rw [if_neg c54] at hf
            refine lv_iload hx hb dL_addUp_106 (lv_at hl 1 rfl) ?_
            refine lv_iconst (v := (1:Int32)) hx hb dL_addUp_108 (by decide) ?_
            refine lv_icmp_lt (tgt := 144) hx hb dL_addUp_109 (by decide) (fun c55 => ?_) (fun c55 => ?_)
            · rw [if_pos c55] at hf
              refine lv_iconst (v := (0:Int32)) hx hb dL_addUp_144 (by decide) ?_
              have he := lz_r hf hz
              have hq := hE _ he.symm
              subst hq
              exact g_zret hx hb hr gz0 hlocks hP hS dL_addUp_145
            · rw [if_neg c55] at hf
              refine lv_iload hx hb dL_addUp_112 (lv_at hl 1 rfl) ?_
              refine lv_iload_n hx hb dL_addUp_114 rfl (lv_at hl 4 rfl) ?_
              refine lv_icmp_gt (tgt := 144) hx hb dL_addUp_115 (by decide) (fun c56 => ?_) (fun c56 => ?_)
              · rw [if_pos c56] at hf
                refine lv_iconst (v := (0:Int32)) hx hb dL_addUp_144 (by decide) ?_
                have he := lz_r hf hz
                have hq := hE _ he.symm
                subst hq
                exact g_zret hx hb hr gz0 hlocks hP hS dL_addUp_145
              · rw [if_neg c56] at hf
                refine lv_iload hx hb dL_addUp_118 (lv_at hl 0 rfl) ?_
                refine lv_ldc (v := (-99999:Int32)) hx hb hown (hts _ kL_addUp_0) dL_addUp_120 ?_
                refine lv_icmp_ne (tgt := 129) hx hb dL_addUp_122 (by decide) (fun c57 => ?_) (fun c57 => ?_)
                · rw [if_neg c57] at hf
                  refine lv_iconst (v := (0:Int32)) hx hb dL_addUp_129 (by decide) ?_
                  refine lv_iload hx hb dL_addUp_130 (lv_at hl 1 rfl) ?_
                  refine lv_iconst (v := (1:Int32)) hx hb dL_addUp_132 (by decide) ?_
                  refine lv_icmp_ne (tgt := 140) hx hb dL_addUp_133 (by decide) (fun c58 => ?_) (fun c58 => ?_)
                  · rw [if_neg c58] at hf
                    refine lv_iconst (v := (0:Int32)) hx hb dL_addUp_140 (by decide) ?_
                    refine lv_icmp_eq (tgt := 146) hx hb dL_addUp_141 (by decide) (fun c59 => ?_) (fun c59 => ?_)
                    · rw [if_pos c59] at hf
                      obtain ⟨x60, ex60, hf⟩ := lt_some hf
                      refine lv_iinc (v := x60) (lv' := [(4, .int x60), (6, .int q52.1), (5, .int q51.1), (3, .int x50), (0, .ref (a0 0)), (1, .int p1), (2, .int e9.1)]) hx hb dL_addUp_146 hl (k := 6) rfl (by rw [ex60]; rfl) (by decide) rfl (fun ls hl => ?_)
                      refine lv_goto (tgt := 7) hx hb dL_addUp_149 (by decide) ?_
                      exact ih _ e1 hE (lz_l hf hz) H locs ls hP hD hS (lv_sub hl [4, 5, 6, 3, 0] rfl) K
                    · rw [if_neg c59] at hf
                      refine lv_iconst (v := (0:Int32)) hx hb dL_addUp_144 (by decide) ?_
                      have he := lz_r hf hz
                      have hq := hE _ he.symm
                      subst hq
                      exact g_zret hx hb hr gz0 hlocks hP hS dL_addUp_145
                  · rw [if_pos c58] at hf
                    refine lv_iconst (v := (1:Int32)) hx hb dL_addUp_136 (by decide) ?_
                    refine lv_goto (tgt := 141) hx hb dL_addUp_137 (by decide) ?_
                    refine lv_icmp_eq (tgt := 146) hx hb dL_addUp_141 (by decide) (fun c61 => ?_) (fun c61 => ?_)
                    · rw [if_pos c61] at hf
                      obtain ⟨x62, ex62, hf⟩ := lt_some hf
                      refine lv_iinc (v := x62) (lv' := [(4, .int x62), (6, .int q52.1), (5, .int q51.1), (3, .int x50), (0, .ref (a0 0)), (1, .int p1), (2, .int e9.1)]) hx hb dL_addUp_146 hl (k := 6) rfl (by rw [ex62]; rfl) (by decide) rfl (fun ls hl => ?_)
                      refine lv_goto (tgt := 7) hx hb dL_addUp_149 (by decide) ?_
                      exact ih _ e1 hE (lz_l hf hz) H locs ls hP hD hS (lv_sub hl [4, 5, 6, 3, 0] rfl) K
                    · rw [if_neg c61] at hf
                      refine lv_iconst (v := (0:Int32)) hx hb dL_addUp_144 (by decide) ?_
                      have he := lz_r hf hz
                      have hq := hE _ he.symm
                      subst hq
                      exact g_zret hx hb hr gz0 hlocks hP hS dL_addUp_145
                · rw [if_pos c57] at hf
                  refine lv_iconst (v := (1:Int32)) hx hb dL_addUp_125 (by decide) ?_
                  refine lv_goto (tgt := 130) hx hb dL_addUp_126 (by decide) ?_
                  refine lv_iload hx hb dL_addUp_130 (lv_at hl 1 rfl) ?_
                  refine lv_iconst (v := (1:Int32)) hx hb dL_addUp_132 (by decide) ?_
                  refine lv_icmp_ne (tgt := 140) hx hb dL_addUp_133 (by decide) (fun c63 => ?_) (fun c63 => ?_)
                  · rw [if_neg c63] at hf
                    refine lv_iconst (v := (0:Int32)) hx hb dL_addUp_140 (by decide) ?_
                    refine lv_icmp_eq (tgt := 146) hx hb dL_addUp_141 (by decide) (fun c64 => ?_) (fun c64 => ?_)
                    · rw [if_pos c64] at hf
                      obtain ⟨x65, ex65, hf⟩ := lt_some hf
                      refine lv_iinc (v := x65) (lv' := [(4, .int x65), (6, .int q52.1), (5, .int q51.1), (3, .int x50), (0, .ref (a0 0)), (1, .int p1), (2, .int e9.1)]) hx hb dL_addUp_146 hl (k := 6) rfl (by rw [ex65]; rfl) (by decide) rfl (fun ls hl => ?_)
                      refine lv_goto (tgt := 7) hx hb dL_addUp_149 (by decide) ?_
                      exact ih _ e1 hE (lz_l hf hz) H locs ls hP hD hS (lv_sub hl [4, 5, 6, 3, 0] rfl) K
                    · rw [if_neg c64] at hf
                      refine lv_iconst (v := (0:Int32)) hx hb dL_addUp_144 (by decide) ?_
                      have he := lz_r hf hz
                      have hq := hE _ he.symm
                      subst hq
                      exact g_zret hx hb hr gz0 hlocks hP hS dL_addUp_145
                  · rw [if_pos c63] at hf
                    refine lv_iconst (v := (1:Int32)) hx hb dL_addUp_136 (by decide) ?_
                    refine lv_goto (tgt := 141) hx hb dL_addUp_137 (by decide) ?_
                    refine lv_icmp_eq (tgt := 146) hx hb dL_addUp_141 (by decide) (fun c66 => ?_) (fun c66 => ?_)
                    · rw [if_pos c66] at hf
                      obtain ⟨x67, ex67, hf⟩ := lt_some hf
                      refine lv_iinc (v := x67) (lv' := [(4, .int x67), (6, .int q52.1), (5, .int q51.1), (3, .int x50), (0, .ref (a0 0)), (1, .int p1), (2, .int e9.1)]) hx hb dL_addUp_146 hl (k := 6) rfl (by rw [ex67]; rfl) (by decide) rfl (fun ls hl => ?_)
                      refine lv_goto (tgt := 7) hx hb dL_addUp_149 (by decide) ?_
                      exact ih _ e1 hE (lz_l hf hz) H locs ls hP hD hS (lv_sub hl [4, 5, 6, 3, 0] rfl) K
                    · rw [if_neg c66] at hf
                      refine lv_iconst (v := (0:Int32)) hx hb dL_addUp_144 (by decide) ?_
                      have he := lz_r hf hz
                      have hq := hE _ he.symm
                      subst hq
                      exact g_zret hx hb hr gz0 hlocks hP hS dL_addUp_145
set_option maxHeartbeats 4000000 in
set_option maxRecDepth 100000 in
theorem c_L_addUp (l : Launch) (G : uG) (a0 : Nat → Nat) (a1 : Nat → Nat) (a2 : Nat → Nat) (a3 : Nat → Nat) (a4 : Nat → Nat) (a5 : Nat → Nat) (a6 : Nat → Nat) (a7 : Nat → Nat → Nat) (a8 : Nat → Nat) (a9 : Nat → Nat) (a10 : Nat → Nat) (a11 : Nat → Nat) (v1 : StV) (i1 : Int32) {q : Int32 × (Unit)} (hf : f_L_addUp v1 i1 = some q) : mQ l yL_addUp wsL_addUp ({ frames := 4, cells := 0, slots := 0, locals := 88 } : Room) G [.ref (a0 0), .int i1] [maW a0 (a1 0) (a2 0) (a3 0) (a4 0) (a7 0 0) (a8 0) (a9 0) (a9 1), stW G a1 v1] [maW a0 (a1 0) (a2 0) (a3 0) (a4 0) (a7 0 0) (a8 0) (a9 0) (a9 1), stW G a1 v1] (qI G [maW a0 (a1 0) (a2 0) (a3 0) (a4 0) (a7 0 0) (a8 0) (a9 0) (a9 1), stW G a1 v1] q.1) := by
  unfold f_L_addUp at hf
  refine m_of (cc := cL_addUp) (maxL := 7) (ret := (some .boolean)) (by decide) rfl rfl (Nat.le_of_ble_eq_true rfl) ?_
  intro p e s m args below meth c A ls S hK hA hP hD hS hl
  obtain ⟨hx, hb, hml, hown, hts, hr, hlocks⟩ := id S
  have hl : lv_has ls 7 [(0, .ref (a0 0)), (1, .int i1)] := hl
  refine lv_iconst (v := (0:Int32)) hx hb dL_addUp_0 (by decide) ?_
  refine lv_istore_n (lv' := [(2, .int (0:Int32)), (0, .ref (a0 0)), (1, .int i1)]) hx hb dL_addUp_1 rfl hl (by decide) rfl (fun ls hl => ?_)
  refine lv_iconst (v := (0:Int32)) hx hb dL_addUp_2 (by decide) ?_
  refine lv_istore_n (lv' := [(3, .int (0:Int32)), (2, .int (0:Int32)), (0, .ref (a0 0)), (1, .int i1)]) hx hb dL_addUp_3 rfl hl (by decide) rfl (fun ls hl => ?_)
  refine lv_iconst (v := (0:Int32)) hx hb dL_addUp_4 (by decide) ?_
  refine lv_istore (lv' := [(4, .int (0:Int32)), (3, .int (0:Int32)), (2, .int (0:Int32)), (0, .ref (a0 0)), (1, .int i1)]) hx hb dL_addUp_5 hl (by decide) rfl (fun ls hl => ?_)
  obtain ⟨e68, he68, hf⟩ := bd_some hf
  refine w_L_addUp_7 S hK hA G a0 a1 a2 a3 a4 a5 a6 a7 a8 a9 a10 a11 v1 i1 FU _ e68 (fun r hr9 => by subst hr9; exact (Option.some.inj hf)) he68 _ _ _ hP hD hS (lv_sub hl [3, 4, 2, 1, 0] rfl) (fun s69 hs9 H locs ls hP hD hS hl => ?_)
  subst hs9
  have hf := el_h hf
  refine lv_aload_n hx hb dL_addUp_152 rfl (lv_at hl 0 rfl) ?_
  refine lv_iconst (v := (4:Int32)) hx hb dL_addUp_153 (by decide) ?_
  obtain ⟨q71, hq71, hf⟩ := bd_some hf
  refine g_callVi S (As := [.int (4:Int32)]) (gs' := [maW a0 (a1 0) (a2 0) (a3 0) (a4 0) (a7 0 0) (a8 0) (a9 0) (a9 1), stW G a1 v1]) (c_X5_about l G a0 a1 a2 a3 a4 a5 a6 a7 a8 a9 a10 a11 v1 (4:Int32) hq71) (cwV 1 hts gL_addUp_X5_about rfl rfl rfl hd_X5_about ⟨Nat.le_of_ble_eq_true rfl, Nat.le_of_ble_eq_true rfl⟩) hK hP hD hS hA (is := [0, 1]) rfl rfl 0 rfl rfl rfl rfl hl.1 rfl (Nat.le_of_ble_eq_true rfl) dL_addUp_154 ⟨Nat.le_of_ble_eq_true rfl, Nat.le_of_ble_eq_true rfl⟩ rfl (fun H locs hP hD hS => ?_)
  refine lv_if_lt (tgt := 232) hx hb dL_addUp_157 (by decide) (fun c72 => ?_) (fun c72 => ?_)
  · rw [if_pos c72] at hf
    refine lv_iconst (v := (0:Int32)) hx hb dL_addUp_232 (by decide) ?_
    cases hf
    exact g_zret hx hb hr gz0 hlocks hP hS dL_addUp_233
  · rw [if_neg c72] at hf
    refine lv_aload_n hx hb dL_addUp_160 rfl (lv_at hl 0 rfl) ?_
    refine lv_iconst (v := (4:Int32)) hx hb dL_addUp_161 (by decide) ?_
    obtain ⟨q73, hq73, hf⟩ := bd_some hf
    refine g_callVi S (As := [.int (4:Int32)]) (gs' := [maW a0 (a1 0) (a2 0) (a3 0) (a4 0) (a7 0 0) (a8 0) (a9 0) (a9 1), stW G a1 v1]) (c_X5_about l G a0 a1 a2 a3 a4 a5 a6 a7 a8 a9 a10 a11 v1 (4:Int32) hq73) (cwV 1 hts gL_addUp_X5_about rfl rfl rfl hd_X5_about ⟨Nat.le_of_ble_eq_true rfl, Nat.le_of_ble_eq_true rfl⟩) hK hP hD hS hA (is := [0, 1]) rfl rfl 0 rfl rfl rfl rfl hl.1 rfl (Nat.le_of_ble_eq_true rfl) dL_addUp_162 ⟨Nat.le_of_ble_eq_true rfl, Nat.le_of_ble_eq_true rfl⟩ rfl (fun H locs hP hD hS => ?_)
    refine lv_aload_n hx hb dL_addUp_165 rfl (lv_at hl 0 rfl) ?_
    refine lv_iconst (v := (5:Int32)) hx hb dL_addUp_166 (by decide) ?_
    obtain ⟨q74, hq74, hf⟩ := bd_some hf
    refine g_callVi S (As := [.int (5:Int32)]) (gs' := [maW a0 (a1 0) (a2 0) (a3 0) (a4 0) (a7 0 0) (a8 0) (a9 0) (a9 1), stW G a1 v1]) (c_X5_about l G a0 a1 a2 a3 a4 a5 a6 a7 a8 a9 a10 a11 v1 (5:Int32) hq74) (cwV 1 hts gL_addUp_X5_about rfl rfl rfl hd_X5_about ⟨Nat.le_of_ble_eq_true rfl, Nat.le_of_ble_eq_true rfl⟩) hK hP hD hS hA (is := [0, 1]) rfl rfl 0 rfl rfl rfl rfl hl.1 rfl (Nat.le_of_ble_eq_true rfl) dL_addUp_167 ⟨Nat.le_of_ble_eq_true rfl, Nat.le_of_ble_eq_true rfl⟩ rfl (fun H locs hP hD hS => ?_)
    refine lv_iadd hx hb dL_addUp_170 ?_
    refine lv_aload_n hx hb dL_addUp_171 rfl (lv_at hl 0 rfl) ?_
    refine lv_bipush (v := (8:Int32)) hx hb dL_addUp_172 (by decide) ?_
    obtain ⟨q75, hq75, hf⟩ := bd_some hf
    refine g_callVi S (As := [.int (8:Int32)]) (gs' := [maW a0 (a1 0) (a2 0) (a3 0) (a4 0) (a7 0 0) (a8 0) (a9 0) (a9 1), stW G a1 v1]) (c_X5_about l G a0 a1 a2 a3 a4 a5 a6 a7 a8 a9 a10 a11 v1 (8:Int32) hq75) (cwV 1 hts gL_addUp_X5_about rfl rfl rfl hd_X5_about ⟨Nat.le_of_ble_eq_true rfl, Nat.le_of_ble_eq_true rfl⟩) hK hP hD hS hA (is := [0, 1]) rfl rfl 0 rfl rfl rfl rfl hl.1 rfl (Nat.le_of_ble_eq_true rfl) dL_addUp_174 ⟨Nat.le_of_ble_eq_true rfl, Nat.le_of_ble_eq_true rfl⟩ rfl (fun H locs hP hD hS => ?_)
    refine lv_icmp_ne (tgt := 232) hx hb dL_addUp_177 (by decide) (fun c76 => ?_) (fun c76 => ?_)
    · rw [if_neg c76] at hf
      refine lv_iconst (v := (0:Int32)) hx hb dL_addUp_232 (by decide) ?_
      cases hf
      exact g_zret hx hb hr gz0 hlocks hP hS dL_addUp_233
    · rw [if_pos c76] at hf
      refine lv_aload_n hx hb dL_addUp_180 rfl (lv_at hl 0 rfl) ?_
      refine lv_iconst (v := (5:Int32)) hx hb dL_addUp_181 (by decide) ?_
      obtain ⟨q77, hq77, hf⟩ := bd_some hf
      refine g_callVi S (As := [.int (5:Int32)]) (gs' := [maW a0 (a1 0) (a2 0) (a3 0) (a4 0) (a7 0 0) (a8 0) (a9 0) (a9 1), stW G a1 v1]) (c_X5_about l G a0 a1 a2 a3 a4 a5 a6 a7 a8 a9 a10 a11 v1 (5:Int32) hq77) (cwV 1 hts gL_addUp_X5_about rfl rfl rfl hd_X5_about ⟨Nat.le_of_ble_eq_true rfl, Nat.le_of_ble_eq_true rfl⟩) hK hP hD hS hA (is := [0, 1]) rfl rfl 0 rfl rfl rfl rfl hl.1 rfl (Nat.le_of_ble_eq_true rfl) dL_addUp_182 ⟨Nat.le_of_ble_eq_true rfl, Nat.le_of_ble_eq_true rfl⟩ rfl (fun H locs hP hD hS => ?_)
      refine lv_aload_n hx hb dL_addUp_185 rfl (lv_at hl 0 rfl) ?_
      refine lv_iload_n hx hb dL_addUp_186 rfl (lv_at hl 1 rfl) ?_
      refine lv_iconst (v := (0:Int32)) hx hb dL_addUp_187 (by decide) ?_
      obtain ⟨q78, hq78, hf⟩ := bd_some hf
      refine g_callSi S (As := [.ref (a0 0), .int i1, .int (0:Int32)]) (gs' := [maW a0 (a1 0) (a2 0) (a3 0) (a4 0) (a7 0 0) (a8 0) (a9 0) (a9 1), stW G a1 v1]) (c_L_sum l G a0 a1 a2 a3 a4 a5 a6 a7 a8 a9 a10 a11 v1 i1 (0:Int32) hq78) (va_cwS 3 hts gL_addUp_L_sum rfl rfl rfl hd_L_sum.2 ⟨Nat.le_of_ble_eq_true rfl, Nat.le_of_ble_eq_true rfl⟩) hK hP hD hS hA (is := [0, 1]) rfl rfl rfl hl.1 rfl (Nat.le_of_ble_eq_true rfl) dL_addUp_188 ⟨Nat.le_of_ble_eq_true rfl, Nat.le_of_ble_eq_true rfl⟩ rfl (fun H locs hP hD hS => ?_)
      refine lv_icmp_ne (tgt := 232) hx hb dL_addUp_191 (by decide) (fun c79 => ?_) (fun c79 => ?_)
      · rw [if_neg c79] at hf
        refine lv_iconst (v := (0:Int32)) hx hb dL_addUp_232 (by decide) ?_
        cases hf
        exact g_zret hx hb hr gz0 hlocks hP hS dL_addUp_233
      · rw [if_pos c79] at hf
        refine lv_aload_n hx hb dL_addUp_194 rfl (lv_at hl 0 rfl) ?_
        refine lv_iconst (v := (1:Int32)) hx hb dL_addUp_195 (by decide) ?_
        obtain ⟨q80, hq80, hf⟩ := bd_some hf
        refine g_callVi S (As := [.int (1:Int32)]) (gs' := [maW a0 (a1 0) (a2 0) (a3 0) (a4 0) (a7 0 0) (a8 0) (a9 0) (a9 1), stW G a1 v1]) (c_X5_about l G a0 a1 a2 a3 a4 a5 a6 a7 a8 a9 a10 a11 v1 (1:Int32) hq80) (cwV 1 hts gL_addUp_X5_about rfl rfl rfl hd_X5_about ⟨Nat.le_of_ble_eq_true rfl, Nat.le_of_ble_eq_true rfl⟩) hK hP hD hS hA (is := [0, 1]) rfl rfl 0 rfl rfl rfl rfl hl.1 rfl (Nat.le_of_ble_eq_true rfl) dL_addUp_196 ⟨Nat.le_of_ble_eq_true rfl, Nat.le_of_ble_eq_true rfl⟩ rfl (fun H locs hP hD hS => ?_)
        refine lv_aload_n hx hb dL_addUp_199 rfl (lv_at hl 0 rfl) ?_
        refine lv_iload_n hx hb dL_addUp_200 rfl (lv_at hl 1 rfl) ?_
        refine lv_iconst (v := (5:Int32)) hx hb dL_addUp_201 (by decide) ?_
        obtain ⟨q81, hq81, hf⟩ := bd_some hf
        refine g_callSi S (As := [.ref (a0 0), .int i1, .int (5:Int32)]) (gs' := [maW a0 (a1 0) (a2 0) (a3 0) (a4 0) (a7 0 0) (a8 0) (a9 0) (a9 1), stW G a1 v1]) (c_L_sum l G a0 a1 a2 a3 a4 a5 a6 a7 a8 a9 a10 a11 v1 i1 (5:Int32) hq81) (va_cwS 3 hts gL_addUp_L_sum rfl rfl rfl hd_L_sum.2 ⟨Nat.le_of_ble_eq_true rfl, Nat.le_of_ble_eq_true rfl⟩) hK hP hD hS hA (is := [0, 1]) rfl rfl rfl hl.1 rfl (Nat.le_of_ble_eq_true rfl) dL_addUp_202 ⟨Nat.le_of_ble_eq_true rfl, Nat.le_of_ble_eq_true rfl⟩ rfl (fun H locs hP hD hS => ?_)
        refine lv_icmp_ne (tgt := 232) hx hb dL_addUp_205 (by decide) (fun c82 => ?_) (fun c82 => ?_)
        · rw [if_neg c82] at hf
          refine lv_iconst (v := (0:Int32)) hx hb dL_addUp_232 (by decide) ?_
          cases hf
          exact g_zret hx hb hr gz0 hlocks hP hS dL_addUp_233
        · rw [if_pos c82] at hf
          refine lv_aload_n hx hb dL_addUp_208 rfl (lv_at hl 0 rfl) ?_
          refine lv_bipush (v := (6:Int32)) hx hb dL_addUp_209 (by decide) ?_
          obtain ⟨q83, hq83, hf⟩ := bd_some hf
          refine g_callVi S (As := [.int (6:Int32)]) (gs' := [maW a0 (a1 0) (a2 0) (a3 0) (a4 0) (a7 0 0) (a8 0) (a9 0) (a9 1), stW G a1 v1]) (c_X5_about l G a0 a1 a2 a3 a4 a5 a6 a7 a8 a9 a10 a11 v1 (6:Int32) hq83) (cwV 1 hts gL_addUp_X5_about rfl rfl rfl hd_X5_about ⟨Nat.le_of_ble_eq_true rfl, Nat.le_of_ble_eq_true rfl⟩) hK hP hD hS hA (is := [0, 1]) rfl rfl 0 rfl rfl rfl rfl hl.1 rfl (Nat.le_of_ble_eq_true rfl) dL_addUp_211 ⟨Nat.le_of_ble_eq_true rfl, Nat.le_of_ble_eq_true rfl⟩ rfl (fun H locs hP hD hS => ?_)
          refine lv_iload_n hx hb dL_addUp_214 rfl (lv_at hl 3 rfl) ?_
          refine lv_icmp_ne (tgt := 232) hx hb dL_addUp_215 (by decide) (fun c84 => ?_) (fun c84 => ?_)
          · rw [if_neg c84] at hf
            refine lv_iconst (v := (0:Int32)) hx hb dL_addUp_232 (by decide) ?_
            cases hf
            exact g_zret hx hb hr gz0 hlocks hP hS dL_addUp_233
          · rw [if_pos c84] at hf
            refine lv_aload_n hx hb dL_addUp_218 rfl (lv_at hl 0 rfl) ?_
            refine lv_bipush (v := (7:Int32)) hx hb dL_addUp_219 (by decide) ?_
            obtain ⟨q85, hq85, hf⟩ := bd_some hf
            refine g_callVi S (As := [.int (7:Int32)]) (gs' := [maW a0 (a1 0) (a2 0) (a3 0) (a4 0) (a7 0 0) (a8 0) (a9 0) (a9 1), stW G a1 v1]) (c_X5_about l G a0 a1 a2 a3 a4 a5 a6 a7 a8 a9 a10 a11 v1 (7:Int32) hq85) (cwV 1 hts gL_addUp_X5_about rfl rfl rfl hd_X5_about ⟨Nat.le_of_ble_eq_true rfl, Nat.le_of_ble_eq_true rfl⟩) hK hP hD hS hA (is := [0, 1]) rfl rfl 0 rfl rfl rfl rfl hl.1 rfl (Nat.le_of_ble_eq_true rfl) dL_addUp_221 ⟨Nat.le_of_ble_eq_true rfl, Nat.le_of_ble_eq_true rfl⟩ rfl (fun H locs hP hD hS => ?_)
            refine lv_iload_n hx hb dL_addUp_224 rfl (lv_at hl 2 rfl) ?_
            refine lv_icmp_ne (tgt := 232) hx hb dL_addUp_225 (by decide) (fun c86 => ?_) (fun c86 => ?_)
            · rw [if_neg c86] at hf
              refine lv_iconst (v := (0:Int32)) hx hb dL_addUp_232 (by decide) ?_
              cases hf
              exact g_zret hx hb hr gz0 hlocks hP hS dL_addUp_233
            · rw [if_pos c86] at hf
              refine lv_iconst (v := (1:Int32)) hx hb dL_addUp_228 (by decide) ?_
              refine lv_goto (tgt := 233) hx hb dL_addUp_229 (by decide) ?_
              cases hf
              exact g_zret hx hb hr gz1 hlocks hP hS dL_addUp_233
set_option maxHeartbeats 4000000 in
set_option maxRecDepth 100000 in
theorem w_L_prepare_5 {p : Program} {l : Launch} {e : Env} {s : State} {m : MethodId} {args : Array Value} {below : List Frame} {meth : Method} {c : Code} {A : Nat → Prop} {Q : State → Prop} (S : Ev p s m args meth c cL_prepare 8 (some .boolean) yL_prepare.cls wsL_prepare) {G : uG} (hK : kK G s) (hA : ∀ q, s.heap.size ≤ q → A q) (_ : uG) (a0 : Nat → Nat) (a1 : Nat → Nat) (a2 : Nat → Nat) (a3 : Nat → Nat) (a4 : Nat → Nat) (a5 : Nat → Nat) (a6 : Nat → Nat) (a7 : Nat → Nat → Nat) (a8 : Nat → Nat) (a9 : Nat → Nat) (a10 : Nat → Nat) (a11 : Nat → Nat) (p1 : Int32) (p2 : Int32) : ∀ (n : Nat) (z : (Int32 × Int32 × StV × PaV)) (e1 : (Int32 × Int32 × StV × PaV)), lp (b_L_prepare_5 p1 p2) n z = some e1 → ∀ (H : Heap) (locs : List Loc) (ls : Array Slot), gP G [maW a0 (a1 0) (a2 0) (a3 0) (a4 0) (a7 0 0) (a8 0) (a9 0) (a9 1), stW G a1 z.2.2.1, paW G a7 z.2.2.2] H → gD A [maW a0 (a1 0) (a2 0) (a3 0) (a4 0) (a7 0 0) (a8 0) (a9 0) (a9 1), stW G a1 z.2.2.1, paW G a7 z.2.2.2] → va_S A s.heap H locs → lv_has ls 8 [(0, .ref (a0 0)), (1, .int p1), (2, .int p2), (3, .int z.1), (4, .int z.2.1)] → (∀ (H : Heap) (locs : List Loc) (ls : Array Slot), gP G [maW a0 (a1 0) (a2 0) (a3 0) (a4 0) (a7 0 0) (a8 0) (a9 0) (a9 1), stW G a1 e1.2.2.1, paW G a7 e1.2.2.2] H → gD A [maW a0 (a1 0) (a2 0) (a3 0) (a4 0) (a7 0 0) (a8 0) (a9 0) (a9 1), stW G a1 e1.2.2.1, paW G a7 e1.2.2.2] → va_S A s.heap H locs → lv_has ls 8 [(0, .ref (a0 0)), (1, .int p1), (2, .int p2), (3, .int e1.1), (4, .int e1.2.1)] → W p l e ({ frames := 3, cells := 0, slots := 0, locals := 66 } : Room) s m args below meth c H locs 0 0 Q (F0 m 164 ls [])) → W p l e ({ frames := 3, cells := 0, slots := 0, locals := 66 } : Room) s m args below meth c H locs 0 0 Q (F0 m 5 ls []) := by
  obtain ⟨hx, hb, hml, hown, hts, hr, hlocks⟩ := id S
  intro n
  induction n with
  | zero => intro z e1 h; cases h
  | succ n ih =>
    intro z e1 hlp H locs ls hP hD hS hl K
    obtain ⟨z9, hf, hz⟩ := lp_s hlp
    unfold b_L_prepare_5 at hf
    refine lv_iload hx hb dL_prepare_5 (lv_at hl 4 rfl) ?_
    refine lv_iload_n hx hb dL_prepare_7 rfl (lv_at hl 1 rfl) ?_
    refine lv_icmp_ge (tgt := 164) hx hb dL_prepare_8 (by decide) (fun c1 => ?_) (fun c1 => ?_)
    · rw [if_pos c1] at hf
      have he := lz_r hf hz
      subst he
      exact K H locs ls hP hD hS (lv_sub hl [0, 1, 2, 3, 4] rfl)
    · rw [if_neg c1] at hf
      refine lv_iload_n hx hb dL_prepare_11 rfl (lv_at hl 3 rfl) ?_
      refine lv_if_eq (tgt := 164) hx hb dL_prepare_12 (by decide) (fun c2 => ?_) (fun c2 => ?_)
      · rw [if_pos c2] at hf
        have he := lz_r hf hz
        subst he
        exact K H locs ls hP hD hS (lv_sub hl [0, 1, 2, 3, 4] rfl)
      · rw [if_neg c2] at hf
        refine lv_iload_n hx hb dL_prepare_15 rfl (lv_at hl 2 rfl) ?_
        refine lv_iconst (v := (3:Int32)) hx hb dL_prepare_16 (by decide) ?_
        refine lv_iload hx hb dL_prepare_17 (lv_at hl 4 rfl) ?_
        refine lv_imul hx hb dL_prepare_19 ?_
        refine lv_ishr hx hb dL_prepare_20 ?_
        obtain ⟨x3, ex3, hf⟩ := lt_some hf
        refine lv_nmi ex3 ?_
        refine lv_istore (lv' := [(5, .int x3), (0, .ref (a0 0)), (1, .int p1), (2, .int p2), (3, .int z.1), (4, .int z.2.1)]) hx hb dL_prepare_21 hl (by decide) rfl (fun ls hl => ?_)
        refine lv_aload_n hx hb dL_prepare_23 rfl (lv_at hl 1 rfl) ?_
        refine lv_iload hx hb dL_prepare_24 (lv_at hl 5 rfl) ?_
        refine lv_iconst (v := (5:Int32)) hx hb dL_prepare_26 (by decide) ?_
        obtain ⟨q4, hq4, hf⟩ := bd_some hf
        refine g_callVi S (As := [.int z.2.1, .int (5:Int32)]) (gs' := [maW a0 (a1 0) (a2 0) (a3 0) (a4 0) (a7 0 0) (a8 0) (a9 0) (a9 1), stW G a1 z.2.2.1, paW G a7 z.2.2.2]) (c_X5_member l G a0 a1 a2 a3 a4 a5 a6 a7 a8 a9 a10 a11 z.2.2.1 z.2.1 (5:Int32) hq4) (cwV 2 hts gL_prepare_X5_member rfl rfl rfl hd_X5_member ⟨Nat.le_of_ble_eq_true rfl, Nat.le_of_ble_eq_true rfl⟩) hK hP hD hS hA (is := [0, 1]) rfl rfl 0 rfl rfl rfl rfl hl.1 rfl (Nat.le_of_ble_eq_true rfl) dL_prepare_27 ⟨Nat.le_of_ble_eq_true rfl, Nat.le_of_ble_eq_true rfl⟩ rfl (fun H locs hP hD hS => ?_)
        refine lv_iconst (v := (1:Int32)) hx hb dL_prepare_30 (by decide) ?_
        refine lv_icmp_ne (tgt := 48) hx hb dL_prepare_31 (by decide) (fun c5 => ?_) (fun c5 => ?_)
        · rw [if_neg c5] at hf
          refine lv_iconst (v := (0:Int32)) hx hb dL_prepare_48 (by decide) ?_
          refine lv_istore (lv' := [(6, .int (0:Int32)), (5, .int x3), (0, .ref (a0 0)), (1, .int p1), (2, .int p2), (3, .int z.1), (4, .int z.2.1)]) hx hb dL_prepare_49 hl (by decide) rfl (fun ls hl => ?_)
          refine lv_iload hx hb dL_prepare_51 (lv_at hl 0 rfl) ?_
          refine lv_if_eq (tgt := 105) hx hb dL_prepare_53 (by decide) (fun c6 => ?_) (fun c6 => ?_)
          · rw [if_pos c6] at hf
            refine lv_iload hx hb dL_prepare_105 (lv_at hl 1 rfl) ?_
            refine lv_iconst (v := (2:Int32)) hx hb dL_prepare_107 (by decide) ?_
            refine lv_ishr hx hb dL_prepare_108 ?_
            refine lv_bipush (v := (7:Int32)) hx hb dL_prepare_109 (by decide) ?_
            obtain ⟨q7, hq7, hf⟩ := bd_some hf
            refine g_callSi S (As := [.int (x3 >>> ((2:Int32) &&& 31)), .int (7:Int32)]) (gs' := [maW a0 (a1 0) (a2 0) (a3 0) (a4 0) (a7 0 0) (a8 0) (a9 0) (a9 1), stW G a1 z.2.2.1, paW G a7 z.2.2.2]) (c_L_low l G (x3 >>> ((2:Int32) &&& 31)) (7:Int32) hq7) (va_cwS 2 hts gL_prepare_L_low rfl rfl rfl hd_L_low.2 ⟨Nat.le_of_ble_eq_true rfl, Nat.le_of_ble_eq_true rfl⟩) hK hP hD hS hA (is := []) rfl rfl rfl hl.1 rfl (Nat.le_of_ble_eq_true rfl) dL_prepare_111 ⟨Nat.le_of_ble_eq_true rfl, Nat.le_of_ble_eq_true rfl⟩ rfl (fun H locs hP hD hS => ?_)
            refine lv_if_ne (tgt := 158) hx hb dL_prepare_114 (by decide) (fun c8 => ?_) (fun c8 => ?_)
            · rw [if_neg c8] at hf
              obtain ⟨x9, ex9, hf⟩ := lt_some hf
              refine lv_iinc (v := x9) (lv' := [(4, .int x9), (6, .int (0:Int32)), (5, .int x3), (0, .ref (a0 0)), (1, .int p1), (2, .int p2), (3, .int z.1)]) hx hb dL_prepare_158 hl (k := 6) rfl (by rw [ex9]; rfl) (by decide) rfl (fun ls hl => ?_)
              refine lv_goto (tgt := 5) hx hb dL_prepare_161 (by decide) ?_
              exact ih _ e1 (lz_l hf hz) H locs ls hP hD hS (lv_sub hl [3, 4, 5, 6, 0] rfl) K
            · rw [if_pos c8] at hf
              refine lv_aload_n hx hb dL_prepare_117 rfl (lv_at hl 2 rfl) ?_
              refine lv_iload hx hb dL_prepare_118 (lv_at hl 6 rfl) ?_
              refine lv_iconst (v := (3:Int32)) hx hb dL_prepare_120 (by decide) ?_
              obtain ⟨q10, hq10, hf⟩ := bd_some hf
              refine g_callVi S (As := [.int z.2.1, .int (3:Int32)]) (gs' := [maW a0 (a1 0) (a2 0) (a3 0) (a4 0) (a7 0 0) (a8 0) (a9 0) (a9 1), stW G a1 z.2.2.1, paW G a7 z.2.2.2]) (c_X5_member l G a0 a1 a2 a3 a4 a5 a6 a7 a8 a9 a10 a11 z.2.2.1 z.2.1 (3:Int32) hq10) (cwV 2 hts gL_prepare_X5_member rfl rfl rfl hd_X5_member ⟨Nat.le_of_ble_eq_true rfl, Nat.le_of_ble_eq_true rfl⟩) hK hP hD hS hA (is := [0, 1]) rfl rfl 0 rfl rfl rfl rfl hl.1 rfl (Nat.le_of_ble_eq_true rfl) dL_prepare_121 ⟨Nat.le_of_ble_eq_true rfl, Nat.le_of_ble_eq_true rfl⟩ rfl (fun H locs hP hD hS => ?_)
              refine lv_if_ne (tgt := 158) hx hb dL_prepare_124 (by decide) (fun c11 => ?_) (fun c11 => ?_)
              · rw [if_neg c11] at hf
                obtain ⟨x12, ex12, hf⟩ := lt_some hf
                refine lv_iinc (v := x12) (lv' := [(4, .int x12), (6, .int (0:Int32)), (5, .int x3), (0, .ref (a0 0)), (1, .int p1), (2, .int p2), (3, .int z.1)]) hx hb dL_prepare_158 hl (k := 6) rfl (by rw [ex12]; rfl) (by decide) rfl (fun ls hl => ?_)
                refine lv_goto (tgt := 5) hx hb dL_prepare_161 (by decide) ?_
                exact ih _ e1 (lz_l hf hz) H locs ls hP hD hS (lv_sub hl [3, 4, 5, 6, 0] rfl) K
              · rw [if_pos c11] at hf
                refine lv_iload_n hx hb dL_prepare_127 rfl (lv_at hl 5 rfl) ?_
                refine lv_if_eq (tgt := 156) hx hb dL_prepare_128 (by decide) (fun c13 => ?_) (fun c13 => ?_)
                · rw [if_pos c13] at hf
                  refine lv_iconst (v := (0:Int32)) hx hb dL_prepare_156 (by decide) ?_
                  refine lv_istore_n (lv' := [(3, .int (0:Int32)), (6, .int (0:Int32)), (5, .int x3), (0, .ref (a0 0)), (1, .int p1), (2, .int p2), (4, .int z.2.1)]) hx hb dL_prepare_157 rfl hl (by decide) rfl (fun ls hl => ?_)
                  obtain ⟨x14, ex14, hf⟩ := lt_some hf
                  refine lv_iinc (v := x14) (lv' := [(4, .int x14), (3, .int (0:Int32)), (6, .int (0:Int32)), (5, .int x3), (0, .ref (a0 0)), (1, .int p1), (2, .int p2)]) hx hb dL_prepare_158 hl (k := 6) rfl (by rw [ex14]; rfl) (by decide) rfl (fun ls hl => ?_)
                  refine lv_goto (tgt := 5) hx hb dL_prepare_161 (by decide) ?_
                  exact ih _ e1 (lz_l hf hz) H locs ls hP hD hS (lv_sub hl [4, 5, 6, 1, 0] rfl) K
                · rw [if_neg c13] at hf
                  refine lv_aload_n hx hb dL_prepare_131 rfl (lv_at hl 2 rfl) ?_
                  refine lv_iload hx hb dL_prepare_132 (lv_at hl 6 rfl) ?_
                  refine lv_iconst (v := (1:Int32)) hx hb dL_prepare_134 (by decide) ?_
                  obtain ⟨q15, hq15, hf⟩ := bd_some hf
                  refine g_callVi S (As := [.int z.2.1, .int (1:Int32)]) (gs' := [maW a0 (a1 0) (a2 0) (a3 0) (a4 0) (a7 0 0) (a8 0) (a9 0) (a9 1), stW G a1 q15.2.1, paW G a7 q15.2.2]) (c_X5_stayAway l G a0 a1 a2 a3 a4 a5 a6 a7 a8 a9 a10 a11 z.2.2.1 z.2.2.2 z.2.1 (1:Int32) hq15) (cwV 2 hts gL_prepare_X5_stayAway rfl rfl rfl hd_X5_stayAway ⟨Nat.le_of_ble_eq_true rfl, Nat.le_of_ble_eq_true rfl⟩) hK hP hD hS hA (is := [0, 1, 2]) rfl rfl 0 rfl rfl rfl rfl hl.1 rfl (Nat.le_of_ble_eq_true rfl) dL_prepare_135 ⟨Nat.le_of_ble_eq_true rfl, Nat.le_of_ble_eq_true rfl⟩ rfl (fun H locs hP hD hS => ?_)
                  refine lv_if_ne (tgt := 156) hx hb dL_prepare_138 (by decide) (fun c16 => ?_) (fun c16 => ?_)
                  · rw [if_neg c16] at hf
                    refine lv_iconst (v := (0:Int32)) hx hb dL_prepare_156 (by decide) ?_
                    refine lv_istore_n (lv' := [(3, .int (0:Int32)), (6, .int (0:Int32)), (5, .int x3), (0, .ref (a0 0)), (1, .int p1), (2, .int p2), (4, .int z.2.1)]) hx hb dL_prepare_157 rfl hl (by decide) rfl (fun ls hl => ?_)
                    obtain ⟨x17, ex17, hf⟩ := lt_some hf
                    refine lv_iinc (v := x17) (lv' := [(4, .int x17), (3, .int (0:Int32)), (6, .int (0:Int32)), (5, .int x3), (0, .ref (a0 0)), (1, .int p1), (2, .int p2)]) hx hb dL_prepare_158 hl (k := 6) rfl (by rw [ex17]; rfl) (by decide) rfl (fun ls hl => ?_)
                    refine lv_goto (tgt := 5) hx hb dL_prepare_161 (by decide) ?_
                    exact ih _ e1 (lz_l hf hz) H locs ls hP hD hS (lv_sub hl [4, 5, 6, 1, 0] rfl) K
                  · rw [if_pos c16] at hf
                    refine lv_aload_n hx hb dL_prepare_141 rfl (lv_at hl 2 rfl) ?_
                    refine lv_iload hx hb dL_prepare_142 (lv_at hl 6 rfl) ?_
                    refine lv_iconst (v := (3:Int32)) hx hb dL_prepare_144 (by decide) ?_
                    obtain ⟨q18, hq18, hf⟩ := bd_some hf
                    refine g_callVi S (As := [.int z.2.1, .int (3:Int32)]) (gs' := [maW a0 (a1 0) (a2 0) (a3 0) (a4 0) (a7 0 0) (a8 0) (a9 0) (a9 1), stW G a1 q15.2.1, paW G a7 q15.2.2]) (c_X5_member l G a0 a1 a2 a3 a4 a5 a6 a7 a8 a9 a10 a11 q15.2.1 z.2.1 (3:Int32) hq18) (cwV 2 hts gL_prepare_X5_member rfl rfl rfl hd_X5_member ⟨Nat.le_of_ble_eq_true rfl, Nat.le_of_ble_eq_true rfl⟩) hK hP hD hS hA (is := [0, 1]) rfl rfl 0 rfl rfl rfl rfl hl.1 rfl (Nat.le_of_ble_eq_true rfl) dL_prepare_145 ⟨Nat.le_of_ble_eq_true rfl, Nat.le_of_ble_eq_true rfl⟩ rfl (fun H locs hP hD hS => ?_)
                    refine lv_iconst (v := (1:Int32)) hx hb dL_prepare_148 (by decide) ?_
                    refine lv_icmp_ne (tgt := 156) hx hb dL_prepare_149 (by decide) (fun c19 => ?_) (fun c19 => ?_)
                    · rw [if_neg c19] at hf
                      refine lv_iconst (v := (0:Int32)) hx hb dL_prepare_156 (by decide) ?_
                      refine lv_istore_n (lv' := [(3, .int (0:Int32)), (6, .int (0:Int32)), (5, .int x3), (0, .ref (a0 0)), (1, .int p1), (2, .int p2), (4, .int z.2.1)]) hx hb dL_prepare_157 rfl hl (by decide) rfl (fun ls hl => ?_)
                      obtain ⟨x20, ex20, hf⟩ := lt_some hf
                      refine lv_iinc (v := x20) (lv' := [(4, .int x20), (3, .int (0:Int32)), (6, .int (0:Int32)), (5, .int x3), (0, .ref (a0 0)), (1, .int p1), (2, .int p2)]) hx hb dL_prepare_158 hl (k := 6) rfl (by rw [ex20]; rfl) (by decide) rfl (fun ls hl => ?_)
                      refine lv_goto (tgt := 5) hx hb dL_prepare_161 (by decide) ?_
                      exact ih _ e1 (lz_l hf hz) H locs ls hP hD hS (lv_sub hl [4, 5, 6, 1, 0] rfl) K
                    · rw [if_pos c19] at hf
                      refine lv_iconst (v := (1:Int32)) hx hb dL_prepare_152 (by decide) ?_
                      refine lv_goto (tgt := 157) hx hb dL_prepare_153 (by decide) ?_
                      refine lv_istore_n (lv' := [(3, .int (1:Int32)), (6, .int (0:Int32)), (5, .int x3), (0, .ref (a0 0)), (1, .int p1), (2, .int p2), (4, .int z.2.1)]) hx hb dL_prepare_157 rfl hl (by decide) rfl (fun ls hl => ?_)
                      obtain ⟨x21, ex21, hf⟩ := lt_some hf
                      refine lv_iinc (v := x21) (lv' := [(4, .int x21), (3, .int (1:Int32)), (6, .int (0:Int32)), (5, .int x3), (0, .ref (a0 0)), (1, .int p1), (2, .int p2)]) hx hb dL_prepare_158 hl (k := 6) rfl (by rw [ex21]; rfl) (by decide) rfl (fun ls hl => ?_)
                      refine lv_goto (tgt := 5) hx hb dL_prepare_161 (by decide) ?_
                      exact ih _ e1 (lz_l hf hz) H locs ls hP hD hS (lv_sub hl [4, 5, 6, 1, 0] rfl) K
          · rw [if_neg c6] at hf
            refine lv_iload hx hb dL_prepare_56 (lv_at hl 1 rfl) ?_
            refine lv_iconst (v := (2:Int32)) hx hb dL_prepare_58 (by decide) ?_
            obtain ⟨q22, hq22, hf⟩ := bd_some hf
            refine g_callSi S (As := [.int x3, .int (2:Int32)]) (gs' := [maW a0 (a1 0) (a2 0) (a3 0) (a4 0) (a7 0 0) (a8 0) (a9 0) (a9 1), stW G a1 z.2.2.1, paW G a7 z.2.2.2]) (c_L_low l G x3 (2:Int32) hq22) (va_cwS 2 hts gL_prepare_L_low rfl rfl rfl hd_L_low.2 ⟨Nat.le_of_ble_eq_true rfl, Nat.le_of_ble_eq_true rfl⟩) hK hP hD hS hA (is := []) rfl rfl rfl hl.1 rfl (Nat.le_of_ble_eq_true rfl) dL_prepare_59 ⟨Nat.le_of_ble_eq_true rfl, Nat.le_of_ble_eq_true rfl⟩ rfl (fun H locs hP hD hS => ?_)
            refine lv_if_ne (tgt := 105) hx hb dL_prepare_62 (by decide) (fun c23 => ?_) (fun c23 => ?_)
            · rw [if_neg c23] at hf
              refine lv_iload hx hb dL_prepare_105 (lv_at hl 1 rfl) ?_
              refine lv_iconst (v := (2:Int32)) hx hb dL_prepare_107 (by decide) ?_
              refine lv_ishr hx hb dL_prepare_108 ?_
              refine lv_bipush (v := (7:Int32)) hx hb dL_prepare_109 (by decide) ?_
              obtain ⟨q24, hq24, hf⟩ := bd_some hf
              refine g_callSi S (As := [.int (x3 >>> ((2:Int32) &&& 31)), .int (7:Int32)]) (gs' := [maW a0 (a1 0) (a2 0) (a3 0) (a4 0) (a7 0 0) (a8 0) (a9 0) (a9 1), stW G a1 z.2.2.1, paW G a7 z.2.2.2]) (c_L_low l G (x3 >>> ((2:Int32) &&& 31)) (7:Int32) hq24) (va_cwS 2 hts gL_prepare_L_low rfl rfl rfl hd_L_low.2 ⟨Nat.le_of_ble_eq_true rfl, Nat.le_of_ble_eq_true rfl⟩) hK hP hD hS hA (is := []) rfl rfl rfl hl.1 rfl (Nat.le_of_ble_eq_true rfl) dL_prepare_111 ⟨Nat.le_of_ble_eq_true rfl, Nat.le_of_ble_eq_true rfl⟩ rfl (fun H locs hP hD hS => ?_)
              refine lv_if_ne (tgt := 158) hx hb dL_prepare_114 (by decide) (fun c25 => ?_) (fun c25 => ?_)
              · rw [if_neg c25] at hf
                obtain ⟨x26, ex26, hf⟩ := lt_some hf
                refine lv_iinc (v := x26) (lv' := [(4, .int x26), (6, .int (0:Int32)), (5, .int x3), (0, .ref (a0 0)), (1, .int p1), (2, .int p2), (3, .int z.1)]) hx hb dL_prepare_158 hl (k := 6) rfl (by rw [ex26]; rfl) (by decide) rfl (fun ls hl => ?_)
                refine lv_goto (tgt := 5) hx hb dL_prepare_161 (by decide) ?_
                exact ih _ e1 (lz_l hf hz) H locs ls hP hD hS (lv_sub hl [3, 4, 5, 6, 0] rfl) K
              · rw [if_pos c25] at hf
                refine lv_aload_n hx hb dL_prepare_117 rfl (lv_at hl 2 rfl) ?_
                refine lv_iload hx hb dL_prepare_118 (lv_at hl 6 rfl) ?_
                refine lv_iconst (v := (3:Int32)) hx hb dL_prepare_120 (by decide) ?_
                obtain ⟨q27, hq27, hf⟩ := bd_some hf
                refine g_callVi S (As := [.int z.2.1, .int (3:Int32)]) (gs' := [maW a0 (a1 0) (a2 0) (a3 0) (a4 0) (a7 0 0) (a8 0) (a9 0) (a9 1), stW G a1 z.2.2.1, paW G a7 z.2.2.2]) (c_X5_member l G a0 a1 a2 a3 a4 a5 a6 a7 a8 a9 a10 a11 z.2.2.1 z.2.1 (3:Int32) hq27) (cwV 2 hts gL_prepare_X5_member rfl rfl rfl hd_X5_member ⟨Nat.le_of_ble_eq_true rfl, Nat.le_of_ble_eq_true rfl⟩) hK hP hD hS hA (is := [0, 1]) rfl rfl 0 rfl rfl rfl rfl hl.1 rfl (Nat.le_of_ble_eq_true rfl) dL_prepare_121 ⟨Nat.le_of_ble_eq_true rfl, Nat.le_of_ble_eq_true rfl⟩ rfl (fun H locs hP hD hS => ?_)
                refine lv_if_ne (tgt := 158) hx hb dL_prepare_124 (by decide) (fun c28 => ?_) (fun c28 => ?_)
                · rw [if_neg c28] at hf
                  obtain ⟨x29, ex29, hf⟩ := lt_some hf
                  refine lv_iinc (v := x29) (lv' := [(4, .int x29), (6, .int (0:Int32)), (5, .int x3), (0, .ref (a0 0)), (1, .int p1), (2, .int p2), (3, .int z.1)]) hx hb dL_prepare_158 hl (k := 6) rfl (by rw [ex29]; rfl) (by decide) rfl (fun ls hl => ?_)
                  refine lv_goto (tgt := 5) hx hb dL_prepare_161 (by decide) ?_
                  exact ih _ e1 (lz_l hf hz) H locs ls hP hD hS (lv_sub hl [3, 4, 5, 6, 0] rfl) K
                · rw [if_pos c28] at hf
                  refine lv_iload_n hx hb dL_prepare_127 rfl (lv_at hl 5 rfl) ?_
                  refine lv_if_eq (tgt := 156) hx hb dL_prepare_128 (by decide) (fun c30 => ?_) (fun c30 => ?_)
                  · rw [if_pos c30] at hf
                    refine lv_iconst (v := (0:Int32)) hx hb dL_prepare_156 (by decide) ?_
                    refine lv_istore_n (lv' := [(3, .int (0:Int32)), (6, .int (0:Int32)), (5, .int x3), (0, .ref (a0 0)), (1, .int p1), (2, .int p2), (4, .int z.2.1)]) hx hb dL_prepare_157 rfl hl (by decide) rfl (fun ls hl => ?_)
                    obtain ⟨x31, ex31, hf⟩ := lt_some hf
                    refine lv_iinc (v := x31) (lv' := [(4, .int x31), (3, .int (0:Int32)), (6, .int (0:Int32)), (5, .int x3), (0, .ref (a0 0)), (1, .int p1), (2, .int p2)]) hx hb dL_prepare_158 hl (k := 6) rfl (by rw [ex31]; rfl) (by decide) rfl (fun ls hl => ?_)
                    refine lv_goto (tgt := 5) hx hb dL_prepare_161 (by decide) ?_
                    exact ih _ e1 (lz_l hf hz) H locs ls hP hD hS (lv_sub hl [4, 5, 6, 1, 0] rfl) K
                  · rw [if_neg c30] at hf
                    refine lv_aload_n hx hb dL_prepare_131 rfl (lv_at hl 2 rfl) ?_
                    refine lv_iload hx hb dL_prepare_132 (lv_at hl 6 rfl) ?_
                    refine lv_iconst (v := (1:Int32)) hx hb dL_prepare_134 (by decide) ?_
                    obtain ⟨q32, hq32, hf⟩ := bd_some hf
                    refine g_callVi S (As := [.int z.2.1, .int (1:Int32)]) (gs' := [maW a0 (a1 0) (a2 0) (a3 0) (a4 0) (a7 0 0) (a8 0) (a9 0) (a9 1), stW G a1 q32.2.1, paW G a7 q32.2.2]) (c_X5_stayAway l G a0 a1 a2 a3 a4 a5 a6 a7 a8 a9 a10 a11 z.2.2.1 z.2.2.2 z.2.1 (1:Int32) hq32) (cwV 2 hts gL_prepare_X5_stayAway rfl rfl rfl hd_X5_stayAway ⟨Nat.le_of_ble_eq_true rfl, Nat.le_of_ble_eq_true rfl⟩) hK hP hD hS hA (is := [0, 1, 2]) rfl rfl 0 rfl rfl rfl rfl hl.1 rfl (Nat.le_of_ble_eq_true rfl) dL_prepare_135 ⟨Nat.le_of_ble_eq_true rfl, Nat.le_of_ble_eq_true rfl⟩ rfl (fun H locs hP hD hS => ?_)
                    refine lv_if_ne (tgt := 156) hx hb dL_prepare_138 (by decide) (fun c33 => ?_) (fun c33 => ?_)
                    · rw [if_neg c33] at hf
                      refine lv_iconst (v := (0:Int32)) hx hb dL_prepare_156 (by decide) ?_
                      refine lv_istore_n (lv' := [(3, .int (0:Int32)), (6, .int (0:Int32)), (5, .int x3), (0, .ref (a0 0)), (1, .int p1), (2, .int p2), (4, .int z.2.1)]) hx hb dL_prepare_157 rfl hl (by decide) rfl (fun ls hl => ?_)
                      obtain ⟨x34, ex34, hf⟩ := lt_some hf
                      refine lv_iinc (v := x34) (lv' := [(4, .int x34), (3, .int (0:Int32)), (6, .int (0:Int32)), (5, .int x3), (0, .ref (a0 0)), (1, .int p1), (2, .int p2)]) hx hb dL_prepare_158 hl (k := 6) rfl (by rw [ex34]; rfl) (by decide) rfl (fun ls hl => ?_)
                      refine lv_goto (tgt := 5) hx hb dL_prepare_161 (by decide) ?_
                      exact ih _ e1 (lz_l hf hz) H locs ls hP hD hS (lv_sub hl [4, 5, 6, 1, 0] rfl) K
                    · rw [if_pos c33] at hf
                      refine lv_aload_n hx hb dL_prepare_141 rfl (lv_at hl 2 rfl) ?_
                      refine lv_iload hx hb dL_prepare_142 (lv_at hl 6 rfl) ?_
                      refine lv_iconst (v := (3:Int32)) hx hb dL_prepare_144 (by decide) ?_
                      obtain ⟨q35, hq35, hf⟩ := bd_some hf
                      refine g_callVi S (As := [.int z.2.1, .int (3:Int32)]) (gs' := [maW a0 (a1 0) (a2 0) (a3 0) (a4 0) (a7 0 0) (a8 0) (a9 0) (a9 1), stW G a1 q32.2.1, paW G a7 q32.2.2]) (c_X5_member l G a0 a1 a2 a3 a4 a5 a6 a7 a8 a9 a10 a11 q32.2.1 z.2.1 (3:Int32) hq35) (cwV 2 hts gL_prepare_X5_member rfl rfl rfl hd_X5_member ⟨Nat.le_of_ble_eq_true rfl, Nat.le_of_ble_eq_true rfl⟩) hK hP hD hS hA (is := [0, 1]) rfl rfl 0 rfl rfl rfl rfl hl.1 rfl (Nat.le_of_ble_eq_true rfl) dL_prepare_145 ⟨Nat.le_of_ble_eq_true rfl, Nat.le_of_ble_eq_true rfl⟩ rfl (fun H locs hP hD hS => ?_)
                      refine lv_iconst (v := (1:Int32)) hx hb dL_prepare_148 (by decide) ?_
                      refine lv_icmp_ne (tgt := 156) hx hb dL_prepare_149 (by decide) (fun c36 => ?_) (fun c36 => ?_)
                      · rw [if_neg c36] at hf
                        refine lv_iconst (v := (0:Int32)) hx hb dL_prepare_156 (by decide) ?_
                        refine lv_istore_n (lv' := [(3, .int (0:Int32)), (6, .int (0:Int32)), (5, .int x3), (0, .ref (a0 0)), (1, .int p1), (2, .int p2), (4, .int z.2.1)]) hx hb dL_prepare_157 rfl hl (by decide) rfl (fun ls hl => ?_)
                        obtain ⟨x37, ex37, hf⟩ := lt_some hf
                        refine lv_iinc (v := x37) (lv' := [(4, .int x37), (3, .int (0:Int32)), (6, .int (0:Int32)), (5, .int x3), (0, .ref (a0 0)), (1, .int p1), (2, .int p2)]) hx hb dL_prepare_158 hl (k := 6) rfl (by rw [ex37]; rfl) (by decide) rfl (fun ls hl => ?_)
                        refine lv_goto (tgt := 5) hx hb dL_prepare_161 (by decide) ?_
                        exact ih _ e1 (lz_l hf hz) H locs ls hP hD hS (lv_sub hl [4, 5, 6, 1, 0] rfl) K
                      · rw [if_pos c36] at hf
                        refine lv_iconst (v := (1:Int32)) hx hb dL_prepare_152 (by decide) ?_
                        refine lv_goto (tgt := 157) hx hb dL_prepare_153 (by decide) ?_
                        refine lv_istore_n (lv' := [(3, .int (1:Int32)), (6, .int (0:Int32)), (5, .int x3), (0, .ref (a0 0)), (1, .int p1), (2, .int p2), (4, .int z.2.1)]) hx hb dL_prepare_157 rfl hl (by decide) rfl (fun ls hl => ?_)
                        obtain ⟨x38, ex38, hf⟩ := lt_some hf
                        refine lv_iinc (v := x38) (lv' := [(4, .int x38), (3, .int (1:Int32)), (6, .int (0:Int32)), (5, .int x3), (0, .ref (a0 0)), (1, .int p1), (2, .int p2)]) hx hb dL_prepare_158 hl (k := 6) rfl (by rw [ex38]; rfl) (by decide) rfl (fun ls hl => ?_)
                        refine lv_goto (tgt := 5) hx hb dL_prepare_161 (by decide) ?_
                        exact ih _ e1 (lz_l hf hz) H locs ls hP hD hS (lv_sub hl [4, 5, 6, 1, 0] rfl) K
            · rw [if_pos c23] at hf
              refine lv_iload hx hb dL_prepare_65 (lv_at hl 1 rfl) ?_
              refine lv_iconst (v := (1:Int32)) hx hb dL_prepare_67 (by decide) ?_
              refine lv_ishr hx hb dL_prepare_68 ?_
              refine lv_bipush (v := (60:Int32)) hx hb dL_prepare_69 (by decide) ?_
              obtain ⟨q39, hq39, hf⟩ := bd_some hf
              refine g_callSi S (As := [.int (x3 >>> ((1:Int32) &&& 31)), .int (60:Int32)]) (gs' := [maW a0 (a1 0) (a2 0) (a3 0) (a4 0) (a7 0 0) (a8 0) (a9 0) (a9 1), stW G a1 z.2.2.1, paW G a7 z.2.2.2]) (c_L_low l G (x3 >>> ((1:Int32) &&& 31)) (60:Int32) hq39) (va_cwS 2 hts gL_prepare_L_low rfl rfl rfl hd_L_low.2 ⟨Nat.le_of_ble_eq_true rfl, Nat.le_of_ble_eq_true rfl⟩) hK hP hD hS hA (is := []) rfl rfl rfl hl.1 rfl (Nat.le_of_ble_eq_true rfl) dL_prepare_71 ⟨Nat.le_of_ble_eq_true rfl, Nat.le_of_ble_eq_true rfl⟩ rfl (fun H locs hP hD hS => ?_)
              refine lv_istore (lv' := [(7, .int q39.1), (6, .int (0:Int32)), (5, .int x3), (0, .ref (a0 0)), (1, .int p1), (2, .int p2), (3, .int z.1), (4, .int z.2.1)]) hx hb dL_prepare_74 hl (by decide) rfl (fun ls hl => ?_)
              refine lv_aload_n hx hb dL_prepare_76 rfl (lv_at hl 3 rfl) ?_
              refine lv_iload hx hb dL_prepare_77 (lv_at hl 7 rfl) ?_
              refine lv_iload hx hb dL_prepare_79 (lv_at hl 0 rfl) ?_
              obtain ⟨q40, hq40, hf⟩ := bd_some hf
              refine g_callVi S (As := [.int z.2.1, .int q39.1]) (gs' := [maW a0 (a1 0) (a2 0) (a3 0) (a4 0) (a7 0 0) (a8 0) (a9 0) (a9 1), stW G a1 q40.2.1, paW G a7 q40.2.2]) (c_X5_bid l G a0 a1 a2 a3 a4 a5 a6 a7 a8 a9 a10 a11 z.2.2.1 z.2.2.2 z.2.1 q39.1 hq40) (cwV 2 hts gL_prepare_X5_bid rfl rfl rfl hd_X5_bid ⟨Nat.le_of_ble_eq_true rfl, Nat.le_of_ble_eq_true rfl⟩) hK hP hD hS hA (is := [0, 1, 2]) rfl rfl 0 rfl rfl rfl rfl hl.1 rfl (Nat.le_of_ble_eq_true rfl) dL_prepare_81 ⟨Nat.le_of_ble_eq_true rfl, Nat.le_of_ble_eq_true rfl⟩ rfl (fun H locs hP hD hS => ?_)
              refine lv_if_ne (tgt := 103) hx hb dL_prepare_84 (by decide) (fun c41 => ?_) (fun c41 => ?_)
              · rw [if_neg c41] at hf
                refine lv_iconst (v := (0:Int32)) hx hb dL_prepare_103 (by decide) ?_
                refine lv_istore_n (lv' := [(3, .int (0:Int32)), (7, .int q39.1), (6, .int (0:Int32)), (5, .int x3), (0, .ref (a0 0)), (1, .int p1), (2, .int p2), (4, .int z.2.1)]) hx hb dL_prepare_104 rfl hl (by decide) rfl (fun ls hl => ?_)
                refine lv_iload hx hb dL_prepare_105 (lv_at hl 3 rfl) ?_
                refine lv_iconst (v := (2:Int32)) hx hb dL_prepare_107 (by decide) ?_
                refine lv_ishr hx hb dL_prepare_108 ?_
                refine lv_bipush (v := (7:Int32)) hx hb dL_prepare_109 (by decide) ?_
                obtain ⟨q42, hq42, hf⟩ := bd_some hf
                refine g_callSi S (As := [.int (x3 >>> ((2:Int32) &&& 31)), .int (7:Int32)]) (gs' := [maW a0 (a1 0) (a2 0) (a3 0) (a4 0) (a7 0 0) (a8 0) (a9 0) (a9 1), stW G a1 q40.2.1, paW G a7 q40.2.2]) (c_L_low l G (x3 >>> ((2:Int32) &&& 31)) (7:Int32) hq42) (va_cwS 2 hts gL_prepare_L_low rfl rfl rfl hd_L_low.2 ⟨Nat.le_of_ble_eq_true rfl, Nat.le_of_ble_eq_true rfl⟩) hK hP hD hS hA (is := []) rfl rfl rfl hl.1 rfl (Nat.le_of_ble_eq_true rfl) dL_prepare_111 ⟨Nat.le_of_ble_eq_true rfl, Nat.le_of_ble_eq_true rfl⟩ rfl (fun H locs hP hD hS => ?_)
                refine lv_if_ne (tgt := 158) hx hb dL_prepare_114 (by decide) (fun c43 => ?_) (fun c43 => ?_)
                · rw [if_neg c43] at hf
                  obtain ⟨x44, ex44, hf⟩ := lt_some hf
                  refine lv_iinc (v := x44) (lv' := [(4, .int x44), (3, .int (0:Int32)), (7, .int q39.1), (6, .int (0:Int32)), (5, .int x3), (0, .ref (a0 0)), (1, .int p1), (2, .int p2)]) hx hb dL_prepare_158 hl (k := 7) rfl (by rw [ex44]; rfl) (by decide) rfl (fun ls hl => ?_)
                  refine lv_goto (tgt := 5) hx hb dL_prepare_161 (by decide) ?_
                  exact ih _ e1 (lz_l hf hz) H locs ls hP hD hS (lv_sub hl [5, 6, 7, 1, 0] rfl) K
                · rw [if_pos c43] at hf
                  refine lv_aload_n hx hb dL_prepare_117 rfl (lv_at hl 4 rfl) ?_
                  refine lv_iload hx hb dL_prepare_118 (lv_at hl 7 rfl) ?_
                  refine lv_iconst (v := (3:Int32)) hx hb dL_prepare_120 (by decide) ?_
                  obtain ⟨q45, hq45, hf⟩ := bd_some hf
                  refine g_callVi S (As := [.int z.2.1, .int (3:Int32)]) (gs' := [maW a0 (a1 0) (a2 0) (a3 0) (a4 0) (a7 0 0) (a8 0) (a9 0) (a9 1), stW G a1 q40.2.1, paW G a7 q40.2.2]) (c_X5_member l G a0 a1 a2 a3 a4 a5 a6 a7 a8 a9 a10 a11 q40.2.1 z.2.1 (3:Int32) hq45) (cwV 2 hts gL_prepare_X5_member rfl rfl rfl hd_X5_member ⟨Nat.le_of_ble_eq_true rfl, Nat.le_of_ble_eq_true rfl⟩) hK hP hD hS hA (is := [0, 1]) rfl rfl 0 rfl rfl rfl rfl hl.1 rfl (Nat.le_of_ble_eq_true rfl) dL_prepare_121 ⟨Nat.le_of_ble_eq_true rfl, Nat.le_of_ble_eq_true rfl⟩ rfl (fun H locs hP hD hS => ?_)
                  refine lv_if_ne (tgt := 158) hx hb dL_prepare_124 (by decide) (fun c46 => ?_) (fun c46 => ?_)
                  · rw [if_neg c46] at hf
                    obtain ⟨x47, ex47, hf⟩ := lt_some hf
                    refine lv_iinc (v := x47) (lv' := [(4, .int x47), (3, .int (0:Int32)), (7, .int q39.1), (6, .int (0:Int32)), (5, .int x3), (0, .ref (a0 0)), (1, .int p1), (2, .int p2)]) hx hb dL_prepare_158 hl (k := 7) rfl (by rw [ex47]; rfl) (by decide) rfl (fun ls hl => ?_)
                    refine lv_goto (tgt := 5) hx hb dL_prepare_161 (by decide) ?_
                    exact ih _ e1 (lz_l hf hz) H locs ls hP hD hS (lv_sub hl [5, 6, 7, 1, 0] rfl) K
                  · rw [if_pos c46] at hf
                    refine lv_iload_n hx hb dL_prepare_127 rfl (lv_at hl 0 rfl) ?_
                    refine lv_if_eq (tgt := 156) hx hb dL_prepare_128 (by decide) (fun c48 => ?_) (fun c48 => ?_)
                    · rw [if_pos c48] at hf
                      refine lv_iconst (v := (0:Int32)) hx hb dL_prepare_156 (by decide) ?_
                      refine lv_istore_n (lv' := [(3, .int (0:Int32)), (7, .int q39.1), (6, .int (0:Int32)), (5, .int x3), (0, .ref (a0 0)), (1, .int p1), (2, .int p2), (4, .int z.2.1)]) hx hb dL_prepare_157 rfl hl (by decide) rfl (fun ls hl => ?_)
                      obtain ⟨x49, ex49, hf⟩ := lt_some hf
                      refine lv_iinc (v := x49) (lv' := [(4, .int x49), (3, .int (0:Int32)), (7, .int q39.1), (6, .int (0:Int32)), (5, .int x3), (0, .ref (a0 0)), (1, .int p1), (2, .int p2)]) hx hb dL_prepare_158 hl (k := 7) rfl (by rw [ex49]; rfl) (by decide) rfl (fun ls hl => ?_)
                      refine lv_goto (tgt := 5) hx hb dL_prepare_161 (by decide) ?_
                      exact ih _ e1 (lz_l hf hz) H locs ls hP hD hS (lv_sub hl [5, 6, 7, 1, 0] rfl) K
                    · rw [if_neg c48] at hf
                      refine lv_aload_n hx hb dL_prepare_131 rfl (lv_at hl 4 rfl) ?_
                      refine lv_iload hx hb dL_prepare_132 (lv_at hl 7 rfl) ?_
                      refine lv_iconst (v := (1:Int32)) hx hb dL_prepare_134 (by decide) ?_
                      obtain ⟨q50, hq50, hf⟩ := bd_some hf
                      refine g_callVi S (As := [.int z.2.1, .int (1:Int32)]) (gs' := [maW a0 (a1 0) (a2 0) (a3 0) (a4 0) (a7 0 0) (a8 0) (a9 0) (a9 1), stW G a1 q50.2.1, paW G a7 q50.2.2]) (c_X5_stayAway l G a0 a1 a2 a3 a4 a5 a6 a7 a8 a9 a10 a11 q40.2.1 q40.2.2 z.2.1 (1:Int32) hq50) (cwV 2 hts gL_prepare_X5_stayAway rfl rfl rfl hd_X5_stayAway ⟨Nat.le_of_ble_eq_true rfl, Nat.le_of_ble_eq_true rfl⟩) hK hP hD hS hA (is := [0, 1, 2]) rfl rfl 0 rfl rfl rfl rfl hl.1 rfl (Nat.le_of_ble_eq_true rfl) dL_prepare_135 ⟨Nat.le_of_ble_eq_true rfl, Nat.le_of_ble_eq_true rfl⟩ rfl (fun H locs hP hD hS => ?_)
                      refine lv_if_ne (tgt := 156) hx hb dL_prepare_138 (by decide) (fun c51 => ?_) (fun c51 => ?_)
                      · rw [if_neg c51] at hf
                        refine lv_iconst (v := (0:Int32)) hx hb dL_prepare_156 (by decide) ?_
                        refine lv_istore_n (lv' := [(3, .int (0:Int32)), (7, .int q39.1), (6, .int (0:Int32)), (5, .int x3), (0, .ref (a0 0)), (1, .int p1), (2, .int p2), (4, .int z.2.1)]) hx hb dL_prepare_157 rfl hl (by decide) rfl (fun ls hl => ?_)
                        obtain ⟨x52, ex52, hf⟩ := lt_some hf
                        refine lv_iinc (v := x52) (lv' := [(4, .int x52), (3, .int (0:Int32)), (7, .int q39.1), (6, .int (0:Int32)), (5, .int x3), (0, .ref (a0 0)), (1, .int p1), (2, .int p2)]) hx hb dL_prepare_158 hl (k := 7) rfl (by rw [ex52]; rfl) (by decide) rfl (fun ls hl => ?_)
                        refine lv_goto (tgt := 5) hx hb dL_prepare_161 (by decide) ?_
                        exact ih _ e1 (lz_l hf hz) H locs ls hP hD hS (lv_sub hl [5, 6, 7, 1, 0] rfl) K
                      · rw [if_pos c51] at hf
                        refine lv_aload_n hx hb dL_prepare_141 rfl (lv_at hl 4 rfl) ?_
                        refine lv_iload hx hb dL_prepare_142 (lv_at hl 7 rfl) ?_
                        refine lv_iconst (v := (3:Int32)) hx hb dL_prepare_144 (by decide) ?_
                        obtain ⟨q53, hq53, hf⟩ := bd_some hf
                        refine g_callVi S (As := [.int z.2.1, .int (3:Int32)]) (gs' := [maW a0 (a1 0) (a2 0) (a3 0) (a4 0) (a7 0 0) (a8 0) (a9 0) (a9 1), stW G a1 q50.2.1, paW G a7 q50.2.2]) (c_X5_member l G a0 a1 a2 a3 a4 a5 a6 a7 a8 a9 a10 a11 q50.2.1 z.2.1 (3:Int32) hq53) (cwV 2 hts gL_prepare_X5_member rfl rfl rfl hd_X5_member ⟨Nat.le_of_ble_eq_true rfl, Nat.le_of_ble_eq_true rfl⟩) hK hP hD hS hA (is := [0, 1]) rfl rfl 0 rfl rfl rfl rfl hl.1 rfl (Nat.le_of_ble_eq_true rfl) dL_prepare_145 ⟨Nat.le_of_ble_eq_true rfl, Nat.le_of_ble_eq_true rfl⟩ rfl (fun H locs hP hD hS => ?_)
                        refine lv_iconst (v := (1:Int32)) hx hb dL_prepare_148 (by decide) ?_
                        refine lv_icmp_ne (tgt := 156) hx hb dL_prepare_149 (by decide) (fun c54 => ?_) (fun c54 => ?_)
                        · rw [if_neg c54] at hf
                          refine lv_iconst (v := (0:Int32)) hx hb dL_prepare_156 (by decide) ?_
                          refine lv_istore_n (lv' := [(3, .int (0:Int32)), (7, .int q39.1), (6, .int (0:Int32)), (5, .int x3), (0, .ref (a0 0)), (1, .int p1), (2, .int p2), (4, .int z.2.1)]) hx hb dL_prepare_157 rfl hl (by decide) rfl (fun ls hl => ?_)
                          obtain ⟨x55, ex55, hf⟩ := lt_some hf
                          refine lv_iinc (v := x55) (lv' := [(4, .int x55), (3, .int (0:Int32)), (7, .int q39.1), (6, .int (0:Int32)), (5, .int x3), (0, .ref (a0 0)), (1, .int p1), (2, .int p2)]) hx hb dL_prepare_158 hl (k := 7) rfl (by rw [ex55]; rfl) (by decide) rfl (fun ls hl => ?_)
                          refine lv_goto (tgt := 5) hx hb dL_prepare_161 (by decide) ?_
                          exact ih _ e1 (lz_l hf hz) H locs ls hP hD hS (lv_sub hl [5, 6, 7, 1, 0] rfl) K
                        · rw [if_pos c54] at hf
                          refine lv_iconst (v := (1:Int32)) hx hb dL_prepare_152 (by decide) ?_
                          refine lv_goto (tgt := 157) hx hb dL_prepare_153 (by decide) ?_
                          refine lv_istore_n (lv' := [(3, .int (1:Int32)), (7, .int q39.1), (6, .int (0:Int32)), (5, .int x3), (0, .ref (a0 0)), (1, .int p1), (2, .int p2), (4, .int z.2.1)]) hx hb dL_prepare_157 rfl hl (by decide) rfl (fun ls hl => ?_)
                          obtain ⟨x56, ex56, hf⟩ := lt_some hf
                          refine lv_iinc (v := x56) (lv' := [(4, .int x56), (3, .int (1:Int32)), (7, .int q39.1), (6, .int (0:Int32)), (5, .int x3), (0, .ref (a0 0)), (1, .int p1), (2, .int p2)]) hx hb dL_prepare_158 hl (k := 7) rfl (by rw [ex56]; rfl) (by decide) rfl (fun ls hl => ?_)
                          refine lv_goto (tgt := 5) hx hb dL_prepare_161 (by decide) ?_
                          exact ih _ e1 (lz_l hf hz) H locs ls hP hD hS (lv_sub hl [5, 6, 7, 1, 0] rfl) K
              · rw [if_pos c41] at hf
                refine lv_aload_n hx hb dL_prepare_87 rfl (lv_at hl 3 rfl) ?_
                refine lv_iload hx hb dL_prepare_88 (lv_at hl 7 rfl) ?_
                refine lv_iconst (v := (2:Int32)) hx hb dL_prepare_90 (by decide) ?_
                obtain ⟨q57, hq57, hf⟩ := bd_some hf
                refine g_callVi S (As := [.int z.2.1, .int (2:Int32)]) (gs' := [maW a0 (a1 0) (a2 0) (a3 0) (a4 0) (a7 0 0) (a8 0) (a9 0) (a9 1), stW G a1 q40.2.1, paW G a7 q40.2.2]) (c_X5_member l G a0 a1 a2 a3 a4 a5 a6 a7 a8 a9 a10 a11 q40.2.1 z.2.1 (2:Int32) hq57) (cwV 2 hts gL_prepare_X5_member rfl rfl rfl hd_X5_member ⟨Nat.le_of_ble_eq_true rfl, Nat.le_of_ble_eq_true rfl⟩) hK hP hD hS hA (is := [0, 1]) rfl rfl 0 rfl rfl rfl rfl hl.1 rfl (Nat.le_of_ble_eq_true rfl) dL_prepare_91 ⟨Nat.le_of_ble_eq_true rfl, Nat.le_of_ble_eq_true rfl⟩ rfl (fun H locs hP hD hS => ?_)
                refine lv_iload hx hb dL_prepare_94 (lv_at hl 0 rfl) ?_
                refine lv_icmp_ne (tgt := 103) hx hb dL_prepare_96 (by decide) (fun c58 => ?_) (fun c58 => ?_)
                · rw [if_neg c58] at hf
                  refine lv_iconst (v := (0:Int32)) hx hb dL_prepare_103 (by decide) ?_
                  refine lv_istore_n (lv' := [(3, .int (0:Int32)), (7, .int q39.1), (6, .int (0:Int32)), (5, .int x3), (0, .ref (a0 0)), (1, .int p1), (2, .int p2), (4, .int z.2.1)]) hx hb dL_prepare_104 rfl hl (by decide) rfl (fun ls hl => ?_)
                  refine lv_iload hx hb dL_prepare_105 (lv_at hl 3 rfl) ?_
                  refine lv_iconst (v := (2:Int32)) hx hb dL_prepare_107 (by decide) ?_
                  refine lv_ishr hx hb dL_prepare_108 ?_
                  refine lv_bipush (v := (7:Int32)) hx hb dL_prepare_109 (by decide) ?_
                  obtain ⟨q59, hq59, hf⟩ := bd_some hf
                  refine g_callSi S (As := [.int (x3 >>> ((2:Int32) &&& 31)), .int (7:Int32)]) (gs' := [maW a0 (a1 0) (a2 0) (a3 0) (a4 0) (a7 0 0) (a8 0) (a9 0) (a9 1), stW G a1 q40.2.1, paW G a7 q40.2.2]) (c_L_low l G (x3 >>> ((2:Int32) &&& 31)) (7:Int32) hq59) (va_cwS 2 hts gL_prepare_L_low rfl rfl rfl hd_L_low.2 ⟨Nat.le_of_ble_eq_true rfl, Nat.le_of_ble_eq_true rfl⟩) hK hP hD hS hA (is := []) rfl rfl rfl hl.1 rfl (Nat.le_of_ble_eq_true rfl) dL_prepare_111 ⟨Nat.le_of_ble_eq_true rfl, Nat.le_of_ble_eq_true rfl⟩ rfl (fun H locs hP hD hS => ?_)
                  refine lv_if_ne (tgt := 158) hx hb dL_prepare_114 (by decide) (fun c60 => ?_) (fun c60 => ?_)
                  · rw [if_neg c60] at hf
                    obtain ⟨x61, ex61, hf⟩ := lt_some hf
                    refine lv_iinc (v := x61) (lv' := [(4, .int x61), (3, .int (0:Int32)), (7, .int q39.1), (6, .int (0:Int32)), (5, .int x3), (0, .ref (a0 0)), (1, .int p1), (2, .int p2)]) hx hb dL_prepare_158 hl (k := 7) rfl (by rw [ex61]; rfl) (by decide) rfl (fun ls hl => ?_)
                    refine lv_goto (tgt := 5) hx hb dL_prepare_161 (by decide) ?_
                    exact ih _ e1 (lz_l hf hz) H locs ls hP hD hS (lv_sub hl [5, 6, 7, 1, 0] rfl) K
                  · rw [if_pos c60] at hf
                    refine lv_aload_n hx hb dL_prepare_117 rfl (lv_at hl 4 rfl) ?_
                    refine lv_iload hx hb dL_prepare_118 (lv_at hl 7 rfl) ?_
                    refine lv_iconst (v := (3:Int32)) hx hb dL_prepare_120 (by decide) ?_
                    obtain ⟨q62, hq62, hf⟩ := bd_some hf
                    refine g_callVi S (As := [.int z.2.1, .int (3:Int32)]) (gs' := [maW a0 (a1 0) (a2 0) (a3 0) (a4 0) (a7 0 0) (a8 0) (a9 0) (a9 1), stW G a1 q40.2.1, paW G a7 q40.2.2]) (c_X5_member l G a0 a1 a2 a3 a4 a5 a6 a7 a8 a9 a10 a11 q40.2.1 z.2.1 (3:Int32) hq62) (cwV 2 hts gL_prepare_X5_member rfl rfl rfl hd_X5_member ⟨Nat.le_of_ble_eq_true rfl, Nat.le_of_ble_eq_true rfl⟩) hK hP hD hS hA (is := [0, 1]) rfl rfl 0 rfl rfl rfl rfl hl.1 rfl (Nat.le_of_ble_eq_true rfl) dL_prepare_121 ⟨Nat.le_of_ble_eq_true rfl, Nat.le_of_ble_eq_true rfl⟩ rfl (fun H locs hP hD hS => ?_)
                    refine lv_if_ne (tgt := 158) hx hb dL_prepare_124 (by decide) (fun c63 => ?_) (fun c63 => ?_)
                    · rw [if_neg c63] at hf
                      obtain ⟨x64, ex64, hf⟩ := lt_some hf
                      refine lv_iinc (v := x64) (lv' := [(4, .int x64), (3, .int (0:Int32)), (7, .int q39.1), (6, .int (0:Int32)), (5, .int x3), (0, .ref (a0 0)), (1, .int p1), (2, .int p2)]) hx hb dL_prepare_158 hl (k := 7) rfl (by rw [ex64]; rfl) (by decide) rfl (fun ls hl => ?_)
                      refine lv_goto (tgt := 5) hx hb dL_prepare_161 (by decide) ?_
                      exact ih _ e1 (lz_l hf hz) H locs ls hP hD hS (lv_sub hl [5, 6, 7, 1, 0] rfl) K
                    · rw [if_pos c63] at hf
                      refine lv_iload_n hx hb dL_prepare_127 rfl (lv_at hl 0 rfl) ?_
                      refine lv_if_eq (tgt := 156) hx hb dL_prepare_128 (by decide) (fun c65 => ?_) (fun c65 => ?_)
                      · rw [if_pos c65] at hf
                        refine lv_iconst (v := (0:Int32)) hx hb dL_prepare_156 (by decide) ?_
                        refine lv_istore_n (lv' := [(3, .int (0:Int32)), (7, .int q39.1), (6, .int (0:Int32)), (5, .int x3), (0, .ref (a0 0)), (1, .int p1), (2, .int p2), (4, .int z.2.1)]) hx hb dL_prepare_157 rfl hl (by decide) rfl (fun ls hl => ?_)
                        obtain ⟨x66, ex66, hf⟩ := lt_some hf
                        refine lv_iinc (v := x66) (lv' := [(4, .int x66), (3, .int (0:Int32)), (7, .int q39.1), (6, .int (0:Int32)), (5, .int x3), (0, .ref (a0 0)), (1, .int p1), (2, .int p2)]) hx hb dL_prepare_158 hl (k := 7) rfl (by rw [ex66]; rfl) (by decide) rfl (fun ls hl => ?_)
                        refine lv_goto (tgt := 5) hx hb dL_prepare_161 (by decide) ?_
                        exact ih _ e1 (lz_l hf hz) H locs ls hP hD hS (lv_sub hl [5, 6, 7, 1, 0] rfl) K
                      · rw [if_neg c65] at hf
                        refine lv_aload_n hx hb dL_prepare_131 rfl (lv_at hl 4 rfl) ?_
                        refine lv_iload hx hb dL_prepare_132 (lv_at hl 7 rfl) ?_
                        refine lv_iconst (v := (1:Int32)) hx hb dL_prepare_134 (by decide) ?_
                        obtain ⟨q67, hq67, hf⟩ := bd_some hf
                        refine g_callVi S (As := [.int z.2.1, .int (1:Int32)]) (gs' := [maW a0 (a1 0) (a2 0) (a3 0) (a4 0) (a7 0 0) (a8 0) (a9 0) (a9 1), stW G a1 q67.2.1, paW G a7 q67.2.2]) (c_X5_stayAway l G a0 a1 a2 a3 a4 a5 a6 a7 a8 a9 a10 a11 q40.2.1 q40.2.2 z.2.1 (1:Int32) hq67) (cwV 2 hts gL_prepare_X5_stayAway rfl rfl rfl hd_X5_stayAway ⟨Nat.le_of_ble_eq_true rfl, Nat.le_of_ble_eq_true rfl⟩) hK hP hD hS hA (is := [0, 1, 2]) rfl rfl 0 rfl rfl rfl rfl hl.1 rfl (Nat.le_of_ble_eq_true rfl) dL_prepare_135 ⟨Nat.le_of_ble_eq_true rfl, Nat.le_of_ble_eq_true rfl⟩ rfl (fun H locs hP hD hS => ?_)
                        refine lv_if_ne (tgt := 156) hx hb dL_prepare_138 (by decide) (fun c68 => ?_) (fun c68 => ?_)
                        · rw [if_neg c68] at hf
                          refine lv_iconst (v := (0:Int32)) hx hb dL_prepare_156 (by decide) ?_
                          refine lv_istore_n (lv' := [(3, .int (0:Int32)), (7, .int q39.1), (6, .int (0:Int32)), (5, .int x3), (0, .ref (a0 0)), (1, .int p1), (2, .int p2), (4, .int z.2.1)]) hx hb dL_prepare_157 rfl hl (by decide) rfl (fun ls hl => ?_)
                          obtain ⟨x69, ex69, hf⟩ := lt_some hf
                          refine lv_iinc (v := x69) (lv' := [(4, .int x69), (3, .int (0:Int32)), (7, .int q39.1), (6, .int (0:Int32)), (5, .int x3), (0, .ref (a0 0)), (1, .int p1), (2, .int p2)]) hx hb dL_prepare_158 hl (k := 7) rfl (by rw [ex69]; rfl) (by decide) rfl (fun ls hl => ?_)
                          refine lv_goto (tgt := 5) hx hb dL_prepare_161 (by decide) ?_
                          exact ih _ e1 (lz_l hf hz) H locs ls hP hD hS (lv_sub hl [5, 6, 7, 1, 0] rfl) K
                        · rw [if_pos c68] at hf
                          refine lv_aload_n hx hb dL_prepare_141 rfl (lv_at hl 4 rfl) ?_
                          refine lv_iload hx hb dL_prepare_142 (lv_at hl 7 rfl) ?_
                          refine lv_iconst (v := (3:Int32)) hx hb dL_prepare_144 (by decide) ?_
                          obtain ⟨q70, hq70, hf⟩ := bd_some hf
                          refine g_callVi S (As := [.int z.2.1, .int (3:Int32)]) (gs' := [maW a0 (a1 0) (a2 0) (a3 0) (a4 0) (a7 0 0) (a8 0) (a9 0) (a9 1), stW G a1 q67.2.1, paW G a7 q67.2.2]) (c_X5_member l G a0 a1 a2 a3 a4 a5 a6 a7 a8 a9 a10 a11 q67.2.1 z.2.1 (3:Int32) hq70) (cwV 2 hts gL_prepare_X5_member rfl rfl rfl hd_X5_member ⟨Nat.le_of_ble_eq_true rfl, Nat.le_of_ble_eq_true rfl⟩) hK hP hD hS hA (is := [0, 1]) rfl rfl 0 rfl rfl rfl rfl hl.1 rfl (Nat.le_of_ble_eq_true rfl) dL_prepare_145 ⟨Nat.le_of_ble_eq_true rfl, Nat.le_of_ble_eq_true rfl⟩ rfl (fun H locs hP hD hS => ?_)
                          refine lv_iconst (v := (1:Int32)) hx hb dL_prepare_148 (by decide) ?_
                          refine lv_icmp_ne (tgt := 156) hx hb dL_prepare_149 (by decide) (fun c71 => ?_) (fun c71 => ?_)
                          · rw [if_neg c71] at hf
                            refine lv_iconst (v := (0:Int32)) hx hb dL_prepare_156 (by decide) ?_
                            refine lv_istore_n (lv' := [(3, .int (0:Int32)), (7, .int q39.1), (6, .int (0:Int32)), (5, .int x3), (0, .ref (a0 0)), (1, .int p1), (2, .int p2), (4, .int z.2.1)]) hx hb dL_prepare_157 rfl hl (by decide) rfl (fun ls hl => ?_)
                            obtain ⟨x72, ex72, hf⟩ := lt_some hf
                            refine lv_iinc (v := x72) (lv' := [(4, .int x72), (3, .int (0:Int32)), (7, .int q39.1), (6, .int (0:Int32)), (5, .int x3), (0, .ref (a0 0)), (1, .int p1), (2, .int p2)]) hx hb dL_prepare_158 hl (k := 7) rfl (by rw [ex72]; rfl) (by decide) rfl (fun ls hl => ?_)
                            refine lv_goto (tgt := 5) hx hb dL_prepare_161 (by decide) ?_
                            exact ih _ e1 (lz_l hf hz) H locs ls hP hD hS (lv_sub hl [5, 6, 7, 1, 0] rfl) K
                          · rw [if_pos c71] at hf
                            refine lv_iconst (v := (1:Int32)) hx hb dL_prepare_152 (by decide) ?_
                            refine lv_goto (tgt := 157) hx hb dL_prepare_153 (by decide) ?_
                            refine lv_istore_n (lv' := [(3, .int (1:Int32)), (7, .int q39.1), (6, .int (0:Int32)), (5, .int x3), (0, .ref (a0 0)), (1, .int p1), (2, .int p2), (4, .int z.2.1)]) hx hb dL_prepare_157 rfl hl (by decide) rfl (fun ls hl => ?_)
                            obtain ⟨x73, ex73, hf⟩ := lt_some hf
                            refine lv_iinc (v := x73) (lv' := [(4, .int x73), (3, .int (1:Int32)), (7, .int q39.1), (6, .int (0:Int32)), (5, .int x3), (0, .ref (a0 0)), (1, .int p1), (2, .int p2)]) hx hb dL_prepare_158 hl (k := 7) rfl (by rw [ex73]; rfl) (by decide) rfl (fun ls hl => ?_)
                            refine lv_goto (tgt := 5) hx hb dL_prepare_161 (by decide) ?_
                            exact ih _ e1 (lz_l hf hz) H locs ls hP hD hS (lv_sub hl [5, 6, 7, 1, 0] rfl) K
                · rw [if_pos c58] at hf
                  refine lv_iconst (v := (1:Int32)) hx hb dL_prepare_99 (by decide) ?_
                  refine lv_goto (tgt := 104) hx hb dL_prepare_100 (by decide) ?_
                  refine lv_istore_n (lv' := [(3, .int (1:Int32)), (7, .int q39.1), (6, .int (0:Int32)), (5, .int x3), (0, .ref (a0 0)), (1, .int p1), (2, .int p2), (4, .int z.2.1)]) hx hb dL_prepare_104 rfl hl (by decide) rfl (fun ls hl => ?_)
                  refine lv_iload hx hb dL_prepare_105 (lv_at hl 3 rfl) ?_
                  refine lv_iconst (v := (2:Int32)) hx hb dL_prepare_107 (by decide) ?_
                  refine lv_ishr hx hb dL_prepare_108 ?_
                  refine lv_bipush (v := (7:Int32)) hx hb dL_prepare_109 (by decide) ?_
                  obtain ⟨q74, hq74, hf⟩ := bd_some hf
                  refine g_callSi S (As := [.int (x3 >>> ((2:Int32) &&& 31)), .int (7:Int32)]) (gs' := [maW a0 (a1 0) (a2 0) (a3 0) (a4 0) (a7 0 0) (a8 0) (a9 0) (a9 1), stW G a1 q40.2.1, paW G a7 q40.2.2]) (c_L_low l G (x3 >>> ((2:Int32) &&& 31)) (7:Int32) hq74) (va_cwS 2 hts gL_prepare_L_low rfl rfl rfl hd_L_low.2 ⟨Nat.le_of_ble_eq_true rfl, Nat.le_of_ble_eq_true rfl⟩) hK hP hD hS hA (is := []) rfl rfl rfl hl.1 rfl (Nat.le_of_ble_eq_true rfl) dL_prepare_111 ⟨Nat.le_of_ble_eq_true rfl, Nat.le_of_ble_eq_true rfl⟩ rfl (fun H locs hP hD hS => ?_)
                  refine lv_if_ne (tgt := 158) hx hb dL_prepare_114 (by decide) (fun c75 => ?_) (fun c75 => ?_)
                  · rw [if_neg c75] at hf
                    obtain ⟨x76, ex76, hf⟩ := lt_some hf
                    refine lv_iinc (v := x76) (lv' := [(4, .int x76), (3, .int (1:Int32)), (7, .int q39.1), (6, .int (0:Int32)), (5, .int x3), (0, .ref (a0 0)), (1, .int p1), (2, .int p2)]) hx hb dL_prepare_158 hl (k := 7) rfl (by rw [ex76]; rfl) (by decide) rfl (fun ls hl => ?_)
                    refine lv_goto (tgt := 5) hx hb dL_prepare_161 (by decide) ?_
                    exact ih _ e1 (lz_l hf hz) H locs ls hP hD hS (lv_sub hl [5, 6, 7, 1, 0] rfl) K
                  · rw [if_pos c75] at hf
                    refine lv_aload_n hx hb dL_prepare_117 rfl (lv_at hl 4 rfl) ?_
                    refine lv_iload hx hb dL_prepare_118 (lv_at hl 7 rfl) ?_
                    refine lv_iconst (v := (3:Int32)) hx hb dL_prepare_120 (by decide) ?_
                    obtain ⟨q77, hq77, hf⟩ := bd_some hf
                    refine g_callVi S (As := [.int z.2.1, .int (3:Int32)]) (gs' := [maW a0 (a1 0) (a2 0) (a3 0) (a4 0) (a7 0 0) (a8 0) (a9 0) (a9 1), stW G a1 q40.2.1, paW G a7 q40.2.2]) (c_X5_member l G a0 a1 a2 a3 a4 a5 a6 a7 a8 a9 a10 a11 q40.2.1 z.2.1 (3:Int32) hq77) (cwV 2 hts gL_prepare_X5_member rfl rfl rfl hd_X5_member ⟨Nat.le_of_ble_eq_true rfl, Nat.le_of_ble_eq_true rfl⟩) hK hP hD hS hA (is := [0, 1]) rfl rfl 0 rfl rfl rfl rfl hl.1 rfl (Nat.le_of_ble_eq_true rfl) dL_prepare_121 ⟨Nat.le_of_ble_eq_true rfl, Nat.le_of_ble_eq_true rfl⟩ rfl (fun H locs hP hD hS => ?_)
                    refine lv_if_ne (tgt := 158) hx hb dL_prepare_124 (by decide) (fun c78 => ?_) (fun c78 => ?_)
                    · rw [if_neg c78] at hf
                      obtain ⟨x79, ex79, hf⟩ := lt_some hf
                      refine lv_iinc (v := x79) (lv' := [(4, .int x79), (3, .int (1:Int32)), (7, .int q39.1), (6, .int (0:Int32)), (5, .int x3), (0, .ref (a0 0)), (1, .int p1), (2, .int p2)]) hx hb dL_prepare_158 hl (k := 7) rfl (by rw [ex79]; rfl) (by decide) rfl (fun ls hl => ?_)
                      refine lv_goto (tgt := 5) hx hb dL_prepare_161 (by decide) ?_
                      exact ih _ e1 (lz_l hf hz) H locs ls hP hD hS (lv_sub hl [5, 6, 7, 1, 0] rfl) K
                    · rw [if_pos c78] at hf
                      refine lv_iload_n hx hb dL_prepare_127 rfl (lv_at hl 0 rfl) ?_
                      refine lv_if_eq (tgt := 156) hx hb dL_prepare_128 (by decide) (fun c80 => ?_) (fun c80 => ?_)
                      · rw [if_pos c80] at hf
                        refine lv_iconst (v := (0:Int32)) hx hb dL_prepare_156 (by decide) ?_
                        refine lv_istore_n (lv' := [(3, .int (0:Int32)), (7, .int q39.1), (6, .int (0:Int32)), (5, .int x3), (0, .ref (a0 0)), (1, .int p1), (2, .int p2), (4, .int z.2.1)]) hx hb dL_prepare_157 rfl hl (by decide) rfl (fun ls hl => ?_)
                        obtain ⟨x81, ex81, hf⟩ := lt_some hf
                        refine lv_iinc (v := x81) (lv' := [(4, .int x81), (3, .int (0:Int32)), (7, .int q39.1), (6, .int (0:Int32)), (5, .int x3), (0, .ref (a0 0)), (1, .int p1), (2, .int p2)]) hx hb dL_prepare_158 hl (k := 7) rfl (by rw [ex81]; rfl) (by decide) rfl (fun ls hl => ?_)
                        refine lv_goto (tgt := 5) hx hb dL_prepare_161 (by decide) ?_
                        exact ih _ e1 (lz_l hf hz) H locs ls hP hD hS (lv_sub hl [5, 6, 7, 1, 0] rfl) K
                      · rw [if_neg c80] at hf
                        refine lv_aload_n hx hb dL_prepare_131 rfl (lv_at hl 4 rfl) ?_
                        refine lv_iload hx hb dL_prepare_132 (lv_at hl 7 rfl) ?_
                        refine lv_iconst (v := (1:Int32)) hx hb dL_prepare_134 (by decide) ?_
                        obtain ⟨q82, hq82, hf⟩ := bd_some hf
                        refine g_callVi S (As := [.int z.2.1, .int (1:Int32)]) (gs' := [maW a0 (a1 0) (a2 0) (a3 0) (a4 0) (a7 0 0) (a8 0) (a9 0) (a9 1), stW G a1 q82.2.1, paW G a7 q82.2.2]) (c_X5_stayAway l G a0 a1 a2 a3 a4 a5 a6 a7 a8 a9 a10 a11 q40.2.1 q40.2.2 z.2.1 (1:Int32) hq82) (cwV 2 hts gL_prepare_X5_stayAway rfl rfl rfl hd_X5_stayAway ⟨Nat.le_of_ble_eq_true rfl, Nat.le_of_ble_eq_true rfl⟩) hK hP hD hS hA (is := [0, 1, 2]) rfl rfl 0 rfl rfl rfl rfl hl.1 rfl (Nat.le_of_ble_eq_true rfl) dL_prepare_135 ⟨Nat.le_of_ble_eq_true rfl, Nat.le_of_ble_eq_true rfl⟩ rfl (fun H locs hP hD hS => ?_)
                        refine lv_if_ne (tgt := 156) hx hb dL_prepare_138 (by decide) (fun c83 => ?_) (fun c83 => ?_)
                        · rw [if_neg c83] at hf
                          refine lv_iconst (v := (0:Int32)) hx hb dL_prepare_156 (by decide) ?_
                          refine lv_istore_n (lv' := [(3, .int (0:Int32)), (7, .int q39.1), (6, .int (0:Int32)), (5, .int x3), (0, .ref (a0 0)), (1, .int p1), (2, .int p2), (4, .int z.2.1)]) hx hb dL_prepare_157 rfl hl (by decide) rfl (fun ls hl => ?_)
                          obtain ⟨x84, ex84, hf⟩ := lt_some hf
                          refine lv_iinc (v := x84) (lv' := [(4, .int x84), (3, .int (0:Int32)), (7, .int q39.1), (6, .int (0:Int32)), (5, .int x3), (0, .ref (a0 0)), (1, .int p1), (2, .int p2)]) hx hb dL_prepare_158 hl (k := 7) rfl (by rw [ex84]; rfl) (by decide) rfl (fun ls hl => ?_)
                          refine lv_goto (tgt := 5) hx hb dL_prepare_161 (by decide) ?_
                          exact ih _ e1 (lz_l hf hz) H locs ls hP hD hS (lv_sub hl [5, 6, 7, 1, 0] rfl) K
                        · rw [if_pos c83] at hf
                          refine lv_aload_n hx hb dL_prepare_141 rfl (lv_at hl 4 rfl) ?_
                          refine lv_iload hx hb dL_prepare_142 (lv_at hl 7 rfl) ?_
                          refine lv_iconst (v := (3:Int32)) hx hb dL_prepare_144 (by decide) ?_
                          obtain ⟨q85, hq85, hf⟩ := bd_some hf
                          refine g_callVi S (As := [.int z.2.1, .int (3:Int32)]) (gs' := [maW a0 (a1 0) (a2 0) (a3 0) (a4 0) (a7 0 0) (a8 0) (a9 0) (a9 1), stW G a1 q82.2.1, paW G a7 q82.2.2]) (c_X5_member l G a0 a1 a2 a3 a4 a5 a6 a7 a8 a9 a10 a11 q82.2.1 z.2.1 (3:Int32) hq85) (cwV 2 hts gL_prepare_X5_member rfl rfl rfl hd_X5_member ⟨Nat.le_of_ble_eq_true rfl, Nat.le_of_ble_eq_true rfl⟩) hK hP hD hS hA (is := [0, 1]) rfl rfl 0 rfl rfl rfl rfl hl.1 rfl (Nat.le_of_ble_eq_true rfl) dL_prepare_145 ⟨Nat.le_of_ble_eq_true rfl, Nat.le_of_ble_eq_true rfl⟩ rfl (fun H locs hP hD hS => ?_)
                          refine lv_iconst (v := (1:Int32)) hx hb dL_prepare_148 (by decide) ?_
                          refine lv_icmp_ne (tgt := 156) hx hb dL_prepare_149 (by decide) (fun c86 => ?_) (fun c86 => ?_)
                          · rw [if_neg c86] at hf
                            refine lv_iconst (v := (0:Int32)) hx hb dL_prepare_156 (by decide) ?_
                            refine lv_istore_n (lv' := [(3, .int (0:Int32)), (7, .int q39.1), (6, .int (0:Int32)), (5, .int x3), (0, .ref (a0 0)), (1, .int p1), (2, .int p2), (4, .int z.2.1)]) hx hb dL_prepare_157 rfl hl (by decide) rfl (fun ls hl => ?_)
                            obtain ⟨x87, ex87, hf⟩ := lt_some hf
                            refine lv_iinc (v := x87) (lv' := [(4, .int x87), (3, .int (0:Int32)), (7, .int q39.1), (6, .int (0:Int32)), (5, .int x3), (0, .ref (a0 0)), (1, .int p1), (2, .int p2)]) hx hb dL_prepare_158 hl (k := 7) rfl (by rw [ex87]; rfl) (by decide) rfl (fun ls hl => ?_)
                            refine lv_goto (tgt := 5) hx hb dL_prepare_161 (by decide) ?_
                            exact ih _ e1 (lz_l hf hz) H locs ls hP hD hS (lv_sub hl [5, 6, 7, 1, 0] rfl) K
                          · rw [if_pos c86] at hf
                            refine lv_iconst (v := (1:Int32)) hx hb dL_prepare_152 (by decide) ?_
                            refine lv_goto (tgt := 157) hx hb dL_prepare_153 (by decide) ?_
                            refine lv_istore_n (lv' := [(3, .int (1:Int32)), (7, .int q39.1), (6, .int (0:Int32)), (5, .int x3), (0, .ref (a0 0)), (1, .int p1), (2, .int p2), (4, .int z.2.1)]) hx hb dL_prepare_157 rfl hl (by decide) rfl (fun ls hl => ?_)
                            obtain ⟨x88, ex88, hf⟩ := lt_some hf
                            refine lv_iinc (v := x88) (lv' := [(4, .int x88), (3, .int (1:Int32)), (7, .int q39.1), (6, .int (0:Int32)), (5, .int x3), (0, .ref (a0 0)), (1, .int p1), (2, .int p2)]) hx hb dL_prepare_158 hl (k := 7) rfl (by rw [ex88]; rfl) (by decide) rfl (fun ls hl => ?_)
                            refine lv_goto (tgt := 5) hx hb dL_prepare_161 (by decide) ?_
                            exact ih _ e1 (lz_l hf hz) H locs ls hP hD hS (lv_sub hl [5, 6, 7, 1, 0] rfl) K
        · rw [if_pos c5] at hf
          refine lv_aload_n hx hb dL_prepare_34 rfl (lv_at hl 1 rfl) ?_
          refine lv_iload hx hb dL_prepare_35 (lv_at hl 5 rfl) ?_
          refine lv_iconst (v := (4:Int32)) hx hb dL_prepare_37 (by decide) ?_
          obtain ⟨q89, hq89, hf⟩ := bd_some hf
          refine g_callVi S (As := [.int z.2.1, .int (4:Int32)]) (gs' := [maW a0 (a1 0) (a2 0) (a3 0) (a4 0) (a7 0 0) (a8 0) (a9 0) (a9 1), stW G a1 z.2.2.1, paW G a7 z.2.2.2]) (c_X5_member l G a0 a1 a2 a3 a4 a5 a6 a7 a8 a9 a10 a11 z.2.2.1 z.2.1 (4:Int32) hq89) (cwV 2 hts gL_prepare_X5_member rfl rfl rfl hd_X5_member ⟨Nat.le_of_ble_eq_true rfl, Nat.le_of_ble_eq_true rfl⟩) hK hP hD hS hA (is := [0, 1]) rfl rfl 0 rfl rfl rfl rfl hl.1 rfl (Nat.le_of_ble_eq_true rfl) dL_prepare_38 ⟨Nat.le_of_ble_eq_true rfl, Nat.le_of_ble_eq_true rfl⟩ rfl (fun H locs hP hD hS => ?_)
          refine lv_if_ne (tgt := 48) hx hb dL_prepare_41 (by decide) (fun c90 => ?_) (fun c90 => ?_)
          · rw [if_neg c90] at hf
            refine lv_iconst (v := (0:Int32)) hx hb dL_prepare_48 (by decide) ?_
            refine lv_istore (lv' := [(6, .int (0:Int32)), (5, .int x3), (0, .ref (a0 0)), (1, .int p1), (2, .int p2), (3, .int z.1), (4, .int z.2.1)]) hx hb dL_prepare_49 hl (by decide) rfl (fun ls hl => ?_)
            refine lv_iload hx hb dL_prepare_51 (lv_at hl 0 rfl) ?_
            refine lv_if_eq (tgt := 105) hx hb dL_prepare_53 (by decide) (fun c91 => ?_) (fun c91 => ?_)
            · rw [if_pos c91] at hf
              refine lv_iload hx hb dL_prepare_105 (lv_at hl 1 rfl) ?_
              refine lv_iconst (v := (2:Int32)) hx hb dL_prepare_107 (by decide) ?_
              refine lv_ishr hx hb dL_prepare_108 ?_
              refine lv_bipush (v := (7:Int32)) hx hb dL_prepare_109 (by decide) ?_
              obtain ⟨q92, hq92, hf⟩ := bd_some hf
              refine g_callSi S (As := [.int (x3 >>> ((2:Int32) &&& 31)), .int (7:Int32)]) (gs' := [maW a0 (a1 0) (a2 0) (a3 0) (a4 0) (a7 0 0) (a8 0) (a9 0) (a9 1), stW G a1 z.2.2.1, paW G a7 z.2.2.2]) (c_L_low l G (x3 >>> ((2:Int32) &&& 31)) (7:Int32) hq92) (va_cwS 2 hts gL_prepare_L_low rfl rfl rfl hd_L_low.2 ⟨Nat.le_of_ble_eq_true rfl, Nat.le_of_ble_eq_true rfl⟩) hK hP hD hS hA (is := []) rfl rfl rfl hl.1 rfl (Nat.le_of_ble_eq_true rfl) dL_prepare_111 ⟨Nat.le_of_ble_eq_true rfl, Nat.le_of_ble_eq_true rfl⟩ rfl (fun H locs hP hD hS => ?_)
              refine lv_if_ne (tgt := 158) hx hb dL_prepare_114 (by decide) (fun c93 => ?_) (fun c93 => ?_)
              · rw [if_neg c93] at hf
                obtain ⟨x94, ex94, hf⟩ := lt_some hf
                refine lv_iinc (v := x94) (lv' := [(4, .int x94), (6, .int (0:Int32)), (5, .int x3), (0, .ref (a0 0)), (1, .int p1), (2, .int p2), (3, .int z.1)]) hx hb dL_prepare_158 hl (k := 6) rfl (by rw [ex94]; rfl) (by decide) rfl (fun ls hl => ?_)
                refine lv_goto (tgt := 5) hx hb dL_prepare_161 (by decide) ?_
                exact ih _ e1 (lz_l hf hz) H locs ls hP hD hS (lv_sub hl [3, 4, 5, 6, 0] rfl) K
              · rw [if_pos c93] at hf
                refine lv_aload_n hx hb dL_prepare_117 rfl (lv_at hl 2 rfl) ?_
                refine lv_iload hx hb dL_prepare_118 (lv_at hl 6 rfl) ?_
                refine lv_iconst (v := (3:Int32)) hx hb dL_prepare_120 (by decide) ?_
                obtain ⟨q95, hq95, hf⟩ := bd_some hf
                refine g_callVi S (As := [.int z.2.1, .int (3:Int32)]) (gs' := [maW a0 (a1 0) (a2 0) (a3 0) (a4 0) (a7 0 0) (a8 0) (a9 0) (a9 1), stW G a1 z.2.2.1, paW G a7 z.2.2.2]) (c_X5_member l G a0 a1 a2 a3 a4 a5 a6 a7 a8 a9 a10 a11 z.2.2.1 z.2.1 (3:Int32) hq95) (cwV 2 hts gL_prepare_X5_member rfl rfl rfl hd_X5_member ⟨Nat.le_of_ble_eq_true rfl, Nat.le_of_ble_eq_true rfl⟩) hK hP hD hS hA (is := [0, 1]) rfl rfl 0 rfl rfl rfl rfl hl.1 rfl (Nat.le_of_ble_eq_true rfl) dL_prepare_121 ⟨Nat.le_of_ble_eq_true rfl, Nat.le_of_ble_eq_true rfl⟩ rfl (fun H locs hP hD hS => ?_)
                refine lv_if_ne (tgt := 158) hx hb dL_prepare_124 (by decide) (fun c96 => ?_) (fun c96 => ?_)
                · rw [if_neg c96] at hf
                  obtain ⟨x97, ex97, hf⟩ := lt_some hf
                  refine lv_iinc (v := x97) (lv' := [(4, .int x97), (6, .int (0:Int32)), (5, .int x3), (0, .ref (a0 0)), (1, .int p1), (2, .int p2), (3, .int z.1)]) hx hb dL_prepare_158 hl (k := 6) rfl (by rw [ex97]; rfl) (by decide) rfl (fun ls hl => ?_)
                  refine lv_goto (tgt := 5) hx hb dL_prepare_161 (by decide) ?_
                  exact ih _ e1 (lz_l hf hz) H locs ls hP hD hS (lv_sub hl [3, 4, 5, 6, 0] rfl) K
                · rw [if_pos c96] at hf
                  refine lv_iload_n hx hb dL_prepare_127 rfl (lv_at hl 5 rfl) ?_
                  refine lv_if_eq (tgt := 156) hx hb dL_prepare_128 (by decide) (fun c98 => ?_) (fun c98 => ?_)
                  · rw [if_pos c98] at hf
                    refine lv_iconst (v := (0:Int32)) hx hb dL_prepare_156 (by decide) ?_
                    refine lv_istore_n (lv' := [(3, .int (0:Int32)), (6, .int (0:Int32)), (5, .int x3), (0, .ref (a0 0)), (1, .int p1), (2, .int p2), (4, .int z.2.1)]) hx hb dL_prepare_157 rfl hl (by decide) rfl (fun ls hl => ?_)
                    obtain ⟨x99, ex99, hf⟩ := lt_some hf
                    refine lv_iinc (v := x99) (lv' := [(4, .int x99), (3, .int (0:Int32)), (6, .int (0:Int32)), (5, .int x3), (0, .ref (a0 0)), (1, .int p1), (2, .int p2)]) hx hb dL_prepare_158 hl (k := 6) rfl (by rw [ex99]; rfl) (by decide) rfl (fun ls hl => ?_)
                    refine lv_goto (tgt := 5) hx hb dL_prepare_161 (by decide) ?_
                    exact ih _ e1 (lz_l hf hz) H locs ls hP hD hS (lv_sub hl [4, 5, 6, 1, 0] rfl) K
                  · rw [if_neg c98] at hf
                    refine lv_aload_n hx hb dL_prepare_131 rfl (lv_at hl 2 rfl) ?_
                    refine lv_iload hx hb dL_prepare_132 (lv_at hl 6 rfl) ?_
                    refine lv_iconst (v := (1:Int32)) hx hb dL_prepare_134 (by decide) ?_
                    obtain ⟨q100, hq100, hf⟩ := bd_some hf
                    refine g_callVi S (As := [.int z.2.1, .int (1:Int32)]) (gs' := [maW a0 (a1 0) (a2 0) (a3 0) (a4 0) (a7 0 0) (a8 0) (a9 0) (a9 1), stW G a1 q100.2.1, paW G a7 q100.2.2]) (c_X5_stayAway l G a0 a1 a2 a3 a4 a5 a6 a7 a8 a9 a10 a11 z.2.2.1 z.2.2.2 z.2.1 (1:Int32) hq100) (cwV 2 hts gL_prepare_X5_stayAway rfl rfl rfl hd_X5_stayAway ⟨Nat.le_of_ble_eq_true rfl, Nat.le_of_ble_eq_true rfl⟩) hK hP hD hS hA (is := [0, 1, 2]) rfl rfl 0 rfl rfl rfl rfl hl.1 rfl (Nat.le_of_ble_eq_true rfl) dL_prepare_135 ⟨Nat.le_of_ble_eq_true rfl, Nat.le_of_ble_eq_true rfl⟩ rfl (fun H locs hP hD hS => ?_)
                    refine lv_if_ne (tgt := 156) hx hb dL_prepare_138 (by decide) (fun c101 => ?_) (fun c101 => ?_)
                    · rw [if_neg c101] at hf
                      refine lv_iconst (v := (0:Int32)) hx hb dL_prepare_156 (by decide) ?_
                      refine lv_istore_n (lv' := [(3, .int (0:Int32)), (6, .int (0:Int32)), (5, .int x3), (0, .ref (a0 0)), (1, .int p1), (2, .int p2), (4, .int z.2.1)]) hx hb dL_prepare_157 rfl hl (by decide) rfl (fun ls hl => ?_)
                      obtain ⟨x102, ex102, hf⟩ := lt_some hf
                      refine lv_iinc (v := x102) (lv' := [(4, .int x102), (3, .int (0:Int32)), (6, .int (0:Int32)), (5, .int x3), (0, .ref (a0 0)), (1, .int p1), (2, .int p2)]) hx hb dL_prepare_158 hl (k := 6) rfl (by rw [ex102]; rfl) (by decide) rfl (fun ls hl => ?_)
                      refine lv_goto (tgt := 5) hx hb dL_prepare_161 (by decide) ?_
                      exact ih _ e1 (lz_l hf hz) H locs ls hP hD hS (lv_sub hl [4, 5, 6, 1, 0] rfl) K
                    · rw [if_pos c101] at hf
                      refine lv_aload_n hx hb dL_prepare_141 rfl (lv_at hl 2 rfl) ?_
                      refine lv_iload hx hb dL_prepare_142 (lv_at hl 6 rfl) ?_
                      refine lv_iconst (v := (3:Int32)) hx hb dL_prepare_144 (by decide) ?_
                      obtain ⟨q103, hq103, hf⟩ := bd_some hf
                      refine g_callVi S (As := [.int z.2.1, .int (3:Int32)]) (gs' := [maW a0 (a1 0) (a2 0) (a3 0) (a4 0) (a7 0 0) (a8 0) (a9 0) (a9 1), stW G a1 q100.2.1, paW G a7 q100.2.2]) (c_X5_member l G a0 a1 a2 a3 a4 a5 a6 a7 a8 a9 a10 a11 q100.2.1 z.2.1 (3:Int32) hq103) (cwV 2 hts gL_prepare_X5_member rfl rfl rfl hd_X5_member ⟨Nat.le_of_ble_eq_true rfl, Nat.le_of_ble_eq_true rfl⟩) hK hP hD hS hA (is := [0, 1]) rfl rfl 0 rfl rfl rfl rfl hl.1 rfl (Nat.le_of_ble_eq_true rfl) dL_prepare_145 ⟨Nat.le_of_ble_eq_true rfl, Nat.le_of_ble_eq_true rfl⟩ rfl (fun H locs hP hD hS => ?_)
                      refine lv_iconst (v := (1:Int32)) hx hb dL_prepare_148 (by decide) ?_
                      refine lv_icmp_ne (tgt := 156) hx hb dL_prepare_149 (by decide) (fun c104 => ?_) (fun c104 => ?_)
                      · rw [if_neg c104] at hf
                        refine lv_iconst (v := (0:Int32)) hx hb dL_prepare_156 (by decide) ?_
                        refine lv_istore_n (lv' := [(3, .int (0:Int32)), (6, .int (0:Int32)), (5, .int x3), (0, .ref (a0 0)), (1, .int p1), (2, .int p2), (4, .int z.2.1)]) hx hb dL_prepare_157 rfl hl (by decide) rfl (fun ls hl => ?_)
                        obtain ⟨x105, ex105, hf⟩ := lt_some hf
                        refine lv_iinc (v := x105) (lv' := [(4, .int x105), (3, .int (0:Int32)), (6, .int (0:Int32)), (5, .int x3), (0, .ref (a0 0)), (1, .int p1), (2, .int p2)]) hx hb dL_prepare_158 hl (k := 6) rfl (by rw [ex105]; rfl) (by decide) rfl (fun ls hl => ?_)
                        refine lv_goto (tgt := 5) hx hb dL_prepare_161 (by decide) ?_
                        exact ih _ e1 (lz_l hf hz) H locs ls hP hD hS (lv_sub hl [4, 5, 6, 1, 0] rfl) K
                      · rw [if_pos c104] at hf
                        refine lv_iconst (v := (1:Int32)) hx hb dL_prepare_152 (by decide) ?_
                        refine lv_goto (tgt := 157) hx hb dL_prepare_153 (by decide) ?_
                        refine lv_istore_n (lv' := [(3, .int (1:Int32)), (6, .int (0:Int32)), (5, .int x3), (0, .ref (a0 0)), (1, .int p1), (2, .int p2), (4, .int z.2.1)]) hx hb dL_prepare_157 rfl hl (by decide) rfl (fun ls hl => ?_)
                        obtain ⟨x106, ex106, hf⟩ := lt_some hf
                        refine lv_iinc (v := x106) (lv' := [(4, .int x106), (3, .int (1:Int32)), (6, .int (0:Int32)), (5, .int x3), (0, .ref (a0 0)), (1, .int p1), (2, .int p2)]) hx hb dL_prepare_158 hl (k := 6) rfl (by rw [ex106]; rfl) (by decide) rfl (fun ls hl => ?_)
                        refine lv_goto (tgt := 5) hx hb dL_prepare_161 (by decide) ?_
                        exact ih _ e1 (lz_l hf hz) H locs ls hP hD hS (lv_sub hl [4, 5, 6, 1, 0] rfl) K
            · rw [if_neg c91] at hf
              refine lv_iload hx hb dL_prepare_56 (lv_at hl 1 rfl) ?_
              refine lv_iconst (v := (2:Int32)) hx hb dL_prepare_58 (by decide) ?_
              obtain ⟨q107, hq107, hf⟩ := bd_some hf
              refine g_callSi S (As := [.int x3, .int (2:Int32)]) (gs' := [maW a0 (a1 0) (a2 0) (a3 0) (a4 0) (a7 0 0) (a8 0) (a9 0) (a9 1), stW G a1 z.2.2.1, paW G a7 z.2.2.2]) (c_L_low l G x3 (2:Int32) hq107) (va_cwS 2 hts gL_prepare_L_low rfl rfl rfl hd_L_low.2 ⟨Nat.le_of_ble_eq_true rfl, Nat.le_of_ble_eq_true rfl⟩) hK hP hD hS hA (is := []) rfl rfl rfl hl.1 rfl (Nat.le_of_ble_eq_true rfl) dL_prepare_59 ⟨Nat.le_of_ble_eq_true rfl, Nat.le_of_ble_eq_true rfl⟩ rfl (fun H locs hP hD hS => ?_)
              refine lv_if_ne (tgt := 105) hx hb dL_prepare_62 (by decide) (fun c108 => ?_) (fun c108 => ?_)
              · rw [if_neg c108] at hf
                refine lv_iload hx hb dL_prepare_105 (lv_at hl 1 rfl) ?_
                refine lv_iconst (v := (2:Int32)) hx hb dL_prepare_107 (by decide) ?_
                refine lv_ishr hx hb dL_prepare_108 ?_
                refine lv_bipush (v := (7:Int32)) hx hb dL_prepare_109 (by decide) ?_
                obtain ⟨q109, hq109, hf⟩ := bd_some hf
                refine g_callSi S (As := [.int (x3 >>> ((2:Int32) &&& 31)), .int (7:Int32)]) (gs' := [maW a0 (a1 0) (a2 0) (a3 0) (a4 0) (a7 0 0) (a8 0) (a9 0) (a9 1), stW G a1 z.2.2.1, paW G a7 z.2.2.2]) (c_L_low l G (x3 >>> ((2:Int32) &&& 31)) (7:Int32) hq109) (va_cwS 2 hts gL_prepare_L_low rfl rfl rfl hd_L_low.2 ⟨Nat.le_of_ble_eq_true rfl, Nat.le_of_ble_eq_true rfl⟩) hK hP hD hS hA (is := []) rfl rfl rfl hl.1 rfl (Nat.le_of_ble_eq_true rfl) dL_prepare_111 ⟨Nat.le_of_ble_eq_true rfl, Nat.le_of_ble_eq_true rfl⟩ rfl (fun H locs hP hD hS => ?_)
                refine lv_if_ne (tgt := 158) hx hb dL_prepare_114 (by decide) (fun c110 => ?_) (fun c110 => ?_)
                · rw [if_neg c110] at hf
                  obtain ⟨x111, ex111, hf⟩ := lt_some hf
                  refine lv_iinc (v := x111) (lv' := [(4, .int x111), (6, .int (0:Int32)), (5, .int x3), (0, .ref (a0 0)), (1, .int p1), (2, .int p2), (3, .int z.1)]) hx hb dL_prepare_158 hl (k := 6) rfl (by rw [ex111]; rfl) (by decide) rfl (fun ls hl => ?_)
                  refine lv_goto (tgt := 5) hx hb dL_prepare_161 (by decide) ?_
                  exact ih _ e1 (lz_l hf hz) H locs ls hP hD hS (lv_sub hl [3, 4, 5, 6, 0] rfl) K
                · rw [if_pos c110] at hf
                  refine lv_aload_n hx hb dL_prepare_117 rfl (lv_at hl 2 rfl) ?_
                  refine lv_iload hx hb dL_prepare_118 (lv_at hl 6 rfl) ?_
                  refine lv_iconst (v := (3:Int32)) hx hb dL_prepare_120 (by decide) ?_
                  obtain ⟨q112, hq112, hf⟩ := bd_some hf
                  refine g_callVi S (As := [.int z.2.1, .int (3:Int32)]) (gs' := [maW a0 (a1 0) (a2 0) (a3 0) (a4 0) (a7 0 0) (a8 0) (a9 0) (a9 1), stW G a1 z.2.2.1, paW G a7 z.2.2.2]) (c_X5_member l G a0 a1 a2 a3 a4 a5 a6 a7 a8 a9 a10 a11 z.2.2.1 z.2.1 (3:Int32) hq112) (cwV 2 hts gL_prepare_X5_member rfl rfl rfl hd_X5_member ⟨Nat.le_of_ble_eq_true rfl, Nat.le_of_ble_eq_true rfl⟩) hK hP hD hS hA (is := [0, 1]) rfl rfl 0 rfl rfl rfl rfl hl.1 rfl (Nat.le_of_ble_eq_true rfl) dL_prepare_121 ⟨Nat.le_of_ble_eq_true rfl, Nat.le_of_ble_eq_true rfl⟩ rfl (fun H locs hP hD hS => ?_)
                  refine lv_if_ne (tgt := 158) hx hb dL_prepare_124 (by decide) (fun c113 => ?_) (fun c113 => ?_)
                  · rw [if_neg c113] at hf
                    obtain ⟨x114, ex114, hf⟩ := lt_some hf
                    refine lv_iinc (v := x114) (lv' := [(4, .int x114), (6, .int (0:Int32)), (5, .int x3), (0, .ref (a0 0)), (1, .int p1), (2, .int p2), (3, .int z.1)]) hx hb dL_prepare_158 hl (k := 6) rfl (by rw [ex114]; rfl) (by decide) rfl (fun ls hl => ?_)
                    refine lv_goto (tgt := 5) hx hb dL_prepare_161 (by decide) ?_
                    exact ih _ e1 (lz_l hf hz) H locs ls hP hD hS (lv_sub hl [3, 4, 5, 6, 0] rfl) K
                  · rw [if_pos c113] at hf
                    refine lv_iload_n hx hb dL_prepare_127 rfl (lv_at hl 5 rfl) ?_
                    refine lv_if_eq (tgt := 156) hx hb dL_prepare_128 (by decide) (fun c115 => ?_) (fun c115 => ?_)
                    · rw [if_pos c115] at hf
                      refine lv_iconst (v := (0:Int32)) hx hb dL_prepare_156 (by decide) ?_
                      refine lv_istore_n (lv' := [(3, .int (0:Int32)), (6, .int (0:Int32)), (5, .int x3), (0, .ref (a0 0)), (1, .int p1), (2, .int p2), (4, .int z.2.1)]) hx hb dL_prepare_157 rfl hl (by decide) rfl (fun ls hl => ?_)
                      obtain ⟨x116, ex116, hf⟩ := lt_some hf
                      refine lv_iinc (v := x116) (lv' := [(4, .int x116), (3, .int (0:Int32)), (6, .int (0:Int32)), (5, .int x3), (0, .ref (a0 0)), (1, .int p1), (2, .int p2)]) hx hb dL_prepare_158 hl (k := 6) rfl (by rw [ex116]; rfl) (by decide) rfl (fun ls hl => ?_)
                      refine lv_goto (tgt := 5) hx hb dL_prepare_161 (by decide) ?_
                      exact ih _ e1 (lz_l hf hz) H locs ls hP hD hS (lv_sub hl [4, 5, 6, 1, 0] rfl) K
                    · rw [if_neg c115] at hf
                      refine lv_aload_n hx hb dL_prepare_131 rfl (lv_at hl 2 rfl) ?_
                      refine lv_iload hx hb dL_prepare_132 (lv_at hl 6 rfl) ?_
                      refine lv_iconst (v := (1:Int32)) hx hb dL_prepare_134 (by decide) ?_
                      obtain ⟨q117, hq117, hf⟩ := bd_some hf
                      refine g_callVi S (As := [.int z.2.1, .int (1:Int32)]) (gs' := [maW a0 (a1 0) (a2 0) (a3 0) (a4 0) (a7 0 0) (a8 0) (a9 0) (a9 1), stW G a1 q117.2.1, paW G a7 q117.2.2]) (c_X5_stayAway l G a0 a1 a2 a3 a4 a5 a6 a7 a8 a9 a10 a11 z.2.2.1 z.2.2.2 z.2.1 (1:Int32) hq117) (cwV 2 hts gL_prepare_X5_stayAway rfl rfl rfl hd_X5_stayAway ⟨Nat.le_of_ble_eq_true rfl, Nat.le_of_ble_eq_true rfl⟩) hK hP hD hS hA (is := [0, 1, 2]) rfl rfl 0 rfl rfl rfl rfl hl.1 rfl (Nat.le_of_ble_eq_true rfl) dL_prepare_135 ⟨Nat.le_of_ble_eq_true rfl, Nat.le_of_ble_eq_true rfl⟩ rfl (fun H locs hP hD hS => ?_)
                      refine lv_if_ne (tgt := 156) hx hb dL_prepare_138 (by decide) (fun c118 => ?_) (fun c118 => ?_)
                      · rw [if_neg c118] at hf
                        refine lv_iconst (v := (0:Int32)) hx hb dL_prepare_156 (by decide) ?_
                        refine lv_istore_n (lv' := [(3, .int (0:Int32)), (6, .int (0:Int32)), (5, .int x3), (0, .ref (a0 0)), (1, .int p1), (2, .int p2), (4, .int z.2.1)]) hx hb dL_prepare_157 rfl hl (by decide) rfl (fun ls hl => ?_)
                        obtain ⟨x119, ex119, hf⟩ := lt_some hf
                        refine lv_iinc (v := x119) (lv' := [(4, .int x119), (3, .int (0:Int32)), (6, .int (0:Int32)), (5, .int x3), (0, .ref (a0 0)), (1, .int p1), (2, .int p2)]) hx hb dL_prepare_158 hl (k := 6) rfl (by rw [ex119]; rfl) (by decide) rfl (fun ls hl => ?_)
                        refine lv_goto (tgt := 5) hx hb dL_prepare_161 (by decide) ?_
                        exact ih _ e1 (lz_l hf hz) H locs ls hP hD hS (lv_sub hl [4, 5, 6, 1, 0] rfl) K
                      · rw [if_pos c118] at hf
                        refine lv_aload_n hx hb dL_prepare_141 rfl (lv_at hl 2 rfl) ?_
                        refine lv_iload hx hb dL_prepare_142 (lv_at hl 6 rfl) ?_
                        refine lv_iconst (v := (3:Int32)) hx hb dL_prepare_144 (by decide) ?_
                        obtain ⟨q120, hq120, hf⟩ := bd_some hf
                        refine g_callVi S (As := [.int z.2.1, .int (3:Int32)]) (gs' := [maW a0 (a1 0) (a2 0) (a3 0) (a4 0) (a7 0 0) (a8 0) (a9 0) (a9 1), stW G a1 q117.2.1, paW G a7 q117.2.2]) (c_X5_member l G a0 a1 a2 a3 a4 a5 a6 a7 a8 a9 a10 a11 q117.2.1 z.2.1 (3:Int32) hq120) (cwV 2 hts gL_prepare_X5_member rfl rfl rfl hd_X5_member ⟨Nat.le_of_ble_eq_true rfl, Nat.le_of_ble_eq_true rfl⟩) hK hP hD hS hA (is := [0, 1]) rfl rfl 0 rfl rfl rfl rfl hl.1 rfl (Nat.le_of_ble_eq_true rfl) dL_prepare_145 ⟨Nat.le_of_ble_eq_true rfl, Nat.le_of_ble_eq_true rfl⟩ rfl (fun H locs hP hD hS => ?_)
                        refine lv_iconst (v := (1:Int32)) hx hb dL_prepare_148 (by decide) ?_
                        refine lv_icmp_ne (tgt := 156) hx hb dL_prepare_149 (by decide) (fun c121 => ?_) (fun c121 => ?_)
                        · rw [if_neg c121] at hf
                          refine lv_iconst (v := (0:Int32)) hx hb dL_prepare_156 (by decide) ?_
                          refine lv_istore_n (lv' := [(3, .int (0:Int32)), (6, .int (0:Int32)), (5, .int x3), (0, .ref (a0 0)), (1, .int p1), (2, .int p2), (4, .int z.2.1)]) hx hb dL_prepare_157 rfl hl (by decide) rfl (fun ls hl => ?_)
                          obtain ⟨x122, ex122, hf⟩ := lt_some hf
                          refine lv_iinc (v := x122) (lv' := [(4, .int x122), (3, .int (0:Int32)), (6, .int (0:Int32)), (5, .int x3), (0, .ref (a0 0)), (1, .int p1), (2, .int p2)]) hx hb dL_prepare_158 hl (k := 6) rfl (by rw [ex122]; rfl) (by decide) rfl (fun ls hl => ?_)
                          refine lv_goto (tgt := 5) hx hb dL_prepare_161 (by decide) ?_
                          exact ih _ e1 (lz_l hf hz) H locs ls hP hD hS (lv_sub hl [4, 5, 6, 1, 0] rfl) K
                        · rw [if_pos c121] at hf
                          refine lv_iconst (v := (1:Int32)) hx hb dL_prepare_152 (by decide) ?_
                          refine lv_goto (tgt := 157) hx hb dL_prepare_153 (by decide) ?_
                          refine lv_istore_n (lv' := [(3, .int (1:Int32)), (6, .int (0:Int32)), (5, .int x3), (0, .ref (a0 0)), (1, .int p1), (2, .int p2), (4, .int z.2.1)]) hx hb dL_prepare_157 rfl hl (by decide) rfl (fun ls hl => ?_)
                          obtain ⟨x123, ex123, hf⟩ := lt_some hf
                          refine lv_iinc (v := x123) (lv' := [(4, .int x123), (3, .int (1:Int32)), (6, .int (0:Int32)), (5, .int x3), (0, .ref (a0 0)), (1, .int p1), (2, .int p2)]) hx hb dL_prepare_158 hl (k := 6) rfl (by rw [ex123]; rfl) (by decide) rfl (fun ls hl => ?_)
                          refine lv_goto (tgt := 5) hx hb dL_prepare_161 (by decide) ?_
                          exact ih _ e1 (lz_l hf hz) H locs ls hP hD hS (lv_sub hl [4, 5, 6, 1, 0] rfl) K
              · rw [if_pos c108] at hf
                refine lv_iload hx hb dL_prepare_65 (lv_at hl 1 rfl) ?_
                refine lv_iconst (v := (1:Int32)) hx hb dL_prepare_67 (by decide) ?_
                refine lv_ishr hx hb dL_prepare_68 ?_
                refine lv_bipush (v := (60:Int32)) hx hb dL_prepare_69 (by decide) ?_
                obtain ⟨q124, hq124, hf⟩ := bd_some hf
                refine g_callSi S (As := [.int (x3 >>> ((1:Int32) &&& 31)), .int (60:Int32)]) (gs' := [maW a0 (a1 0) (a2 0) (a3 0) (a4 0) (a7 0 0) (a8 0) (a9 0) (a9 1), stW G a1 z.2.2.1, paW G a7 z.2.2.2]) (c_L_low l G (x3 >>> ((1:Int32) &&& 31)) (60:Int32) hq124) (va_cwS 2 hts gL_prepare_L_low rfl rfl rfl hd_L_low.2 ⟨Nat.le_of_ble_eq_true rfl, Nat.le_of_ble_eq_true rfl⟩) hK hP hD hS hA (is := []) rfl rfl rfl hl.1 rfl (Nat.le_of_ble_eq_true rfl) dL_prepare_71 ⟨Nat.le_of_ble_eq_true rfl, Nat.le_of_ble_eq_true rfl⟩ rfl (fun H locs hP hD hS => ?_)
                refine lv_istore (lv' := [(7, .int q124.1), (6, .int (0:Int32)), (5, .int x3), (0, .ref (a0 0)), (1, .int p1), (2, .int p2), (3, .int z.1), (4, .int z.2.1)]) hx hb dL_prepare_74 hl (by decide) rfl (fun ls hl => ?_)
                refine lv_aload_n hx hb dL_prepare_76 rfl (lv_at hl 3 rfl) ?_
                refine lv_iload hx hb dL_prepare_77 (lv_at hl 7 rfl) ?_
                refine lv_iload hx hb dL_prepare_79 (lv_at hl 0 rfl) ?_
                obtain ⟨q125, hq125, hf⟩ := bd_some hf
                refine g_callVi S (As := [.int z.2.1, .int q124.1]) (gs' := [maW a0 (a1 0) (a2 0) (a3 0) (a4 0) (a7 0 0) (a8 0) (a9 0) (a9 1), stW G a1 q125.2.1, paW G a7 q125.2.2]) (c_X5_bid l G a0 a1 a2 a3 a4 a5 a6 a7 a8 a9 a10 a11 z.2.2.1 z.2.2.2 z.2.1 q124.1 hq125) (cwV 2 hts gL_prepare_X5_bid rfl rfl rfl hd_X5_bid ⟨Nat.le_of_ble_eq_true rfl, Nat.le_of_ble_eq_true rfl⟩) hK hP hD hS hA (is := [0, 1, 2]) rfl rfl 0 rfl rfl rfl rfl hl.1 rfl (Nat.le_of_ble_eq_true rfl) dL_prepare_81 ⟨Nat.le_of_ble_eq_true rfl, Nat.le_of_ble_eq_true rfl⟩ rfl (fun H locs hP hD hS => ?_)
                refine lv_if_ne (tgt := 103) hx hb dL_prepare_84 (by decide) (fun c126 => ?_) (fun c126 => ?_)
                · rw [if_neg c126] at hf
                  refine lv_iconst (v := (0:Int32)) hx hb dL_prepare_103 (by decide) ?_
                  refine lv_istore_n (lv' := [(3, .int (0:Int32)), (7, .int q124.1), (6, .int (0:Int32)), (5, .int x3), (0, .ref (a0 0)), (1, .int p1), (2, .int p2), (4, .int z.2.1)]) hx hb dL_prepare_104 rfl hl (by decide) rfl (fun ls hl => ?_)
                  refine lv_iload hx hb dL_prepare_105 (lv_at hl 3 rfl) ?_
                  refine lv_iconst (v := (2:Int32)) hx hb dL_prepare_107 (by decide) ?_
                  refine lv_ishr hx hb dL_prepare_108 ?_
                  refine lv_bipush (v := (7:Int32)) hx hb dL_prepare_109 (by decide) ?_
                  obtain ⟨q127, hq127, hf⟩ := bd_some hf
                  refine g_callSi S (As := [.int (x3 >>> ((2:Int32) &&& 31)), .int (7:Int32)]) (gs' := [maW a0 (a1 0) (a2 0) (a3 0) (a4 0) (a7 0 0) (a8 0) (a9 0) (a9 1), stW G a1 q125.2.1, paW G a7 q125.2.2]) (c_L_low l G (x3 >>> ((2:Int32) &&& 31)) (7:Int32) hq127) (va_cwS 2 hts gL_prepare_L_low rfl rfl rfl hd_L_low.2 ⟨Nat.le_of_ble_eq_true rfl, Nat.le_of_ble_eq_true rfl⟩) hK hP hD hS hA (is := []) rfl rfl rfl hl.1 rfl (Nat.le_of_ble_eq_true rfl) dL_prepare_111 ⟨Nat.le_of_ble_eq_true rfl, Nat.le_of_ble_eq_true rfl⟩ rfl (fun H locs hP hD hS => ?_)
                  refine lv_if_ne (tgt := 158) hx hb dL_prepare_114 (by decide) (fun c128 => ?_) (fun c128 => ?_)
                  · rw [if_neg c128] at hf
                    obtain ⟨x129, ex129, hf⟩ := lt_some hf
                    refine lv_iinc (v := x129) (lv' := [(4, .int x129), (3, .int (0:Int32)), (7, .int q124.1), (6, .int (0:Int32)), (5, .int x3), (0, .ref (a0 0)), (1, .int p1), (2, .int p2)]) hx hb dL_prepare_158 hl (k := 7) rfl (by rw [ex129]; rfl) (by decide) rfl (fun ls hl => ?_)
                    refine lv_goto (tgt := 5) hx hb dL_prepare_161 (by decide) ?_
                    exact ih _ e1 (lz_l hf hz) H locs ls hP hD hS (lv_sub hl [5, 6, 7, 1, 0] rfl) K
                  · rw [if_pos c128] at hf
                    refine lv_aload_n hx hb dL_prepare_117 rfl (lv_at hl 4 rfl) ?_
                    refine lv_iload hx hb dL_prepare_118 (lv_at hl 7 rfl) ?_
                    refine lv_iconst (v := (3:Int32)) hx hb dL_prepare_120 (by decide) ?_
                    obtain ⟨q130, hq130, hf⟩ := bd_some hf
                    refine g_callVi S (As := [.int z.2.1, .int (3:Int32)]) (gs' := [maW a0 (a1 0) (a2 0) (a3 0) (a4 0) (a7 0 0) (a8 0) (a9 0) (a9 1), stW G a1 q125.2.1, paW G a7 q125.2.2]) (c_X5_member l G a0 a1 a2 a3 a4 a5 a6 a7 a8 a9 a10 a11 q125.2.1 z.2.1 (3:Int32) hq130) (cwV 2 hts gL_prepare_X5_member rfl rfl rfl hd_X5_member ⟨Nat.le_of_ble_eq_true rfl, Nat.le_of_ble_eq_true rfl⟩) hK hP hD hS hA (is := [0, 1]) rfl rfl 0 rfl rfl rfl rfl hl.1 rfl (Nat.le_of_ble_eq_true rfl) dL_prepare_121 ⟨Nat.le_of_ble_eq_true rfl, Nat.le_of_ble_eq_true rfl⟩ rfl (fun H locs hP hD hS => ?_)
                    refine lv_if_ne (tgt := 158) hx hb dL_prepare_124 (by decide) (fun c131 => ?_) (fun c131 => ?_)
                    · rw [if_neg c131] at hf
                      obtain ⟨x132, ex132, hf⟩ := lt_some hf
                      refine lv_iinc (v := x132) (lv' := [(4, .int x132), (3, .int (0:Int32)), (7, .int q124.1), (6, .int (0:Int32)), (5, .int x3), (0, .ref (a0 0)), (1, .int p1), (2, .int p2)]) hx hb dL_prepare_158 hl (k := 7) rfl (by rw [ex132]; rfl) (by decide) rfl (fun ls hl => ?_)
                      refine lv_goto (tgt := 5) hx hb dL_prepare_161 (by decide) ?_
                      exact ih _ e1 (lz_l hf hz) H locs ls hP hD hS (lv_sub hl [5, 6, 7, 1, 0] rfl) K
                    · rw [if_pos c131] at hf
                      refine lv_iload_n hx hb dL_prepare_127 rfl (lv_at hl 0 rfl) ?_
                      refine lv_if_eq (tgt := 156) hx hb dL_prepare_128 (by decide) (fun c133 => ?_) (fun c133 => ?_)
                      · rw [if_pos c133] at hf
                        refine lv_iconst (v := (0:Int32)) hx hb dL_prepare_156 (by decide) ?_
                        refine lv_istore_n (lv' := [(3, .int (0:Int32)), (7, .int q124.1), (6, .int (0:Int32)), (5, .int x3), (0, .ref (a0 0)), (1, .int p1), (2, .int p2), (4, .int z.2.1)]) hx hb dL_prepare_157 rfl hl (by decide) rfl (fun ls hl => ?_)
                        obtain ⟨x134, ex134, hf⟩ := lt_some hf
                        refine lv_iinc (v := x134) (lv' := [(4, .int x134), (3, .int (0:Int32)), (7, .int q124.1), (6, .int (0:Int32)), (5, .int x3), (0, .ref (a0 0)), (1, .int p1), (2, .int p2)]) hx hb dL_prepare_158 hl (k := 7) rfl (by rw [ex134]; rfl) (by decide) rfl (fun ls hl => ?_)
                        refine lv_goto (tgt := 5) hx hb dL_prepare_161 (by decide) ?_
                        exact ih _ e1 (lz_l hf hz) H locs ls hP hD hS (lv_sub hl [5, 6, 7, 1, 0] rfl) K
                      · rw [if_neg c133] at hf
                        refine lv_aload_n hx hb dL_prepare_131 rfl (lv_at hl 4 rfl) ?_
                        refine lv_iload hx hb dL_prepare_132 (lv_at hl 7 rfl) ?_
                        refine lv_iconst (v := (1:Int32)) hx hb dL_prepare_134 (by decide) ?_
                        obtain ⟨q135, hq135, hf⟩ := bd_some hf
                        refine g_callVi S (As := [.int z.2.1, .int (1:Int32)]) (gs' := [maW a0 (a1 0) (a2 0) (a3 0) (a4 0) (a7 0 0) (a8 0) (a9 0) (a9 1), stW G a1 q135.2.1, paW G a7 q135.2.2]) (c_X5_stayAway l G a0 a1 a2 a3 a4 a5 a6 a7 a8 a9 a10 a11 q125.2.1 q125.2.2 z.2.1 (1:Int32) hq135) (cwV 2 hts gL_prepare_X5_stayAway rfl rfl rfl hd_X5_stayAway ⟨Nat.le_of_ble_eq_true rfl, Nat.le_of_ble_eq_true rfl⟩) hK hP hD hS hA (is := [0, 1, 2]) rfl rfl 0 rfl rfl rfl rfl hl.1 rfl (Nat.le_of_ble_eq_true rfl) dL_prepare_135 ⟨Nat.le_of_ble_eq_true rfl, Nat.le_of_ble_eq_true rfl⟩ rfl (fun H locs hP hD hS => ?_)
                        refine lv_if_ne (tgt := 156) hx hb dL_prepare_138 (by decide) (fun c136 => ?_) (fun c136 => ?_)
                        · rw [if_neg c136] at hf
                          refine lv_iconst (v := (0:Int32)) hx hb dL_prepare_156 (by decide) ?_
                          refine lv_istore_n (lv' := [(3, .int (0:Int32)), (7, .int q124.1), (6, .int (0:Int32)), (5, .int x3), (0, .ref (a0 0)), (1, .int p1), (2, .int p2), (4, .int z.2.1)]) hx hb dL_prepare_157 rfl hl (by decide) rfl (fun ls hl => ?_)
                          obtain ⟨x137, ex137, hf⟩ := lt_some hf
                          refine lv_iinc (v := x137) (lv' := [(4, .int x137), (3, .int (0:Int32)), (7, .int q124.1), (6, .int (0:Int32)), (5, .int x3), (0, .ref (a0 0)), (1, .int p1), (2, .int p2)]) hx hb dL_prepare_158 hl (k := 7) rfl (by rw [ex137]; rfl) (by decide) rfl (fun ls hl => ?_)
                          refine lv_goto (tgt := 5) hx hb dL_prepare_161 (by decide) ?_
                          exact ih _ e1 (lz_l hf hz) H locs ls hP hD hS (lv_sub hl [5, 6, 7, 1, 0] rfl) K
                        · rw [if_pos c136] at hf
                          refine lv_aload_n hx hb dL_prepare_141 rfl (lv_at hl 4 rfl) ?_
                          refine lv_iload hx hb dL_prepare_142 (lv_at hl 7 rfl) ?_
                          refine lv_iconst (v := (3:Int32)) hx hb dL_prepare_144 (by decide) ?_
                          obtain ⟨q138, hq138, hf⟩ := bd_some hf
                          refine g_callVi S (As := [.int z.2.1, .int (3:Int32)]) (gs' := [maW a0 (a1 0) (a2 0) (a3 0) (a4 0) (a7 0 0) (a8 0) (a9 0) (a9 1), stW G a1 q135.2.1, paW G a7 q135.2.2]) (c_X5_member l G a0 a1 a2 a3 a4 a5 a6 a7 a8 a9 a10 a11 q135.2.1 z.2.1 (3:Int32) hq138) (cwV 2 hts gL_prepare_X5_member rfl rfl rfl hd_X5_member ⟨Nat.le_of_ble_eq_true rfl, Nat.le_of_ble_eq_true rfl⟩) hK hP hD hS hA (is := [0, 1]) rfl rfl 0 rfl rfl rfl rfl hl.1 rfl (Nat.le_of_ble_eq_true rfl) dL_prepare_145 ⟨Nat.le_of_ble_eq_true rfl, Nat.le_of_ble_eq_true rfl⟩ rfl (fun H locs hP hD hS => ?_)
                          refine lv_iconst (v := (1:Int32)) hx hb dL_prepare_148 (by decide) ?_
                          refine lv_icmp_ne (tgt := 156) hx hb dL_prepare_149 (by decide) (fun c139 => ?_) (fun c139 => ?_)
                          · rw [if_neg c139] at hf
                            refine lv_iconst (v := (0:Int32)) hx hb dL_prepare_156 (by decide) ?_
                            refine lv_istore_n (lv' := [(3, .int (0:Int32)), (7, .int q124.1), (6, .int (0:Int32)), (5, .int x3), (0, .ref (a0 0)), (1, .int p1), (2, .int p2), (4, .int z.2.1)]) hx hb dL_prepare_157 rfl hl (by decide) rfl (fun ls hl => ?_)
                            obtain ⟨x140, ex140, hf⟩ := lt_some hf
                            refine lv_iinc (v := x140) (lv' := [(4, .int x140), (3, .int (0:Int32)), (7, .int q124.1), (6, .int (0:Int32)), (5, .int x3), (0, .ref (a0 0)), (1, .int p1), (2, .int p2)]) hx hb dL_prepare_158 hl (k := 7) rfl (by rw [ex140]; rfl) (by decide) rfl (fun ls hl => ?_)
                            refine lv_goto (tgt := 5) hx hb dL_prepare_161 (by decide) ?_
                            exact ih _ e1 (lz_l hf hz) H locs ls hP hD hS (lv_sub hl [5, 6, 7, 1, 0] rfl) K
                          · rw [if_pos c139] at hf
                            refine lv_iconst (v := (1:Int32)) hx hb dL_prepare_152 (by decide) ?_
                            refine lv_goto (tgt := 157) hx hb dL_prepare_153 (by decide) ?_
                            refine lv_istore_n (lv' := [(3, .int (1:Int32)), (7, .int q124.1), (6, .int (0:Int32)), (5, .int x3), (0, .ref (a0 0)), (1, .int p1), (2, .int p2), (4, .int z.2.1)]) hx hb dL_prepare_157 rfl hl (by decide) rfl (fun ls hl => ?_)
                            obtain ⟨x141, ex141, hf⟩ := lt_some hf
                            refine lv_iinc (v := x141) (lv' := [(4, .int x141), (3, .int (1:Int32)), (7, .int q124.1), (6, .int (0:Int32)), (5, .int x3), (0, .ref (a0 0)), (1, .int p1), (2, .int p2)]) hx hb dL_prepare_158 hl (k := 7) rfl (by rw [ex141]; rfl) (by decide) rfl (fun ls hl => ?_)
                            refine lv_goto (tgt := 5) hx hb dL_prepare_161 (by decide) ?_
                            exact ih _ e1 (lz_l hf hz) H locs ls hP hD hS (lv_sub hl [5, 6, 7, 1, 0] rfl) K
                · rw [if_pos c126] at hf
                  refine lv_aload_n hx hb dL_prepare_87 rfl (lv_at hl 3 rfl) ?_
                  refine lv_iload hx hb dL_prepare_88 (lv_at hl 7 rfl) ?_
                  refine lv_iconst (v := (2:Int32)) hx hb dL_prepare_90 (by decide) ?_
                  obtain ⟨q142, hq142, hf⟩ := bd_some hf
                  refine g_callVi S (As := [.int z.2.1, .int (2:Int32)]) (gs' := [maW a0 (a1 0) (a2 0) (a3 0) (a4 0) (a7 0 0) (a8 0) (a9 0) (a9 1), stW G a1 q125.2.1, paW G a7 q125.2.2]) (c_X5_member l G a0 a1 a2 a3 a4 a5 a6 a7 a8 a9 a10 a11 q125.2.1 z.2.1 (2:Int32) hq142) (cwV 2 hts gL_prepare_X5_member rfl rfl rfl hd_X5_member ⟨Nat.le_of_ble_eq_true rfl, Nat.le_of_ble_eq_true rfl⟩) hK hP hD hS hA (is := [0, 1]) rfl rfl 0 rfl rfl rfl rfl hl.1 rfl (Nat.le_of_ble_eq_true rfl) dL_prepare_91 ⟨Nat.le_of_ble_eq_true rfl, Nat.le_of_ble_eq_true rfl⟩ rfl (fun H locs hP hD hS => ?_)
                  refine lv_iload hx hb dL_prepare_94 (lv_at hl 0 rfl) ?_
                  refine lv_icmp_ne (tgt := 103) hx hb dL_prepare_96 (by decide) (fun c143 => ?_) (fun c143 => ?_)
                  · rw [if_neg c143] at hf
                    refine lv_iconst (v := (0:Int32)) hx hb dL_prepare_103 (by decide) ?_
                    refine lv_istore_n (lv' := [(3, .int (0:Int32)), (7, .int q124.1), (6, .int (0:Int32)), (5, .int x3), (0, .ref (a0 0)), (1, .int p1), (2, .int p2), (4, .int z.2.1)]) hx hb dL_prepare_104 rfl hl (by decide) rfl (fun ls hl => ?_)
                    refine lv_iload hx hb dL_prepare_105 (lv_at hl 3 rfl) ?_
                    refine lv_iconst (v := (2:Int32)) hx hb dL_prepare_107 (by decide) ?_
                    refine lv_ishr hx hb dL_prepare_108 ?_
                    refine lv_bipush (v := (7:Int32)) hx hb dL_prepare_109 (by decide) ?_
                    obtain ⟨q144, hq144, hf⟩ := bd_some hf
                    refine g_callSi S (As := [.int (x3 >>> ((2:Int32) &&& 31)), .int (7:Int32)]) (gs' := [maW a0 (a1 0) (a2 0) (a3 0) (a4 0) (a7 0 0) (a8 0) (a9 0) (a9 1), stW G a1 q125.2.1, paW G a7 q125.2.2]) (c_L_low l G (x3 >>> ((2:Int32) &&& 31)) (7:Int32) hq144) (va_cwS 2 hts gL_prepare_L_low rfl rfl rfl hd_L_low.2 ⟨Nat.le_of_ble_eq_true rfl, Nat.le_of_ble_eq_true rfl⟩) hK hP hD hS hA (is := []) rfl rfl rfl hl.1 rfl (Nat.le_of_ble_eq_true rfl) dL_prepare_111 ⟨Nat.le_of_ble_eq_true rfl, Nat.le_of_ble_eq_true rfl⟩ rfl (fun H locs hP hD hS => ?_)
                    refine lv_if_ne (tgt := 158) hx hb dL_prepare_114 (by decide) (fun c145 => ?_) (fun c145 => ?_)
                    · rw [if_neg c145] at hf
                      obtain ⟨x146, ex146, hf⟩ := lt_some hf
                      refine lv_iinc (v := x146) (lv' := [(4, .int x146), (3, .int (0:Int32)), (7, .int q124.1), (6, .int (0:Int32)), (5, .int x3), (0, .ref (a0 0)), (1, .int p1), (2, .int p2)]) hx hb dL_prepare_158 hl (k := 7) rfl (by rw [ex146]; rfl) (by decide) rfl (fun ls hl => ?_)
                      refine lv_goto (tgt := 5) hx hb dL_prepare_161 (by decide) ?_
                      exact ih _ e1 (lz_l hf hz) H locs ls hP hD hS (lv_sub hl [5, 6, 7, 1, 0] rfl) K
                    · rw [if_pos c145] at hf
                      refine lv_aload_n hx hb dL_prepare_117 rfl (lv_at hl 4 rfl) ?_
                      refine lv_iload hx hb dL_prepare_118 (lv_at hl 7 rfl) ?_
                      refine lv_iconst (v := (3:Int32)) hx hb dL_prepare_120 (by decide) ?_
                      obtain ⟨q147, hq147, hf⟩ := bd_some hf
                      refine g_callVi S (As := [.int z.2.1, .int (3:Int32)]) (gs' := [maW a0 (a1 0) (a2 0) (a3 0) (a4 0) (a7 0 0) (a8 0) (a9 0) (a9 1), stW G a1 q125.2.1, paW G a7 q125.2.2]) (c_X5_member l G a0 a1 a2 a3 a4 a5 a6 a7 a8 a9 a10 a11 q125.2.1 z.2.1 (3:Int32) hq147) (cwV 2 hts gL_prepare_X5_member rfl rfl rfl hd_X5_member ⟨Nat.le_of_ble_eq_true rfl, Nat.le_of_ble_eq_true rfl⟩) hK hP hD hS hA (is := [0, 1]) rfl rfl 0 rfl rfl rfl rfl hl.1 rfl (Nat.le_of_ble_eq_true rfl) dL_prepare_121 ⟨Nat.le_of_ble_eq_true rfl, Nat.le_of_ble_eq_true rfl⟩ rfl (fun H locs hP hD hS => ?_)
                      refine lv_if_ne (tgt := 158) hx hb dL_prepare_124 (by decide) (fun c148 => ?_) (fun c148 => ?_)
                      · rw [if_neg c148] at hf
                        obtain ⟨x149, ex149, hf⟩ := lt_some hf
                        refine lv_iinc (v := x149) (lv' := [(4, .int x149), (3, .int (0:Int32)), (7, .int q124.1), (6, .int (0:Int32)), (5, .int x3), (0, .ref (a0 0)), (1, .int p1), (2, .int p2)]) hx hb dL_prepare_158 hl (k := 7) rfl (by rw [ex149]; rfl) (by decide) rfl (fun ls hl => ?_)
                        refine lv_goto (tgt := 5) hx hb dL_prepare_161 (by decide) ?_
                        exact ih _ e1 (lz_l hf hz) H locs ls hP hD hS (lv_sub hl [5, 6, 7, 1, 0] rfl) K
                      · rw [if_pos c148] at hf
                        refine lv_iload_n hx hb dL_prepare_127 rfl (lv_at hl 0 rfl) ?_
                        refine lv_if_eq (tgt := 156) hx hb dL_prepare_128 (by decide) (fun c150 => ?_) (fun c150 => ?_)
                        · rw [if_pos c150] at hf
                          refine lv_iconst (v := (0:Int32)) hx hb dL_prepare_156 (by decide) ?_
                          refine lv_istore_n (lv' := [(3, .int (0:Int32)), (7, .int q124.1), (6, .int (0:Int32)), (5, .int x3), (0, .ref (a0 0)), (1, .int p1), (2, .int p2), (4, .int z.2.1)]) hx hb dL_prepare_157 rfl hl (by decide) rfl (fun ls hl => ?_)
                          obtain ⟨x151, ex151, hf⟩ := lt_some hf
                          refine lv_iinc (v := x151) (lv' := [(4, .int x151), (3, .int (0:Int32)), (7, .int q124.1), (6, .int (0:Int32)), (5, .int x3), (0, .ref (a0 0)), (1, .int p1), (2, .int p2)]) hx hb dL_prepare_158 hl (k := 7) rfl (by rw [ex151]; rfl) (by decide) rfl (fun ls hl => ?_)
                          refine lv_goto (tgt := 5) hx hb dL_prepare_161 (by decide) ?_
                          exact ih _ e1 (lz_l hf hz) H locs ls hP hD hS (lv_sub hl [5, 6, 7, 1, 0] rfl) K
                        · rw [if_neg c150] at hf
                          refine lv_aload_n hx hb dL_prepare_131 rfl (lv_at hl 4 rfl) ?_
                          refine lv_iload hx hb dL_prepare_132 (lv_at hl 7 rfl) ?_
                          refine lv_iconst (v := (1:Int32)) hx hb dL_prepare_134 (by decide) ?_
                          obtain ⟨q152, hq152, hf⟩ := bd_some hf
                          refine g_callVi S (As := [.int z.2.1, .int (1:Int32)]) (gs' := [maW a0 (a1 0) (a2 0) (a3 0) (a4 0) (a7 0 0) (a8 0) (a9 0) (a9 1), stW G a1 q152.2.1, paW G a7 q152.2.2]) (c_X5_stayAway l G a0 a1 a2 a3 a4 a5 a6 a7 a8 a9 a10 a11 q125.2.1 q125.2.2 z.2.1 (1:Int32) hq152) (cwV 2 hts gL_prepare_X5_stayAway rfl rfl rfl hd_X5_stayAway ⟨Nat.le_of_ble_eq_true rfl, Nat.le_of_ble_eq_true rfl⟩) hK hP hD hS hA (is := [0, 1, 2]) rfl rfl 0 rfl rfl rfl rfl hl.1 rfl (Nat.le_of_ble_eq_true rfl) dL_prepare_135 ⟨Nat.le_of_ble_eq_true rfl, Nat.le_of_ble_eq_true rfl⟩ rfl (fun H locs hP hD hS => ?_)
                          refine lv_if_ne (tgt := 156) hx hb dL_prepare_138 (by decide) (fun c153 => ?_) (fun c153 => ?_)
                          · rw [if_neg c153] at hf
                            refine lv_iconst (v := (0:Int32)) hx hb dL_prepare_156 (by decide) ?_
                            refine lv_istore_n (lv' := [(3, .int (0:Int32)), (7, .int q124.1), (6, .int (0:Int32)), (5, .int x3), (0, .ref (a0 0)), (1, .int p1), (2, .int p2), (4, .int z.2.1)]) hx hb dL_prepare_157 rfl hl (by decide) rfl (fun ls hl => ?_)
                            obtain ⟨x154, ex154, hf⟩ := lt_some hf
                            refine lv_iinc (v := x154) (lv' := [(4, .int x154), (3, .int (0:Int32)), (7, .int q124.1), (6, .int (0:Int32)), (5, .int x3), (0, .ref (a0 0)), (1, .int p1), (2, .int p2)]) hx hb dL_prepare_158 hl (k := 7) rfl (by rw [ex154]; rfl) (by decide) rfl (fun ls hl => ?_)
                            refine lv_goto (tgt := 5) hx hb dL_prepare_161 (by decide) ?_
                            exact ih _ e1 (lz_l hf hz) H locs ls hP hD hS (lv_sub hl [5, 6, 7, 1, 0] rfl) K
                          · rw [if_pos c153] at hf
                            refine lv_aload_n hx hb dL_prepare_141 rfl (lv_at hl 4 rfl) ?_
                            refine lv_iload hx hb dL_prepare_142 (lv_at hl 7 rfl) ?_
                            refine lv_iconst (v := (3:Int32)) hx hb dL_prepare_144 (by decide) ?_
                            obtain ⟨q155, hq155, hf⟩ := bd_some hf
                            refine g_callVi S (As := [.int z.2.1, .int (3:Int32)]) (gs' := [maW a0 (a1 0) (a2 0) (a3 0) (a4 0) (a7 0 0) (a8 0) (a9 0) (a9 1), stW G a1 q152.2.1, paW G a7 q152.2.2]) (c_X5_member l G a0 a1 a2 a3 a4 a5 a6 a7 a8 a9 a10 a11 q152.2.1 z.2.1 (3:Int32) hq155) (cwV 2 hts gL_prepare_X5_member rfl rfl rfl hd_X5_member ⟨Nat.le_of_ble_eq_true rfl, Nat.le_of_ble_eq_true rfl⟩) hK hP hD hS hA (is := [0, 1]) rfl rfl 0 rfl rfl rfl rfl hl.1 rfl (Nat.le_of_ble_eq_true rfl) dL_prepare_145 ⟨Nat.le_of_ble_eq_true rfl, Nat.le_of_ble_eq_true rfl⟩ rfl (fun H locs hP hD hS => ?_)
                            refine lv_iconst (v := (1:Int32)) hx hb dL_prepare_148 (by decide) ?_
                            refine lv_icmp_ne (tgt := 156) hx hb dL_prepare_149 (by decide) (fun c156 => ?_) (fun c156 => ?_)
                            · rw [if_neg c156] at hf
                              refine lv_iconst (v := (0:Int32)) hx hb dL_prepare_156 (by decide) ?_
                              refine lv_istore_n (lv' := [(3, .int (0:Int32)), (7, .int q124.1), (6, .int (0:Int32)), (5, .int x3), (0, .ref (a0 0)), (1, .int p1), (2, .int p2), (4, .int z.2.1)]) hx hb dL_prepare_157 rfl hl (by decide) rfl (fun ls hl => ?_)
                              obtain ⟨x157, ex157, hf⟩ := lt_some hf
                              refine lv_iinc (v := x157) (lv' := [(4, .int x157), (3, .int (0:Int32)), (7, .int q124.1), (6, .int (0:Int32)), (5, .int x3), (0, .ref (a0 0)), (1, .int p1), (2, .int p2)]) hx hb dL_prepare_158 hl (k := 7) rfl (by rw [ex157]; rfl) (by decide) rfl (fun ls hl => ?_)
                              refine lv_goto (tgt := 5) hx hb dL_prepare_161 (by decide) ?_
                              exact ih _ e1 (lz_l hf hz) H locs ls hP hD hS (lv_sub hl [5, 6, 7, 1, 0] rfl) K
                            · rw [if_pos c156] at hf
                              refine lv_iconst (v := (1:Int32)) hx hb dL_prepare_152 (by decide) ?_
                              refine lv_goto (tgt := 157) hx hb dL_prepare_153 (by decide) ?_
                              refine lv_istore_n (lv' := [(3, .int (1:Int32)), (7, .int q124.1), (6, .int (0:Int32)), (5, .int x3), (0, .ref (a0 0)), (1, .int p1), (2, .int p2), (4, .int z.2.1)]) hx hb dL_prepare_157 rfl hl (by decide) rfl (fun ls hl => ?_)
                              obtain ⟨x158, ex158, hf⟩ := lt_some hf
                              refine lv_iinc (v := x158) (lv' := [(4, .int x158), (3, .int (1:Int32)), (7, .int q124.1), (6, .int (0:Int32)), (5, .int x3), (0, .ref (a0 0)), (1, .int p1), (2, .int p2)]) hx hb dL_prepare_158 hl (k := 7) rfl (by rw [ex158]; rfl) (by decide) rfl (fun ls hl => ?_)
                              refine lv_goto (tgt := 5) hx hb dL_prepare_161 (by decide) ?_
                              exact ih _ e1 (lz_l hf hz) H locs ls hP hD hS (lv_sub hl [5, 6, 7, 1, 0] rfl) K
                  · rw [if_pos c143] at hf
                    refine lv_iconst (v := (1:Int32)) hx hb dL_prepare_99 (by decide) ?_
                    refine lv_goto (tgt := 104) hx hb dL_prepare_100 (by decide) ?_
                    refine lv_istore_n (lv' := [(3, .int (1:Int32)), (7, .int q124.1), (6, .int (0:Int32)), (5, .int x3), (0, .ref (a0 0)), (1, .int p1), (2, .int p2), (4, .int z.2.1)]) hx hb dL_prepare_104 rfl hl (by decide) rfl (fun ls hl => ?_)
                    refine lv_iload hx hb dL_prepare_105 (lv_at hl 3 rfl) ?_
                    refine lv_iconst (v := (2:Int32)) hx hb dL_prepare_107 (by decide) ?_
                    refine lv_ishr hx hb dL_prepare_108 ?_
                    refine lv_bipush (v := (7:Int32)) hx hb dL_prepare_109 (by decide) ?_
                    obtain ⟨q159, hq159, hf⟩ := bd_some hf
                    refine g_callSi S (As := [.int (x3 >>> ((2:Int32) &&& 31)), .int (7:Int32)]) (gs' := [maW a0 (a1 0) (a2 0) (a3 0) (a4 0) (a7 0 0) (a8 0) (a9 0) (a9 1), stW G a1 q125.2.1, paW G a7 q125.2.2]) (c_L_low l G (x3 >>> ((2:Int32) &&& 31)) (7:Int32) hq159) (va_cwS 2 hts gL_prepare_L_low rfl rfl rfl hd_L_low.2 ⟨Nat.le_of_ble_eq_true rfl, Nat.le_of_ble_eq_true rfl⟩) hK hP hD hS hA (is := []) rfl rfl rfl hl.1 rfl (Nat.le_of_ble_eq_true rfl) dL_prepare_111 ⟨Nat.le_of_ble_eq_true rfl, Nat.le_of_ble_eq_true rfl⟩ rfl (fun H locs hP hD hS => ?_)
                    refine lv_if_ne (tgt := 158) hx hb dL_prepare_114 (by decide) (fun c160 => ?_) (fun c160 => ?_)
                    · rw [if_neg c160] at hf
                      obtain ⟨x161, ex161, hf⟩ := lt_some hf
                      refine lv_iinc (v := x161) (lv' := [(4, .int x161), (3, .int (1:Int32)), (7, .int q124.1), (6, .int (0:Int32)), (5, .int x3), (0, .ref (a0 0)), (1, .int p1), (2, .int p2)]) hx hb dL_prepare_158 hl (k := 7) rfl (by rw [ex161]; rfl) (by decide) rfl (fun ls hl => ?_)
                      refine lv_goto (tgt := 5) hx hb dL_prepare_161 (by decide) ?_
                      exact ih _ e1 (lz_l hf hz) H locs ls hP hD hS (lv_sub hl [5, 6, 7, 1, 0] rfl) K
                    · rw [if_pos c160] at hf
                      refine lv_aload_n hx hb dL_prepare_117 rfl (lv_at hl 4 rfl) ?_
                      refine lv_iload hx hb dL_prepare_118 (lv_at hl 7 rfl) ?_
                      refine lv_iconst (v := (3:Int32)) hx hb dL_prepare_120 (by decide) ?_
                      obtain ⟨q162, hq162, hf⟩ := bd_some hf
                      refine g_callVi S (As := [.int z.2.1, .int (3:Int32)]) (gs' := [maW a0 (a1 0) (a2 0) (a3 0) (a4 0) (a7 0 0) (a8 0) (a9 0) (a9 1), stW G a1 q125.2.1, paW G a7 q125.2.2]) (c_X5_member l G a0 a1 a2 a3 a4 a5 a6 a7 a8 a9 a10 a11 q125.2.1 z.2.1 (3:Int32) hq162) (cwV 2 hts gL_prepare_X5_member rfl rfl rfl hd_X5_member ⟨Nat.le_of_ble_eq_true rfl, Nat.le_of_ble_eq_true rfl⟩) hK hP hD hS hA (is := [0, 1]) rfl rfl 0 rfl rfl rfl rfl hl.1 rfl (Nat.le_of_ble_eq_true rfl) dL_prepare_121 ⟨Nat.le_of_ble_eq_true rfl, Nat.le_of_ble_eq_true rfl⟩ rfl (fun H locs hP hD hS => ?_)
                      refine lv_if_ne (tgt := 158) hx hb dL_prepare_124 (by decide) (fun c163 => ?_) (fun c163 => ?_)
                      · rw [if_neg c163] at hf
                        obtain ⟨x164, ex164, hf⟩ := lt_some hf
                        refine lv_iinc (v := x164) (lv' := [(4, .int x164), (3, .int (1:Int32)), (7, .int q124.1), (6, .int (0:Int32)), (5, .int x3), (0, .ref (a0 0)), (1, .int p1), (2, .int p2)]) hx hb dL_prepare_158 hl (k := 7) rfl (by rw [ex164]; rfl) (by decide) rfl (fun ls hl => ?_)
                        refine lv_goto (tgt := 5) hx hb dL_prepare_161 (by decide) ?_
                        exact ih _ e1 (lz_l hf hz) H locs ls hP hD hS (lv_sub hl [5, 6, 7, 1, 0] rfl) K
                      · rw [if_pos c163] at hf
                        refine lv_iload_n hx hb dL_prepare_127 rfl (lv_at hl 0 rfl) ?_
                        refine lv_if_eq (tgt := 156) hx hb dL_prepare_128 (by decide) (fun c165 => ?_) (fun c165 => ?_)
                        · rw [if_pos c165] at hf
                          refine lv_iconst (v := (0:Int32)) hx hb dL_prepare_156 (by decide) ?_
                          refine lv_istore_n (lv' := [(3, .int (0:Int32)), (7, .int q124.1), (6, .int (0:Int32)), (5, .int x3), (0, .ref (a0 0)), (1, .int p1), (2, .int p2), (4, .int z.2.1)]) hx hb dL_prepare_157 rfl hl (by decide) rfl (fun ls hl => ?_)
                          obtain ⟨x166, ex166, hf⟩ := lt_some hf
                          refine lv_iinc (v := x166) (lv' := [(4, .int x166), (3, .int (0:Int32)), (7, .int q124.1), (6, .int (0:Int32)), (5, .int x3), (0, .ref (a0 0)), (1, .int p1), (2, .int p2)]) hx hb dL_prepare_158 hl (k := 7) rfl (by rw [ex166]; rfl) (by decide) rfl (fun ls hl => ?_)
                          refine lv_goto (tgt := 5) hx hb dL_prepare_161 (by decide) ?_
                          exact ih _ e1 (lz_l hf hz) H locs ls hP hD hS (lv_sub hl [5, 6, 7, 1, 0] rfl) K
                        · rw [if_neg c165] at hf
                          refine lv_aload_n hx hb dL_prepare_131 rfl (lv_at hl 4 rfl) ?_
                          refine lv_iload hx hb dL_prepare_132 (lv_at hl 7 rfl) ?_
                          refine lv_iconst (v := (1:Int32)) hx hb dL_prepare_134 (by decide) ?_
                          obtain ⟨q167, hq167, hf⟩ := bd_some hf
                          refine g_callVi S (As := [.int z.2.1, .int (1:Int32)]) (gs' := [maW a0 (a1 0) (a2 0) (a3 0) (a4 0) (a7 0 0) (a8 0) (a9 0) (a9 1), stW G a1 q167.2.1, paW G a7 q167.2.2]) (c_X5_stayAway l G a0 a1 a2 a3 a4 a5 a6 a7 a8 a9 a10 a11 q125.2.1 q125.2.2 z.2.1 (1:Int32) hq167) (cwV 2 hts gL_prepare_X5_stayAway rfl rfl rfl hd_X5_stayAway ⟨Nat.le_of_ble_eq_true rfl, Nat.le_of_ble_eq_true rfl⟩) hK hP hD hS hA (is := [0, 1, 2]) rfl rfl 0 rfl rfl rfl rfl hl.1 rfl (Nat.le_of_ble_eq_true rfl) dL_prepare_135 ⟨Nat.le_of_ble_eq_true rfl, Nat.le_of_ble_eq_true rfl⟩ rfl (fun H locs hP hD hS => ?_)
                          refine lv_if_ne (tgt := 156) hx hb dL_prepare_138 (by decide) (fun c168 => ?_) (fun c168 => ?_)
                          · rw [if_neg c168] at hf
                            refine lv_iconst (v := (0:Int32)) hx hb dL_prepare_156 (by decide) ?_
                            refine lv_istore_n (lv' := [(3, .int (0:Int32)), (7, .int q124.1), (6, .int (0:Int32)), (5, .int x3), (0, .ref (a0 0)), (1, .int p1), (2, .int p2), (4, .int z.2.1)]) hx hb dL_prepare_157 rfl hl (by decide) rfl (fun ls hl => ?_)
                            obtain ⟨x169, ex169, hf⟩ := lt_some hf
                            refine lv_iinc (v := x169) (lv' := [(4, .int x169), (3, .int (0:Int32)), (7, .int q124.1), (6, .int (0:Int32)), (5, .int x3), (0, .ref (a0 0)), (1, .int p1), (2, .int p2)]) hx hb dL_prepare_158 hl (k := 7) rfl (by rw [ex169]; rfl) (by decide) rfl (fun ls hl => ?_)
                            refine lv_goto (tgt := 5) hx hb dL_prepare_161 (by decide) ?_
                            exact ih _ e1 (lz_l hf hz) H locs ls hP hD hS (lv_sub hl [5, 6, 7, 1, 0] rfl) K
                          · rw [if_pos c168] at hf
                            refine lv_aload_n hx hb dL_prepare_141 rfl (lv_at hl 4 rfl) ?_
                            refine lv_iload hx hb dL_prepare_142 (lv_at hl 7 rfl) ?_
                            refine lv_iconst (v := (3:Int32)) hx hb dL_prepare_144 (by decide) ?_
                            obtain ⟨q170, hq170, hf⟩ := bd_some hf
                            refine g_callVi S (As := [.int z.2.1, .int (3:Int32)]) (gs' := [maW a0 (a1 0) (a2 0) (a3 0) (a4 0) (a7 0 0) (a8 0) (a9 0) (a9 1), stW G a1 q167.2.1, paW G a7 q167.2.2]) (c_X5_member l G a0 a1 a2 a3 a4 a5 a6 a7 a8 a9 a10 a11 q167.2.1 z.2.1 (3:Int32) hq170) (cwV 2 hts gL_prepare_X5_member rfl rfl rfl hd_X5_member ⟨Nat.le_of_ble_eq_true rfl, Nat.le_of_ble_eq_true rfl⟩) hK hP hD hS hA (is := [0, 1]) rfl rfl 0 rfl rfl rfl rfl hl.1 rfl (Nat.le_of_ble_eq_true rfl) dL_prepare_145 ⟨Nat.le_of_ble_eq_true rfl, Nat.le_of_ble_eq_true rfl⟩ rfl (fun H locs hP hD hS => ?_)
                            refine lv_iconst (v := (1:Int32)) hx hb dL_prepare_148 (by decide) ?_
                            refine lv_icmp_ne (tgt := 156) hx hb dL_prepare_149 (by decide) (fun c171 => ?_) (fun c171 => ?_)
                            · rw [if_neg c171] at hf
                              refine lv_iconst (v := (0:Int32)) hx hb dL_prepare_156 (by decide) ?_
                              refine lv_istore_n (lv' := [(3, .int (0:Int32)), (7, .int q124.1), (6, .int (0:Int32)), (5, .int x3), (0, .ref (a0 0)), (1, .int p1), (2, .int p2), (4, .int z.2.1)]) hx hb dL_prepare_157 rfl hl (by decide) rfl (fun ls hl => ?_)
                              obtain ⟨x172, ex172, hf⟩ := lt_some hf
                              refine lv_iinc (v := x172) (lv' := [(4, .int x172), (3, .int (0:Int32)), (7, .int q124.1), (6, .int (0:Int32)), (5, .int x3), (0, .ref (a0 0)), (1, .int p1), (2, .int p2)]) hx hb dL_prepare_158 hl (k := 7) rfl (by rw [ex172]; rfl) (by decide) rfl (fun ls hl => ?_)
                              refine lv_goto (tgt := 5) hx hb dL_prepare_161 (by decide) ?_
                              exact ih _ e1 (lz_l hf hz) H locs ls hP hD hS (lv_sub hl [5, 6, 7, 1, 0] rfl) K
                            · rw [if_pos c171] at hf
                              refine lv_iconst (v := (1:Int32)) hx hb dL_prepare_152 (by decide) ?_
                              refine lv_goto (tgt := 157) hx hb dL_prepare_153 (by decide) ?_
                              refine lv_istore_n (lv' := [(3, .int (1:Int32)), (7, .int q124.1), (6, .int (0:Int32)), (5, .int x3), (0, .ref (a0 0)), (1, .int p1), (2, .int p2), (4, .int z.2.1)]) hx hb dL_prepare_157 rfl hl (by decide) rfl (fun ls hl => ?_)
                              obtain ⟨x173, ex173, hf⟩ := lt_some hf
                              refine lv_iinc (v := x173) (lv' := [(4, .int x173), (3, .int (1:Int32)), (7, .int q124.1), (6, .int (0:Int32)), (5, .int x3), (0, .ref (a0 0)), (1, .int p1), (2, .int p2)]) hx hb dL_prepare_158 hl (k := 7) rfl (by rw [ex173]; rfl) (by decide) rfl (fun ls hl => ?_)
                              refine lv_goto (tgt := 5) hx hb dL_prepare_161 (by decide) ?_
                              exact ih _ e1 (lz_l hf hz) H locs ls hP hD hS (lv_sub hl [5, 6, 7, 1, 0] rfl) K
          · rw [if_pos c90] at hf
            refine lv_iconst (v := (1:Int32)) hx hb dL_prepare_44 (by decide) ?_
            refine lv_goto (tgt := 49) hx hb dL_prepare_45 (by decide) ?_
            refine lv_istore (lv' := [(6, .int (1:Int32)), (5, .int x3), (0, .ref (a0 0)), (1, .int p1), (2, .int p2), (3, .int z.1), (4, .int z.2.1)]) hx hb dL_prepare_49 hl (by decide) rfl (fun ls hl => ?_)
            refine lv_iload hx hb dL_prepare_51 (lv_at hl 0 rfl) ?_
            refine lv_if_eq (tgt := 105) hx hb dL_prepare_53 (by decide) (fun c174 => ?_) (fun c174 => ?_)
            · rw [if_pos c174] at hf
              refine lv_iload hx hb dL_prepare_105 (lv_at hl 1 rfl) ?_
              refine lv_iconst (v := (2:Int32)) hx hb dL_prepare_107 (by decide) ?_
              refine lv_ishr hx hb dL_prepare_108 ?_
              refine lv_bipush (v := (7:Int32)) hx hb dL_prepare_109 (by decide) ?_
              obtain ⟨q175, hq175, hf⟩ := bd_some hf
              refine g_callSi S (As := [.int (x3 >>> ((2:Int32) &&& 31)), .int (7:Int32)]) (gs' := [maW a0 (a1 0) (a2 0) (a3 0) (a4 0) (a7 0 0) (a8 0) (a9 0) (a9 1), stW G a1 z.2.2.1, paW G a7 z.2.2.2]) (c_L_low l G (x3 >>> ((2:Int32) &&& 31)) (7:Int32) hq175) (va_cwS 2 hts gL_prepare_L_low rfl rfl rfl hd_L_low.2 ⟨Nat.le_of_ble_eq_true rfl, Nat.le_of_ble_eq_true rfl⟩) hK hP hD hS hA (is := []) rfl rfl rfl hl.1 rfl (Nat.le_of_ble_eq_true rfl) dL_prepare_111 ⟨Nat.le_of_ble_eq_true rfl, Nat.le_of_ble_eq_true rfl⟩ rfl (fun H locs hP hD hS => ?_)
              refine lv_if_ne (tgt := 158) hx hb dL_prepare_114 (by decide) (fun c176 => ?_) (fun c176 => ?_)
              · rw [if_neg c176] at hf
                obtain ⟨x177, ex177, hf⟩ := lt_some hf
                refine lv_iinc (v := x177) (lv' := [(4, .int x177), (6, .int (1:Int32)), (5, .int x3), (0, .ref (a0 0)), (1, .int p1), (2, .int p2), (3, .int z.1)]) hx hb dL_prepare_158 hl (k := 6) rfl (by rw [ex177]; rfl) (by decide) rfl (fun ls hl => ?_)
                refine lv_goto (tgt := 5) hx hb dL_prepare_161 (by decide) ?_
                exact ih _ e1 (lz_l hf hz) H locs ls hP hD hS (lv_sub hl [3, 4, 5, 6, 0] rfl) K
              · rw [if_pos c176] at hf
                refine lv_aload_n hx hb dL_prepare_117 rfl (lv_at hl 2 rfl) ?_
                refine lv_iload hx hb dL_prepare_118 (lv_at hl 6 rfl) ?_
                refine lv_iconst (v := (3:Int32)) hx hb dL_prepare_120 (by decide) ?_
                obtain ⟨q178, hq178, hf⟩ := bd_some hf
                refine g_callVi S (As := [.int z.2.1, .int (3:Int32)]) (gs' := [maW a0 (a1 0) (a2 0) (a3 0) (a4 0) (a7 0 0) (a8 0) (a9 0) (a9 1), stW G a1 z.2.2.1, paW G a7 z.2.2.2]) (c_X5_member l G a0 a1 a2 a3 a4 a5 a6 a7 a8 a9 a10 a11 z.2.2.1 z.2.1 (3:Int32) hq178) (cwV 2 hts gL_prepare_X5_member rfl rfl rfl hd_X5_member ⟨Nat.le_of_ble_eq_true rfl, Nat.le_of_ble_eq_true rfl⟩) hK hP hD hS hA (is := [0, 1]) rfl rfl 0 rfl rfl rfl rfl hl.1 rfl (Nat.le_of_ble_eq_true rfl) dL_prepare_121 ⟨Nat.le_of_ble_eq_true rfl, Nat.le_of_ble_eq_true rfl⟩ rfl (fun H locs hP hD hS => ?_)
                refine lv_if_ne (tgt := 158) hx hb dL_prepare_124 (by decide) (fun c179 => ?_) (fun c179 => ?_)
                · rw [if_neg c179] at hf
                  obtain ⟨x180, ex180, hf⟩ := lt_some hf
                  refine lv_iinc (v := x180) (lv' := [(4, .int x180), (6, .int (1:Int32)), (5, .int x3), (0, .ref (a0 0)), (1, .int p1), (2, .int p2), (3, .int z.1)]) hx hb dL_prepare_158 hl (k := 6) rfl (by rw [ex180]; rfl) (by decide) rfl (fun ls hl => ?_)
                  refine lv_goto (tgt := 5) hx hb dL_prepare_161 (by decide) ?_
                  exact ih _ e1 (lz_l hf hz) H locs ls hP hD hS (lv_sub hl [3, 4, 5, 6, 0] rfl) K
                · rw [if_pos c179] at hf
                  refine lv_iload_n hx hb dL_prepare_127 rfl (lv_at hl 5 rfl) ?_
                  refine lv_if_eq (tgt := 156) hx hb dL_prepare_128 (by decide) (fun c181 => ?_) (fun c181 => ?_)
                  · rw [if_pos c181] at hf
                    refine lv_iconst (v := (0:Int32)) hx hb dL_prepare_156 (by decide) ?_
                    refine lv_istore_n (lv' := [(3, .int (0:Int32)), (6, .int (1:Int32)), (5, .int x3), (0, .ref (a0 0)), (1, .int p1), (2, .int p2), (4, .int z.2.1)]) hx hb dL_prepare_157 rfl hl (by decide) rfl (fun ls hl => ?_)
                    obtain ⟨x182, ex182, hf⟩ := lt_some hf
                    refine lv_iinc (v := x182) (lv' := [(4, .int x182), (3, .int (0:Int32)), (6, .int (1:Int32)), (5, .int x3), (0, .ref (a0 0)), (1, .int p1), (2, .int p2)]) hx hb dL_prepare_158 hl (k := 6) rfl (by rw [ex182]; rfl) (by decide) rfl (fun ls hl => ?_)
                    refine lv_goto (tgt := 5) hx hb dL_prepare_161 (by decide) ?_
                    exact ih _ e1 (lz_l hf hz) H locs ls hP hD hS (lv_sub hl [4, 5, 6, 1, 0] rfl) K
                  · rw [if_neg c181] at hf
                    refine lv_aload_n hx hb dL_prepare_131 rfl (lv_at hl 2 rfl) ?_
                    refine lv_iload hx hb dL_prepare_132 (lv_at hl 6 rfl) ?_
                    refine lv_iconst (v := (1:Int32)) hx hb dL_prepare_134 (by decide) ?_
                    obtain ⟨q183, hq183, hf⟩ := bd_some hf
                    refine g_callVi S (As := [.int z.2.1, .int (1:Int32)]) (gs' := [maW a0 (a1 0) (a2 0) (a3 0) (a4 0) (a7 0 0) (a8 0) (a9 0) (a9 1), stW G a1 q183.2.1, paW G a7 q183.2.2]) (c_X5_stayAway l G a0 a1 a2 a3 a4 a5 a6 a7 a8 a9 a10 a11 z.2.2.1 z.2.2.2 z.2.1 (1:Int32) hq183) (cwV 2 hts gL_prepare_X5_stayAway rfl rfl rfl hd_X5_stayAway ⟨Nat.le_of_ble_eq_true rfl, Nat.le_of_ble_eq_true rfl⟩) hK hP hD hS hA (is := [0, 1, 2]) rfl rfl 0 rfl rfl rfl rfl hl.1 rfl (Nat.le_of_ble_eq_true rfl) dL_prepare_135 ⟨Nat.le_of_ble_eq_true rfl, Nat.le_of_ble_eq_true rfl⟩ rfl (fun H locs hP hD hS => ?_)
                    refine lv_if_ne (tgt := 156) hx hb dL_prepare_138 (by decide) (fun c184 => ?_) (fun c184 => ?_)
                    · rw [if_neg c184] at hf
                      refine lv_iconst (v := (0:Int32)) hx hb dL_prepare_156 (by decide) ?_
                      refine lv_istore_n (lv' := [(3, .int (0:Int32)), (6, .int (1:Int32)), (5, .int x3), (0, .ref (a0 0)), (1, .int p1), (2, .int p2), (4, .int z.2.1)]) hx hb dL_prepare_157 rfl hl (by decide) rfl (fun ls hl => ?_)
                      obtain ⟨x185, ex185, hf⟩ := lt_some hf
                      refine lv_iinc (v := x185) (lv' := [(4, .int x185), (3, .int (0:Int32)), (6, .int (1:Int32)), (5, .int x3), (0, .ref (a0 0)), (1, .int p1), (2, .int p2)]) hx hb dL_prepare_158 hl (k := 6) rfl (by rw [ex185]; rfl) (by decide) rfl (fun ls hl => ?_)
                      refine lv_goto (tgt := 5) hx hb dL_prepare_161 (by decide) ?_
                      exact ih _ e1 (lz_l hf hz) H locs ls hP hD hS (lv_sub hl [4, 5, 6, 1, 0] rfl) K
                    · rw [if_pos c184] at hf
                      refine lv_aload_n hx hb dL_prepare_141 rfl (lv_at hl 2 rfl) ?_
                      refine lv_iload hx hb dL_prepare_142 (lv_at hl 6 rfl) ?_
                      refine lv_iconst (v := (3:Int32)) hx hb dL_prepare_144 (by decide) ?_
                      obtain ⟨q186, hq186, hf⟩ := bd_some hf
                      refine g_callVi S (As := [.int z.2.1, .int (3:Int32)]) (gs' := [maW a0 (a1 0) (a2 0) (a3 0) (a4 0) (a7 0 0) (a8 0) (a9 0) (a9 1), stW G a1 q183.2.1, paW G a7 q183.2.2]) (c_X5_member l G a0 a1 a2 a3 a4 a5 a6 a7 a8 a9 a10 a11 q183.2.1 z.2.1 (3:Int32) hq186) (cwV 2 hts gL_prepare_X5_member rfl rfl rfl hd_X5_member ⟨Nat.le_of_ble_eq_true rfl, Nat.le_of_ble_eq_true rfl⟩) hK hP hD hS hA (is := [0, 1]) rfl rfl 0 rfl rfl rfl rfl hl.1 rfl (Nat.le_of_ble_eq_true rfl) dL_prepare_145 ⟨Nat.le_of_ble_eq_true rfl, Nat.le_of_ble_eq_true rfl⟩ rfl (fun H locs hP hD hS => ?_)
                      refine lv_iconst (v := (1:Int32)) hx hb dL_prepare_148 (by decide) ?_
                      refine lv_icmp_ne (tgt := 156) hx hb dL_prepare_149 (by decide) (fun c187 => ?_) (fun c187 => ?_)
                      · rw [if_neg c187] at hf
                        refine lv_iconst (v := (0:Int32)) hx hb dL_prepare_156 (by decide) ?_
                        refine lv_istore_n (lv' := [(3, .int (0:Int32)), (6, .int (1:Int32)), (5, .int x3), (0, .ref (a0 0)), (1, .int p1), (2, .int p2), (4, .int z.2.1)]) hx hb dL_prepare_157 rfl hl (by decide) rfl (fun ls hl => ?_)
                        obtain ⟨x188, ex188, hf⟩ := lt_some hf
                        refine lv_iinc (v := x188) (lv' := [(4, .int x188), (3, .int (0:Int32)), (6, .int (1:Int32)), (5, .int x3), (0, .ref (a0 0)), (1, .int p1), (2, .int p2)]) hx hb dL_prepare_158 hl (k := 6) rfl (by rw [ex188]; rfl) (by decide) rfl (fun ls hl => ?_)
                        refine lv_goto (tgt := 5) hx hb dL_prepare_161 (by decide) ?_
                        exact ih _ e1 (lz_l hf hz) H locs ls hP hD hS (lv_sub hl [4, 5, 6, 1, 0] rfl) K
                      · rw [if_pos c187] at hf
                        refine lv_iconst (v := (1:Int32)) hx hb dL_prepare_152 (by decide) ?_
                        refine lv_goto (tgt := 157) hx hb dL_prepare_153 (by decide) ?_
                        refine lv_istore_n (lv' := [(3, .int (1:Int32)), (6, .int (1:Int32)), (5, .int x3), (0, .ref (a0 0)), (1, .int p1), (2, .int p2), (4, .int z.2.1)]) hx hb dL_prepare_157 rfl hl (by decide) rfl (fun ls hl => ?_)
                        obtain ⟨x189, ex189, hf⟩ := lt_some hf
                        refine lv_iinc (v := x189) (lv' := [(4, .int x189), (3, .int (1:Int32)), (6, .int (1:Int32)), (5, .int x3), (0, .ref (a0 0)), (1, .int p1), (2, .int p2)]) hx hb dL_prepare_158 hl (k := 6) rfl (by rw [ex189]; rfl) (by decide) rfl (fun ls hl => ?_)
                        refine lv_goto (tgt := 5) hx hb dL_prepare_161 (by decide) ?_
                        exact ih _ e1 (lz_l hf hz) H locs ls hP hD hS (lv_sub hl [4, 5, 6, 1, 0] rfl) K
            · rw [if_neg c174] at hf
              refine lv_iload hx hb dL_prepare_56 (lv_at hl 1 rfl) ?_
              refine lv_iconst (v := (2:Int32)) hx hb dL_prepare_58 (by decide) ?_
              obtain ⟨q190, hq190, hf⟩ := bd_some hf
              refine g_callSi S (As := [.int x3, .int (2:Int32)]) (gs' := [maW a0 (a1 0) (a2 0) (a3 0) (a4 0) (a7 0 0) (a8 0) (a9 0) (a9 1), stW G a1 z.2.2.1, paW G a7 z.2.2.2]) (c_L_low l G x3 (2:Int32) hq190) (va_cwS 2 hts gL_prepare_L_low rfl rfl rfl hd_L_low.2 ⟨Nat.le_of_ble_eq_true rfl, Nat.le_of_ble_eq_true rfl⟩) hK hP hD hS hA (is := []) rfl rfl rfl hl.1 rfl (Nat.le_of_ble_eq_true rfl) dL_prepare_59 ⟨Nat.le_of_ble_eq_true rfl, Nat.le_of_ble_eq_true rfl⟩ rfl (fun H locs hP hD hS => ?_)
              refine lv_if_ne (tgt := 105) hx hb dL_prepare_62 (by decide) (fun c191 => ?_) (fun c191 => ?_)
              · rw [if_neg c191] at hf
                refine lv_iload hx hb dL_prepare_105 (lv_at hl 1 rfl) ?_
                refine lv_iconst (v := (2:Int32)) hx hb dL_prepare_107 (by decide) ?_
                refine lv_ishr hx hb dL_prepare_108 ?_
                refine lv_bipush (v := (7:Int32)) hx hb dL_prepare_109 (by decide) ?_
                obtain ⟨q192, hq192, hf⟩ := bd_some hf
                refine g_callSi S (As := [.int (x3 >>> ((2:Int32) &&& 31)), .int (7:Int32)]) (gs' := [maW a0 (a1 0) (a2 0) (a3 0) (a4 0) (a7 0 0) (a8 0) (a9 0) (a9 1), stW G a1 z.2.2.1, paW G a7 z.2.2.2]) (c_L_low l G (x3 >>> ((2:Int32) &&& 31)) (7:Int32) hq192) (va_cwS 2 hts gL_prepare_L_low rfl rfl rfl hd_L_low.2 ⟨Nat.le_of_ble_eq_true rfl, Nat.le_of_ble_eq_true rfl⟩) hK hP hD hS hA (is := []) rfl rfl rfl hl.1 rfl (Nat.le_of_ble_eq_true rfl) dL_prepare_111 ⟨Nat.le_of_ble_eq_true rfl, Nat.le_of_ble_eq_true rfl⟩ rfl (fun H locs hP hD hS => ?_)
                refine lv_if_ne (tgt := 158) hx hb dL_prepare_114 (by decide) (fun c193 => ?_) (fun c193 => ?_)
                · rw [if_neg c193] at hf
                  obtain ⟨x194, ex194, hf⟩ := lt_some hf
                  refine lv_iinc (v := x194) (lv' := [(4, .int x194), (6, .int (1:Int32)), (5, .int x3), (0, .ref (a0 0)), (1, .int p1), (2, .int p2), (3, .int z.1)]) hx hb dL_prepare_158 hl (k := 6) rfl (by rw [ex194]; rfl) (by decide) rfl (fun ls hl => ?_)
                  refine lv_goto (tgt := 5) hx hb dL_prepare_161 (by decide) ?_
                  exact ih _ e1 (lz_l hf hz) H locs ls hP hD hS (lv_sub hl [3, 4, 5, 6, 0] rfl) K
                · rw [if_pos c193] at hf
                  refine lv_aload_n hx hb dL_prepare_117 rfl (lv_at hl 2 rfl) ?_
                  refine lv_iload hx hb dL_prepare_118 (lv_at hl 6 rfl) ?_
                  refine lv_iconst (v := (3:Int32)) hx hb dL_prepare_120 (by decide) ?_
                  obtain ⟨q195, hq195, hf⟩ := bd_some hf
                  refine g_callVi S (As := [.int z.2.1, .int (3:Int32)]) (gs' := [maW a0 (a1 0) (a2 0) (a3 0) (a4 0) (a7 0 0) (a8 0) (a9 0) (a9 1), stW G a1 z.2.2.1, paW G a7 z.2.2.2]) (c_X5_member l G a0 a1 a2 a3 a4 a5 a6 a7 a8 a9 a10 a11 z.2.2.1 z.2.1 (3:Int32) hq195) (cwV 2 hts gL_prepare_X5_member rfl rfl rfl hd_X5_member ⟨Nat.le_of_ble_eq_true rfl, Nat.le_of_ble_eq_true rfl⟩) hK hP hD hS hA (is := [0, 1]) rfl rfl 0 rfl rfl rfl rfl hl.1 rfl (Nat.le_of_ble_eq_true rfl) dL_prepare_121 ⟨Nat.le_of_ble_eq_true rfl, Nat.le_of_ble_eq_true rfl⟩ rfl (fun H locs hP hD hS => ?_)
                  refine lv_if_ne (tgt := 158) hx hb dL_prepare_124 (by decide) (fun c196 => ?_) (fun c196 => ?_)
                  · rw [if_neg c196] at hf
                    obtain ⟨x197, ex197, hf⟩ := lt_some hf
                    refine lv_iinc (v := x197) (lv' := [(4, .int x197), (6, .int (1:Int32)), (5, .int x3), (0, .ref (a0 0)), (1, .int p1), (2, .int p2), (3, .int z.1)]) hx hb dL_prepare_158 hl (k := 6) rfl (by rw [ex197]; rfl) (by decide) rfl (fun ls hl => ?_)
                    refine lv_goto (tgt := 5) hx hb dL_prepare_161 (by decide) ?_
                    exact ih _ e1 (lz_l hf hz) H locs ls hP hD hS (lv_sub hl [3, 4, 5, 6, 0] rfl) K
                  · rw [if_pos c196] at hf
                    refine lv_iload_n hx hb dL_prepare_127 rfl (lv_at hl 5 rfl) ?_
                    refine lv_if_eq (tgt := 156) hx hb dL_prepare_128 (by decide) (fun c198 => ?_) (fun c198 => ?_)
                    · rw [if_pos c198] at hf
                      refine lv_iconst (v := (0:Int32)) hx hb dL_prepare_156 (by decide) ?_
                      refine lv_istore_n (lv' := [(3, .int (0:Int32)), (6, .int (1:Int32)), (5, .int x3), (0, .ref (a0 0)), (1, .int p1), (2, .int p2), (4, .int z.2.1)]) hx hb dL_prepare_157 rfl hl (by decide) rfl (fun ls hl => ?_)
                      obtain ⟨x199, ex199, hf⟩ := lt_some hf
                      refine lv_iinc (v := x199) (lv' := [(4, .int x199), (3, .int (0:Int32)), (6, .int (1:Int32)), (5, .int x3), (0, .ref (a0 0)), (1, .int p1), (2, .int p2)]) hx hb dL_prepare_158 hl (k := 6) rfl (by rw [ex199]; rfl) (by decide) rfl (fun ls hl => ?_)
                      refine lv_goto (tgt := 5) hx hb dL_prepare_161 (by decide) ?_
                      exact ih _ e1 (lz_l hf hz) H locs ls hP hD hS (lv_sub hl [4, 5, 6, 1, 0] rfl) K
                    · rw [if_neg c198] at hf
                      refine lv_aload_n hx hb dL_prepare_131 rfl (lv_at hl 2 rfl) ?_
                      refine lv_iload hx hb dL_prepare_132 (lv_at hl 6 rfl) ?_
                      refine lv_iconst (v := (1:Int32)) hx hb dL_prepare_134 (by decide) ?_
                      obtain ⟨q200, hq200, hf⟩ := bd_some hf
                      refine g_callVi S (As := [.int z.2.1, .int (1:Int32)]) (gs' := [maW a0 (a1 0) (a2 0) (a3 0) (a4 0) (a7 0 0) (a8 0) (a9 0) (a9 1), stW G a1 q200.2.1, paW G a7 q200.2.2]) (c_X5_stayAway l G a0 a1 a2 a3 a4 a5 a6 a7 a8 a9 a10 a11 z.2.2.1 z.2.2.2 z.2.1 (1:Int32) hq200) (cwV 2 hts gL_prepare_X5_stayAway rfl rfl rfl hd_X5_stayAway ⟨Nat.le_of_ble_eq_true rfl, Nat.le_of_ble_eq_true rfl⟩) hK hP hD hS hA (is := [0, 1, 2]) rfl rfl 0 rfl rfl rfl rfl hl.1 rfl (Nat.le_of_ble_eq_true rfl) dL_prepare_135 ⟨Nat.le_of_ble_eq_true rfl, Nat.le_of_ble_eq_true rfl⟩ rfl (fun H locs hP hD hS => ?_)
                      refine lv_if_ne (tgt := 156) hx hb dL_prepare_138 (by decide) (fun c201 => ?_) (fun c201 => ?_)
                      · rw [if_neg c201] at hf
                        refine lv_iconst (v := (0:Int32)) hx hb dL_prepare_156 (by decide) ?_
                        refine lv_istore_n (lv' := [(3, .int (0:Int32)), (6, .int (1:Int32)), (5, .int x3), (0, .ref (a0 0)), (1, .int p1), (2, .int p2), (4, .int z.2.1)]) hx hb dL_prepare_157 rfl hl (by decide) rfl (fun ls hl => ?_)
                        obtain ⟨x202, ex202, hf⟩ := lt_some hf
                        refine lv_iinc (v := x202) (lv' := [(4, .int x202), (3, .int (0:Int32)), (6, .int (1:Int32)), (5, .int x3), (0, .ref (a0 0)), (1, .int p1), (2, .int p2)]) hx hb dL_prepare_158 hl (k := 6) rfl (by rw [ex202]; rfl) (by decide) rfl (fun ls hl => ?_)
                        refine lv_goto (tgt := 5) hx hb dL_prepare_161 (by decide) ?_
                        exact ih _ e1 (lz_l hf hz) H locs ls hP hD hS (lv_sub hl [4, 5, 6, 1, 0] rfl) K
                      · rw [if_pos c201] at hf
                        refine lv_aload_n hx hb dL_prepare_141 rfl (lv_at hl 2 rfl) ?_
                        refine lv_iload hx hb dL_prepare_142 (lv_at hl 6 rfl) ?_
                        refine lv_iconst (v := (3:Int32)) hx hb dL_prepare_144 (by decide) ?_
                        obtain ⟨q203, hq203, hf⟩ := bd_some hf
                        refine g_callVi S (As := [.int z.2.1, .int (3:Int32)]) (gs' := [maW a0 (a1 0) (a2 0) (a3 0) (a4 0) (a7 0 0) (a8 0) (a9 0) (a9 1), stW G a1 q200.2.1, paW G a7 q200.2.2]) (c_X5_member l G a0 a1 a2 a3 a4 a5 a6 a7 a8 a9 a10 a11 q200.2.1 z.2.1 (3:Int32) hq203) (cwV 2 hts gL_prepare_X5_member rfl rfl rfl hd_X5_member ⟨Nat.le_of_ble_eq_true rfl, Nat.le_of_ble_eq_true rfl⟩) hK hP hD hS hA (is := [0, 1]) rfl rfl 0 rfl rfl rfl rfl hl.1 rfl (Nat.le_of_ble_eq_true rfl) dL_prepare_145 ⟨Nat.le_of_ble_eq_true rfl, Nat.le_of_ble_eq_true rfl⟩ rfl (fun H locs hP hD hS => ?_)
                        refine lv_iconst (v := (1:Int32)) hx hb dL_prepare_148 (by decide) ?_
                        refine lv_icmp_ne (tgt := 156) hx hb dL_prepare_149 (by decide) (fun c204 => ?_) (fun c204 => ?_)
                        · rw [if_neg c204] at hf
                          refine lv_iconst (v := (0:Int32)) hx hb dL_prepare_156 (by decide) ?_
                          refine lv_istore_n (lv' := [(3, .int (0:Int32)), (6, .int (1:Int32)), (5, .int x3), (0, .ref (a0 0)), (1, .int p1), (2, .int p2), (4, .int z.2.1)]) hx hb dL_prepare_157 rfl hl (by decide) rfl (fun ls hl => ?_)
                          obtain ⟨x205, ex205, hf⟩ := lt_some hf
                          refine lv_iinc (v := x205) (lv' := [(4, .int x205), (3, .int (0:Int32)), (6, .int (1:Int32)), (5, .int x3), (0, .ref (a0 0)), (1, .int p1), (2, .int p2)]) hx hb dL_prepare_158 hl (k := 6) rfl (by rw [ex205]; rfl) (by decide) rfl (fun ls hl => ?_)
                          refine lv_goto (tgt := 5) hx hb dL_prepare_161 (by decide) ?_
                          exact ih _ e1 (lz_l hf hz) H locs ls hP hD hS (lv_sub hl [4, 5, 6, 1, 0] rfl) K
                        · rw [if_pos c204] at hf
                          refine lv_iconst (v := (1:Int32)) hx hb dL_prepare_152 (by decide) ?_
                          refine lv_goto (tgt := 157) hx hb dL_prepare_153 (by decide) ?_
                          refine lv_istore_n (lv' := [(3, .int (1:Int32)), (6, .int (1:Int32)), (5, .int x3), (0, .ref (a0 0)), (1, .int p1), (2, .int p2), (4, .int z.2.1)]) hx hb dL_prepare_157 rfl hl (by decide) rfl (fun ls hl => ?_)
                          obtain ⟨x206, ex206, hf⟩ := lt_some hf
                          refine lv_iinc (v := x206) (lv' := [(4, .int x206), (3, .int (1:Int32)), (6, .int (1:Int32)), (5, .int x3), (0, .ref (a0 0)), (1, .int p1), (2, .int p2)]) hx hb dL_prepare_158 hl (k := 6) rfl (by rw [ex206]; rfl) (by decide) rfl (fun ls hl => ?_)
                          refine lv_goto (tgt := 5) hx hb dL_prepare_161 (by decide) ?_
                          exact ih _ e1 (lz_l hf hz) H locs ls hP hD hS (lv_sub hl [4, 5, 6, 1, 0] rfl) K
              · rw [if_pos c191] at hf
                refine lv_iload hx hb dL_prepare_65 (lv_at hl 1 rfl) ?_
                refine lv_iconst (v := (1:Int32)) hx hb dL_prepare_67 (by decide) ?_
                refine lv_ishr hx hb dL_prepare_68 ?_
                refine lv_bipush (v := (60:Int32)) hx hb dL_prepare_69 (by decide) ?_
                obtain ⟨q207, hq207, hf⟩ := bd_some hf
                refine g_callSi S (As := [.int (x3 >>> ((1:Int32) &&& 31)), .int (60:Int32)]) (gs' := [maW a0 (a1 0) (a2 0) (a3 0) (a4 0) (a7 0 0) (a8 0) (a9 0) (a9 1), stW G a1 z.2.2.1, paW G a7 z.2.2.2]) (c_L_low l G (x3 >>> ((1:Int32) &&& 31)) (60:Int32) hq207) (va_cwS 2 hts gL_prepare_L_low rfl rfl rfl hd_L_low.2 ⟨Nat.le_of_ble_eq_true rfl, Nat.le_of_ble_eq_true rfl⟩) hK hP hD hS hA (is := []) rfl rfl rfl hl.1 rfl (Nat.le_of_ble_eq_true rfl) dL_prepare_71 ⟨Nat.le_of_ble_eq_true rfl, Nat.le_of_ble_eq_true rfl⟩ rfl (fun H locs hP hD hS => ?_)
                refine lv_istore (lv' := [(7, .int q207.1), (6, .int (1:Int32)), (5, .int x3), (0, .ref (a0 0)), (1, .int p1), (2, .int p2), (3, .int z.1), (4, .int z.2.1)]) hx hb dL_prepare_74 hl (by decide) rfl (fun ls hl => ?_)
                refine lv_aload_n hx hb dL_prepare_76 rfl (lv_at hl 3 rfl) ?_
                refine lv_iload hx hb dL_prepare_77 (lv_at hl 7 rfl) ?_
                refine lv_iload hx hb dL_prepare_79 (lv_at hl 0 rfl) ?_
                obtain ⟨q208, hq208, hf⟩ := bd_some hf
                refine g_callVi S (As := [.int z.2.1, .int q207.1]) (gs' := [maW a0 (a1 0) (a2 0) (a3 0) (a4 0) (a7 0 0) (a8 0) (a9 0) (a9 1), stW G a1 q208.2.1, paW G a7 q208.2.2]) (c_X5_bid l G a0 a1 a2 a3 a4 a5 a6 a7 a8 a9 a10 a11 z.2.2.1 z.2.2.2 z.2.1 q207.1 hq208) (cwV 2 hts gL_prepare_X5_bid rfl rfl rfl hd_X5_bid ⟨Nat.le_of_ble_eq_true rfl, Nat.le_of_ble_eq_true rfl⟩) hK hP hD hS hA (is := [0, 1, 2]) rfl rfl 0 rfl rfl rfl rfl hl.1 rfl (Nat.le_of_ble_eq_true rfl) dL_prepare_81 ⟨Nat.le_of_ble_eq_true rfl, Nat.le_of_ble_eq_true rfl⟩ rfl (fun H locs hP hD hS => ?_)
                refine lv_if_ne (tgt := 103) hx hb dL_prepare_84 (by decide) (fun c209 => ?_) (fun c209 => ?_)
                · rw [if_neg c209] at hf
                  refine lv_iconst (v := (0:Int32)) hx hb dL_prepare_103 (by decide) ?_
                  refine lv_istore_n (lv' := [(3, .int (0:Int32)), (7, .int q207.1), (6, .int (1:Int32)), (5, .int x3), (0, .ref (a0 0)), (1, .int p1), (2, .int p2), (4, .int z.2.1)]) hx hb dL_prepare_104 rfl hl (by decide) rfl (fun ls hl => ?_)
                  refine lv_iload hx hb dL_prepare_105 (lv_at hl 3 rfl) ?_
                  refine lv_iconst (v := (2:Int32)) hx hb dL_prepare_107 (by decide) ?_
                  refine lv_ishr hx hb dL_prepare_108 ?_
                  refine lv_bipush (v := (7:Int32)) hx hb dL_prepare_109 (by decide) ?_
                  obtain ⟨q210, hq210, hf⟩ := bd_some hf
                  refine g_callSi S (As := [.int (x3 >>> ((2:Int32) &&& 31)), .int (7:Int32)]) (gs' := [maW a0 (a1 0) (a2 0) (a3 0) (a4 0) (a7 0 0) (a8 0) (a9 0) (a9 1), stW G a1 q208.2.1, paW G a7 q208.2.2]) (c_L_low l G (x3 >>> ((2:Int32) &&& 31)) (7:Int32) hq210) (va_cwS 2 hts gL_prepare_L_low rfl rfl rfl hd_L_low.2 ⟨Nat.le_of_ble_eq_true rfl, Nat.le_of_ble_eq_true rfl⟩) hK hP hD hS hA (is := []) rfl rfl rfl hl.1 rfl (Nat.le_of_ble_eq_true rfl) dL_prepare_111 ⟨Nat.le_of_ble_eq_true rfl, Nat.le_of_ble_eq_true rfl⟩ rfl (fun H locs hP hD hS => ?_)
                  refine lv_if_ne (tgt := 158) hx hb dL_prepare_114 (by decide) (fun c211 => ?_) (fun c211 => ?_)
                  · rw [if_neg c211] at hf
                    obtain ⟨x212, ex212, hf⟩ := lt_some hf
                    refine lv_iinc (v := x212) (lv' := [(4, .int x212), (3, .int (0:Int32)), (7, .int q207.1), (6, .int (1:Int32)), (5, .int x3), (0, .ref (a0 0)), (1, .int p1), (2, .int p2)]) hx hb dL_prepare_158 hl (k := 7) rfl (by rw [ex212]; rfl) (by decide) rfl (fun ls hl => ?_)
                    refine lv_goto (tgt := 5) hx hb dL_prepare_161 (by decide) ?_
                    exact ih _ e1 (lz_l hf hz) H locs ls hP hD hS (lv_sub hl [5, 6, 7, 1, 0] rfl) K
                  · rw [if_pos c211] at hf
                    refine lv_aload_n hx hb dL_prepare_117 rfl (lv_at hl 4 rfl) ?_
                    refine lv_iload hx hb dL_prepare_118 (lv_at hl 7 rfl) ?_
                    refine lv_iconst (v := (3:Int32)) hx hb dL_prepare_120 (by decide) ?_
                    obtain ⟨q213, hq213, hf⟩ := bd_some hf
                    refine g_callVi S (As := [.int z.2.1, .int (3:Int32)]) (gs' := [maW a0 (a1 0) (a2 0) (a3 0) (a4 0) (a7 0 0) (a8 0) (a9 0) (a9 1), stW G a1 q208.2.1, paW G a7 q208.2.2]) (c_X5_member l G a0 a1 a2 a3 a4 a5 a6 a7 a8 a9 a10 a11 q208.2.1 z.2.1 (3:Int32) hq213) (cwV 2 hts gL_prepare_X5_member rfl rfl rfl hd_X5_member ⟨Nat.le_of_ble_eq_true rfl, Nat.le_of_ble_eq_true rfl⟩) hK hP hD hS hA (is := [0, 1]) rfl rfl 0 rfl rfl rfl rfl hl.1 rfl (Nat.le_of_ble_eq_true rfl) dL_prepare_121 ⟨Nat.le_of_ble_eq_true rfl, Nat.le_of_ble_eq_true rfl⟩ rfl (fun H locs hP hD hS => ?_)
                    refine lv_if_ne (tgt := 158) hx hb dL_prepare_124 (by decide) (fun c214 => ?_) (fun c214 => ?_)
                    · rw [if_neg c214] at hf
                      obtain ⟨x215, ex215, hf⟩ := lt_some hf
                      refine lv_iinc (v := x215) (lv' := [(4, .int x215), (3, .int (0:Int32)), (7, .int q207.1), (6, .int (1:Int32)), (5, .int x3), (0, .ref (a0 0)), (1, .int p1), (2, .int p2)]) hx hb dL_prepare_158 hl (k := 7) rfl (by rw [ex215]; rfl) (by decide) rfl (fun ls hl => ?_)
                      refine lv_goto (tgt := 5) hx hb dL_prepare_161 (by decide) ?_
                      exact ih _ e1 (lz_l hf hz) H locs ls hP hD hS (lv_sub hl [5, 6, 7, 1, 0] rfl) K
                    · rw [if_pos c214] at hf
                      refine lv_iload_n hx hb dL_prepare_127 rfl (lv_at hl 0 rfl) ?_
                      refine lv_if_eq (tgt := 156) hx hb dL_prepare_128 (by decide) (fun c216 => ?_) (fun c216 => ?_)
                      · rw [if_pos c216] at hf
                        refine lv_iconst (v := (0:Int32)) hx hb dL_prepare_156 (by decide) ?_
                        refine lv_istore_n (lv' := [(3, .int (0:Int32)), (7, .int q207.1), (6, .int (1:Int32)), (5, .int x3), (0, .ref (a0 0)), (1, .int p1), (2, .int p2), (4, .int z.2.1)]) hx hb dL_prepare_157 rfl hl (by decide) rfl (fun ls hl => ?_)
                        obtain ⟨x217, ex217, hf⟩ := lt_some hf
                        refine lv_iinc (v := x217) (lv' := [(4, .int x217), (3, .int (0:Int32)), (7, .int q207.1), (6, .int (1:Int32)), (5, .int x3), (0, .ref (a0 0)), (1, .int p1), (2, .int p2)]) hx hb dL_prepare_158 hl (k := 7) rfl (by rw [ex217]; rfl) (by decide) rfl (fun ls hl => ?_)
                        refine lv_goto (tgt := 5) hx hb dL_prepare_161 (by decide) ?_
                        exact ih _ e1 (lz_l hf hz) H locs ls hP hD hS (lv_sub hl [5, 6, 7, 1, 0] rfl) K
                      · rw [if_neg c216] at hf
                        refine lv_aload_n hx hb dL_prepare_131 rfl (lv_at hl 4 rfl) ?_
                        refine lv_iload hx hb dL_prepare_132 (lv_at hl 7 rfl) ?_
                        refine lv_iconst (v := (1:Int32)) hx hb dL_prepare_134 (by decide) ?_
                        obtain ⟨q218, hq218, hf⟩ := bd_some hf
                        refine g_callVi S (As := [.int z.2.1, .int (1:Int32)]) (gs' := [maW a0 (a1 0) (a2 0) (a3 0) (a4 0) (a7 0 0) (a8 0) (a9 0) (a9 1), stW G a1 q218.2.1, paW G a7 q218.2.2]) (c_X5_stayAway l G a0 a1 a2 a3 a4 a5 a6 a7 a8 a9 a10 a11 q208.2.1 q208.2.2 z.2.1 (1:Int32) hq218) (cwV 2 hts gL_prepare_X5_stayAway rfl rfl rfl hd_X5_stayAway ⟨Nat.le_of_ble_eq_true rfl, Nat.le_of_ble_eq_true rfl⟩) hK hP hD hS hA (is := [0, 1, 2]) rfl rfl 0 rfl rfl rfl rfl hl.1 rfl (Nat.le_of_ble_eq_true rfl) dL_prepare_135 ⟨Nat.le_of_ble_eq_true rfl, Nat.le_of_ble_eq_true rfl⟩ rfl (fun H locs hP hD hS => ?_)
                        refine lv_if_ne (tgt := 156) hx hb dL_prepare_138 (by decide) (fun c219 => ?_) (fun c219 => ?_)
                        · rw [if_neg c219] at hf
                          refine lv_iconst (v := (0:Int32)) hx hb dL_prepare_156 (by decide) ?_
                          refine lv_istore_n (lv' := [(3, .int (0:Int32)), (7, .int q207.1), (6, .int (1:Int32)), (5, .int x3), (0, .ref (a0 0)), (1, .int p1), (2, .int p2), (4, .int z.2.1)]) hx hb dL_prepare_157 rfl hl (by decide) rfl (fun ls hl => ?_)
                          obtain ⟨x220, ex220, hf⟩ := lt_some hf
                          refine lv_iinc (v := x220) (lv' := [(4, .int x220), (3, .int (0:Int32)), (7, .int q207.1), (6, .int (1:Int32)), (5, .int x3), (0, .ref (a0 0)), (1, .int p1), (2, .int p2)]) hx hb dL_prepare_158 hl (k := 7) rfl (by rw [ex220]; rfl) (by decide) rfl (fun ls hl => ?_)
                          refine lv_goto (tgt := 5) hx hb dL_prepare_161 (by decide) ?_
                          exact ih _ e1 (lz_l hf hz) H locs ls hP hD hS (lv_sub hl [5, 6, 7, 1, 0] rfl) K
                        · rw [if_pos c219] at hf
                          refine lv_aload_n hx hb dL_prepare_141 rfl (lv_at hl 4 rfl) ?_
                          refine lv_iload hx hb dL_prepare_142 (lv_at hl 7 rfl) ?_
                          refine lv_iconst (v := (3:Int32)) hx hb dL_prepare_144 (by decide) ?_
                          obtain ⟨q221, hq221, hf⟩ := bd_some hf
                          refine g_callVi S (As := [.int z.2.1, .int (3:Int32)]) (gs' := [maW a0 (a1 0) (a2 0) (a3 0) (a4 0) (a7 0 0) (a8 0) (a9 0) (a9 1), stW G a1 q218.2.1, paW G a7 q218.2.2]) (c_X5_member l G a0 a1 a2 a3 a4 a5 a6 a7 a8 a9 a10 a11 q218.2.1 z.2.1 (3:Int32) hq221) (cwV 2 hts gL_prepare_X5_member rfl rfl rfl hd_X5_member ⟨Nat.le_of_ble_eq_true rfl, Nat.le_of_ble_eq_true rfl⟩) hK hP hD hS hA (is := [0, 1]) rfl rfl 0 rfl rfl rfl rfl hl.1 rfl (Nat.le_of_ble_eq_true rfl) dL_prepare_145 ⟨Nat.le_of_ble_eq_true rfl, Nat.le_of_ble_eq_true rfl⟩ rfl (fun H locs hP hD hS => ?_)
                          refine lv_iconst (v := (1:Int32)) hx hb dL_prepare_148 (by decide) ?_
                          refine lv_icmp_ne (tgt := 156) hx hb dL_prepare_149 (by decide) (fun c222 => ?_) (fun c222 => ?_)
                          · rw [if_neg c222] at hf
                            refine lv_iconst (v := (0:Int32)) hx hb dL_prepare_156 (by decide) ?_
                            refine lv_istore_n (lv' := [(3, .int (0:Int32)), (7, .int q207.1), (6, .int (1:Int32)), (5, .int x3), (0, .ref (a0 0)), (1, .int p1), (2, .int p2), (4, .int z.2.1)]) hx hb dL_prepare_157 rfl hl (by decide) rfl (fun ls hl => ?_)
                            obtain ⟨x223, ex223, hf⟩ := lt_some hf
                            refine lv_iinc (v := x223) (lv' := [(4, .int x223), (3, .int (0:Int32)), (7, .int q207.1), (6, .int (1:Int32)), (5, .int x3), (0, .ref (a0 0)), (1, .int p1), (2, .int p2)]) hx hb dL_prepare_158 hl (k := 7) rfl (by rw [ex223]; rfl) (by decide) rfl (fun ls hl => ?_)
                            refine lv_goto (tgt := 5) hx hb dL_prepare_161 (by decide) ?_
                            exact ih _ e1 (lz_l hf hz) H locs ls hP hD hS (lv_sub hl [5, 6, 7, 1, 0] rfl) K
                          · rw [if_pos c222] at hf
                            refine lv_iconst (v := (1:Int32)) hx hb dL_prepare_152 (by decide) ?_
                            refine lv_goto (tgt := 157) hx hb dL_prepare_153 (by decide) ?_
                            refine lv_istore_n (lv' := [(3, .int (1:Int32)), (7, .int q207.1), (6, .int (1:Int32)), (5, .int x3), (0, .ref (a0 0)), (1, .int p1), (2, .int p2), (4, .int z.2.1)]) hx hb dL_prepare_157 rfl hl (by decide) rfl (fun ls hl => ?_)
                            obtain ⟨x224, ex224, hf⟩ := lt_some hf
                            refine lv_iinc (v := x224) (lv' := [(4, .int x224), (3, .int (1:Int32)), (7, .int q207.1), (6, .int (1:Int32)), (5, .int x3), (0, .ref (a0 0)), (1, .int p1), (2, .int p2)]) hx hb dL_prepare_158 hl (k := 7) rfl (by rw [ex224]; rfl) (by decide) rfl (fun ls hl => ?_)
                            refine lv_goto (tgt := 5) hx hb dL_prepare_161 (by decide) ?_
                            exact ih _ e1 (lz_l hf hz) H locs ls hP hD hS (lv_sub hl [5, 6, 7, 1, 0] rfl) K
                · rw [if_pos c209] at hf
                  refine lv_aload_n hx hb dL_prepare_87 rfl (lv_at hl 3 rfl) ?_
                  refine lv_iload hx hb dL_prepare_88 (lv_at hl 7 rfl) ?_
                  refine lv_iconst (v := (2:Int32)) hx hb dL_prepare_90 (by decide) ?_
                  obtain ⟨q225, hq225, hf⟩ := bd_some hf
                  refine g_callVi S (As := [.int z.2.1, .int (2:Int32)]) (gs' := [maW a0 (a1 0) (a2 0) (a3 0) (a4 0) (a7 0 0) (a8 0) (a9 0) (a9 1), stW G a1 q208.2.1, paW G a7 q208.2.2]) (c_X5_member l G a0 a1 a2 a3 a4 a5 a6 a7 a8 a9 a10 a11 q208.2.1 z.2.1 (2:Int32) hq225) (cwV 2 hts gL_prepare_X5_member rfl rfl rfl hd_X5_member ⟨Nat.le_of_ble_eq_true rfl, Nat.le_of_ble_eq_true rfl⟩) hK hP hD hS hA (is := [0, 1]) rfl rfl 0 rfl rfl rfl rfl hl.1 rfl (Nat.le_of_ble_eq_true rfl) dL_prepare_91 ⟨Nat.le_of_ble_eq_true rfl, Nat.le_of_ble_eq_true rfl⟩ rfl (fun H locs hP hD hS => ?_)
                  refine lv_iload hx hb dL_prepare_94 (lv_at hl 0 rfl) ?_
                  refine lv_icmp_ne (tgt := 103) hx hb dL_prepare_96 (by decide) (fun c226 => ?_) (fun c226 => ?_)
                  · rw [if_neg c226] at hf
                    refine lv_iconst (v := (0:Int32)) hx hb dL_prepare_103 (by decide) ?_
                    refine lv_istore_n (lv' := [(3, .int (0:Int32)), (7, .int q207.1), (6, .int (1:Int32)), (5, .int x3), (0, .ref (a0 0)), (1, .int p1), (2, .int p2), (4, .int z.2.1)]) hx hb dL_prepare_104 rfl hl (by decide) rfl (fun ls hl => ?_)
                    refine lv_iload hx hb dL_prepare_105 (lv_at hl 3 rfl) ?_
                    refine lv_iconst (v := (2:Int32)) hx hb dL_prepare_107 (by decide) ?_
                    refine lv_ishr hx hb dL_prepare_108 ?_
                    refine lv_bipush (v := (7:Int32)) hx hb dL_prepare_109 (by decide) ?_
                    obtain ⟨q227, hq227, hf⟩ := bd_some hf
                    refine g_callSi S (As := [.int (x3 >>> ((2:Int32) &&& 31)), .int (7:Int32)]) (gs' := [maW a0 (a1 0) (a2 0) (a3 0) (a4 0) (a7 0 0) (a8 0) (a9 0) (a9 1), stW G a1 q208.2.1, paW G a7 q208.2.2]) (c_L_low l G (x3 >>> ((2:Int32) &&& 31)) (7:Int32) hq227) (va_cwS 2 hts gL_prepare_L_low rfl rfl rfl hd_L_low.2 ⟨Nat.le_of_ble_eq_true rfl, Nat.le_of_ble_eq_true rfl⟩) hK hP hD hS hA (is := []) rfl rfl rfl hl.1 rfl (Nat.le_of_ble_eq_true rfl) dL_prepare_111 ⟨Nat.le_of_ble_eq_true rfl, Nat.le_of_ble_eq_true rfl⟩ rfl (fun H locs hP hD hS => ?_)
                    refine lv_if_ne (tgt := 158) hx hb dL_prepare_114 (by decide) (fun c228 => ?_) (fun c228 => ?_)
                    · rw [if_neg c228] at hf
                      obtain ⟨x229, ex229, hf⟩ := lt_some hf
                      refine lv_iinc (v := x229) (lv' := [(4, .int x229), (3, .int (0:Int32)), (7, .int q207.1), (6, .int (1:Int32)), (5, .int x3), (0, .ref (a0 0)), (1, .int p1), (2, .int p2)]) hx hb dL_prepare_158 hl (k := 7) rfl (by rw [ex229]; rfl) (by decide) rfl (fun ls hl => ?_)
                      refine lv_goto (tgt := 5) hx hb dL_prepare_161 (by decide) ?_
                      exact ih _ e1 (lz_l hf hz) H locs ls hP hD hS (lv_sub hl [5, 6, 7, 1, 0] rfl) K
                    · rw [if_pos c228] at hf
                      refine lv_aload_n hx hb dL_prepare_117 rfl (lv_at hl 4 rfl) ?_
                      refine lv_iload hx hb dL_prepare_118 (lv_at hl 7 rfl) ?_
                      refine lv_iconst (v := (3:Int32)) hx hb dL_prepare_120 (by decide) ?_
                      obtain ⟨q230, hq230, hf⟩ := bd_some hf
                      refine g_callVi S (As := [.int z.2.1, .int (3:Int32)]) (gs' := [maW a0 (a1 0) (a2 0) (a3 0) (a4 0) (a7 0 0) (a8 0) (a9 0) (a9 1), stW G a1 q208.2.1, paW G a7 q208.2.2]) (c_X5_member l G a0 a1 a2 a3 a4 a5 a6 a7 a8 a9 a10 a11 q208.2.1 z.2.1 (3:Int32) hq230) (cwV 2 hts gL_prepare_X5_member rfl rfl rfl hd_X5_member ⟨Nat.le_of_ble_eq_true rfl, Nat.le_of_ble_eq_true rfl⟩) hK hP hD hS hA (is := [0, 1]) rfl rfl 0 rfl rfl rfl rfl hl.1 rfl (Nat.le_of_ble_eq_true rfl) dL_prepare_121 ⟨Nat.le_of_ble_eq_true rfl, Nat.le_of_ble_eq_true rfl⟩ rfl (fun H locs hP hD hS => ?_)
                      refine lv_if_ne (tgt := 158) hx hb dL_prepare_124 (by decide) (fun c231 => ?_) (fun c231 => ?_)
                      · rw [if_neg c231] at hf
                        obtain ⟨x232, ex232, hf⟩ := lt_some hf
                        refine lv_iinc (v := x232) (lv' := [(4, .int x232), (3, .int (0:Int32)), (7, .int q207.1), (6, .int (1:Int32)), (5, .int x3), (0, .ref (a0 0)), (1, .int p1), (2, .int p2)]) hx hb dL_prepare_158 hl (k := 7) rfl (by rw [ex232]; rfl) (by decide) rfl (fun ls hl => ?_)
                        refine lv_goto (tgt := 5) hx hb dL_prepare_161 (by decide) ?_
                        exact ih _ e1 (lz_l hf hz) H locs ls hP hD hS (lv_sub hl [5, 6, 7, 1, 0] rfl) K
                      · rw [if_pos c231] at hf
                        refine lv_iload_n hx hb dL_prepare_127 rfl (lv_at hl 0 rfl) ?_
                        refine lv_if_eq (tgt := 156) hx hb dL_prepare_128 (by decide) (fun c233 => ?_) (fun c233 => ?_)
                        · rw [if_pos c233] at hf
                          refine lv_iconst (v := (0:Int32)) hx hb dL_prepare_156 (by decide) ?_
                          refine lv_istore_n (lv' := [(3, .int (0:Int32)), (7, .int q207.1), (6, .int (1:Int32)), (5, .int x3), (0, .ref (a0 0)), (1, .int p1), (2, .int p2), (4, .int z.2.1)]) hx hb dL_prepare_157 rfl hl (by decide) rfl (fun ls hl => ?_)
                          obtain ⟨x234, ex234, hf⟩ := lt_some hf
                          refine lv_iinc (v := x234) (lv' := [(4, .int x234), (3, .int (0:Int32)), (7, .int q207.1), (6, .int (1:Int32)), (5, .int x3), (0, .ref (a0 0)), (1, .int p1), (2, .int p2)]) hx hb dL_prepare_158 hl (k := 7) rfl (by rw [ex234]; rfl) (by decide) rfl (fun ls hl => ?_)
                          refine lv_goto (tgt := 5) hx hb dL_prepare_161 (by decide) ?_
                          exact ih _ e1 (lz_l hf hz) H locs ls hP hD hS (lv_sub hl [5, 6, 7, 1, 0] rfl) K
                        · rw [if_neg c233] at hf
                          refine lv_aload_n hx hb dL_prepare_131 rfl (lv_at hl 4 rfl) ?_
                          refine lv_iload hx hb dL_prepare_132 (lv_at hl 7 rfl) ?_
                          refine lv_iconst (v := (1:Int32)) hx hb dL_prepare_134 (by decide) ?_
                          obtain ⟨q235, hq235, hf⟩ := bd_some hf
                          refine g_callVi S (As := [.int z.2.1, .int (1:Int32)]) (gs' := [maW a0 (a1 0) (a2 0) (a3 0) (a4 0) (a7 0 0) (a8 0) (a9 0) (a9 1), stW G a1 q235.2.1, paW G a7 q235.2.2]) (c_X5_stayAway l G a0 a1 a2 a3 a4 a5 a6 a7 a8 a9 a10 a11 q208.2.1 q208.2.2 z.2.1 (1:Int32) hq235) (cwV 2 hts gL_prepare_X5_stayAway rfl rfl rfl hd_X5_stayAway ⟨Nat.le_of_ble_eq_true rfl, Nat.le_of_ble_eq_true rfl⟩) hK hP hD hS hA (is := [0, 1, 2]) rfl rfl 0 rfl rfl rfl rfl hl.1 rfl (Nat.le_of_ble_eq_true rfl) dL_prepare_135 ⟨Nat.le_of_ble_eq_true rfl, Nat.le_of_ble_eq_true rfl⟩ rfl (fun H locs hP hD hS => ?_)
                          refine lv_if_ne (tgt := 156) hx hb dL_prepare_138 (by decide) (fun c236 => ?_) (fun c236 => ?_)
                          · rw [if_neg c236] at hf
                            refine lv_iconst (v := (0:Int32)) hx hb dL_prepare_156 (by decide) ?_
                            refine lv_istore_n (lv' := [(3, .int (0:Int32)), (7, .int q207.1), (6, .int (1:Int32)), (5, .int x3), (0, .ref (a0 0)), (1, .int p1), (2, .int p2), (4, .int z.2.1)]) hx hb dL_prepare_157 rfl hl (by decide) rfl (fun ls hl => ?_)
                            obtain ⟨x237, ex237, hf⟩ := lt_some hf
                            refine lv_iinc (v := x237) (lv' := [(4, .int x237), (3, .int (0:Int32)), (7, .int q207.1), (6, .int (1:Int32)), (5, .int x3), (0, .ref (a0 0)), (1, .int p1), (2, .int p2)]) hx hb dL_prepare_158 hl (k := 7) rfl (by rw [ex237]; rfl) (by decide) rfl (fun ls hl => ?_)
                            refine lv_goto (tgt := 5) hx hb dL_prepare_161 (by decide) ?_
                            exact ih _ e1 (lz_l hf hz) H locs ls hP hD hS (lv_sub hl [5, 6, 7, 1, 0] rfl) K
                          · rw [if_pos c236] at hf
                            refine lv_aload_n hx hb dL_prepare_141 rfl (lv_at hl 4 rfl) ?_
                            refine lv_iload hx hb dL_prepare_142 (lv_at hl 7 rfl) ?_
                            refine lv_iconst (v := (3:Int32)) hx hb dL_prepare_144 (by decide) ?_
                            obtain ⟨q238, hq238, hf⟩ := bd_some hf
                            refine g_callVi S (As := [.int z.2.1, .int (3:Int32)]) (gs' := [maW a0 (a1 0) (a2 0) (a3 0) (a4 0) (a7 0 0) (a8 0) (a9 0) (a9 1), stW G a1 q235.2.1, paW G a7 q235.2.2]) (c_X5_member l G a0 a1 a2 a3 a4 a5 a6 a7 a8 a9 a10 a11 q235.2.1 z.2.1 (3:Int32) hq238) (cwV 2 hts gL_prepare_X5_member rfl rfl rfl hd_X5_member ⟨Nat.le_of_ble_eq_true rfl, Nat.le_of_ble_eq_true rfl⟩) hK hP hD hS hA (is := [0, 1]) rfl rfl 0 rfl rfl rfl rfl hl.1 rfl (Nat.le_of_ble_eq_true rfl) dL_prepare_145 ⟨Nat.le_of_ble_eq_true rfl, Nat.le_of_ble_eq_true rfl⟩ rfl (fun H locs hP hD hS => ?_)
                            refine lv_iconst (v := (1:Int32)) hx hb dL_prepare_148 (by decide) ?_
                            refine lv_icmp_ne (tgt := 156) hx hb dL_prepare_149 (by decide) (fun c239 => ?_) (fun c239 => ?_)
                            · rw [if_neg c239] at hf
                              refine lv_iconst (v := (0:Int32)) hx hb dL_prepare_156 (by decide) ?_
                              refine lv_istore_n (lv' := [(3, .int (0:Int32)), (7, .int q207.1), (6, .int (1:Int32)), (5, .int x3), (0, .ref (a0 0)), (1, .int p1), (2, .int p2), (4, .int z.2.1)]) hx hb dL_prepare_157 rfl hl (by decide) rfl (fun ls hl => ?_)
                              obtain ⟨x240, ex240, hf⟩ := lt_some hf
                              refine lv_iinc (v := x240) (lv' := [(4, .int x240), (3, .int (0:Int32)), (7, .int q207.1), (6, .int (1:Int32)), (5, .int x3), (0, .ref (a0 0)), (1, .int p1), (2, .int p2)]) hx hb dL_prepare_158 hl (k := 7) rfl (by rw [ex240]; rfl) (by decide) rfl (fun ls hl => ?_)
                              refine lv_goto (tgt := 5) hx hb dL_prepare_161 (by decide) ?_
                              exact ih _ e1 (lz_l hf hz) H locs ls hP hD hS (lv_sub hl [5, 6, 7, 1, 0] rfl) K
                            · rw [if_pos c239] at hf
                              refine lv_iconst (v := (1:Int32)) hx hb dL_prepare_152 (by decide) ?_
                              refine lv_goto (tgt := 157) hx hb dL_prepare_153 (by decide) ?_
                              refine lv_istore_n (lv' := [(3, .int (1:Int32)), (7, .int q207.1), (6, .int (1:Int32)), (5, .int x3), (0, .ref (a0 0)), (1, .int p1), (2, .int p2), (4, .int z.2.1)]) hx hb dL_prepare_157 rfl hl (by decide) rfl (fun ls hl => ?_)
                              obtain ⟨x241, ex241, hf⟩ := lt_some hf
                              refine lv_iinc (v := x241) (lv' := [(4, .int x241), (3, .int (1:Int32)), (7, .int q207.1), (6, .int (1:Int32)), (5, .int x3), (0, .ref (a0 0)), (1, .int p1), (2, .int p2)]) hx hb dL_prepare_158 hl (k := 7) rfl (by rw [ex241]; rfl) (by decide) rfl (fun ls hl => ?_)
                              refine lv_goto (tgt := 5) hx hb dL_prepare_161 (by decide) ?_
                              exact ih _ e1 (lz_l hf hz) H locs ls hP hD hS (lv_sub hl [5, 6, 7, 1, 0] rfl) K
                  · rw [if_pos c226] at hf
                    refine lv_iconst (v := (1:Int32)) hx hb dL_prepare_99 (by decide) ?_
                    refine lv_goto (tgt := 104) hx hb dL_prepare_100 (by decide) ?_
                    refine lv_istore_n (lv' := [(3, .int (1:Int32)), (7, .int q207.1), (6, .int (1:Int32)), (5, .int x3), (0, .ref (a0 0)), (1, .int p1), (2, .int p2), (4, .int z.2.1)]) hx hb dL_prepare_104 rfl hl (by decide) rfl (fun ls hl => ?_)
                    refine lv_iload hx hb dL_prepare_105 (lv_at hl 3 rfl) ?_
                    refine lv_iconst (v := (2:Int32)) hx hb dL_prepare_107 (by decide) ?_
                    refine lv_ishr hx hb dL_prepare_108 ?_
                    refine lv_bipush (v := (7:Int32)) hx hb dL_prepare_109 (by decide) ?_
                    obtain ⟨q242, hq242, hf⟩ := bd_some hf
                    refine g_callSi S (As := [.int (x3 >>> ((2:Int32) &&& 31)), .int (7:Int32)]) (gs' := [maW a0 (a1 0) (a2 0) (a3 0) (a4 0) (a7 0 0) (a8 0) (a9 0) (a9 1), stW G a1 q208.2.1, paW G a7 q208.2.2]) (c_L_low l G (x3 >>> ((2:Int32) &&& 31)) (7:Int32) hq242) (va_cwS 2 hts gL_prepare_L_low rfl rfl rfl hd_L_low.2 ⟨Nat.le_of_ble_eq_true rfl, Nat.le_of_ble_eq_true rfl⟩) hK hP hD hS hA (is := []) rfl rfl rfl hl.1 rfl (Nat.le_of_ble_eq_true rfl) dL_prepare_111 ⟨Nat.le_of_ble_eq_true rfl, Nat.le_of_ble_eq_true rfl⟩ rfl (fun H locs hP hD hS => ?_)
                    refine lv_if_ne (tgt := 158) hx hb dL_prepare_114 (by decide) (fun c243 => ?_) (fun c243 => ?_)
                    · rw [if_neg c243] at hf
                      obtain ⟨x244, ex244, hf⟩ := lt_some hf
                      refine lv_iinc (v := x244) (lv' := [(4, .int x244), (3, .int (1:Int32)), (7, .int q207.1), (6, .int (1:Int32)), (5, .int x3), (0, .ref (a0 0)), (1, .int p1), (2, .int p2)]) hx hb dL_prepare_158 hl (k := 7) rfl (by rw [ex244]; rfl) (by decide) rfl (fun ls hl => ?_)
                      refine lv_goto (tgt := 5) hx hb dL_prepare_161 (by decide) ?_
                      exact ih _ e1 (lz_l hf hz) H locs ls hP hD hS (lv_sub hl [5, 6, 7, 1, 0] rfl) K
                    · rw [if_pos c243] at hf
                      refine lv_aload_n hx hb dL_prepare_117 rfl (lv_at hl 4 rfl) ?_
                      refine lv_iload hx hb dL_prepare_118 (lv_at hl 7 rfl) ?_
                      refine lv_iconst (v := (3:Int32)) hx hb dL_prepare_120 (by decide) ?_
                      obtain ⟨q245, hq245, hf⟩ := bd_some hf
                      refine g_callVi S (As := [.int z.2.1, .int (3:Int32)]) (gs' := [maW a0 (a1 0) (a2 0) (a3 0) (a4 0) (a7 0 0) (a8 0) (a9 0) (a9 1), stW G a1 q208.2.1, paW G a7 q208.2.2]) (c_X5_member l G a0 a1 a2 a3 a4 a5 a6 a7 a8 a9 a10 a11 q208.2.1 z.2.1 (3:Int32) hq245) (cwV 2 hts gL_prepare_X5_member rfl rfl rfl hd_X5_member ⟨Nat.le_of_ble_eq_true rfl, Nat.le_of_ble_eq_true rfl⟩) hK hP hD hS hA (is := [0, 1]) rfl rfl 0 rfl rfl rfl rfl hl.1 rfl (Nat.le_of_ble_eq_true rfl) dL_prepare_121 ⟨Nat.le_of_ble_eq_true rfl, Nat.le_of_ble_eq_true rfl⟩ rfl (fun H locs hP hD hS => ?_)
                      refine lv_if_ne (tgt := 158) hx hb dL_prepare_124 (by decide) (fun c246 => ?_) (fun c246 => ?_)
                      · rw [if_neg c246] at hf
                        obtain ⟨x247, ex247, hf⟩ := lt_some hf
                        refine lv_iinc (v := x247) (lv' := [(4, .int x247), (3, .int (1:Int32)), (7, .int q207.1), (6, .int (1:Int32)), (5, .int x3), (0, .ref (a0 0)), (1, .int p1), (2, .int p2)]) hx hb dL_prepare_158 hl (k := 7) rfl (by rw [ex247]; rfl) (by decide) rfl (fun ls hl => ?_)
                        refine lv_goto (tgt := 5) hx hb dL_prepare_161 (by decide) ?_
                        exact ih _ e1 (lz_l hf hz) H locs ls hP hD hS (lv_sub hl [5, 6, 7, 1, 0] rfl) K
                      · rw [if_pos c246] at hf
                        refine lv_iload_n hx hb dL_prepare_127 rfl (lv_at hl 0 rfl) ?_
                        refine lv_if_eq (tgt := 156) hx hb dL_prepare_128 (by decide) (fun c248 => ?_) (fun c248 => ?_)
                        · rw [if_pos c248] at hf
                          refine lv_iconst (v := (0:Int32)) hx hb dL_prepare_156 (by decide) ?_
                          refine lv_istore_n (lv' := [(3, .int (0:Int32)), (7, .int q207.1), (6, .int (1:Int32)), (5, .int x3), (0, .ref (a0 0)), (1, .int p1), (2, .int p2), (4, .int z.2.1)]) hx hb dL_prepare_157 rfl hl (by decide) rfl (fun ls hl => ?_)
                          obtain ⟨x249, ex249, hf⟩ := lt_some hf
                          refine lv_iinc (v := x249) (lv' := [(4, .int x249), (3, .int (0:Int32)), (7, .int q207.1), (6, .int (1:Int32)), (5, .int x3), (0, .ref (a0 0)), (1, .int p1), (2, .int p2)]) hx hb dL_prepare_158 hl (k := 7) rfl (by rw [ex249]; rfl) (by decide) rfl (fun ls hl => ?_)
                          refine lv_goto (tgt := 5) hx hb dL_prepare_161 (by decide) ?_
                          exact ih _ e1 (lz_l hf hz) H locs ls hP hD hS (lv_sub hl [5, 6, 7, 1, 0] rfl) K
                        · rw [if_neg c248] at hf
                          refine lv_aload_n hx hb dL_prepare_131 rfl (lv_at hl 4 rfl) ?_
                          refine lv_iload hx hb dL_prepare_132 (lv_at hl 7 rfl) ?_
                          refine lv_iconst (v := (1:Int32)) hx hb dL_prepare_134 (by decide) ?_
                          obtain ⟨q250, hq250, hf⟩ := bd_some hf
                          refine g_callVi S (As := [.int z.2.1, .int (1:Int32)]) (gs' := [maW a0 (a1 0) (a2 0) (a3 0) (a4 0) (a7 0 0) (a8 0) (a9 0) (a9 1), stW G a1 q250.2.1, paW G a7 q250.2.2]) (c_X5_stayAway l G a0 a1 a2 a3 a4 a5 a6 a7 a8 a9 a10 a11 q208.2.1 q208.2.2 z.2.1 (1:Int32) hq250) (cwV 2 hts gL_prepare_X5_stayAway rfl rfl rfl hd_X5_stayAway ⟨Nat.le_of_ble_eq_true rfl, Nat.le_of_ble_eq_true rfl⟩) hK hP hD hS hA (is := [0, 1, 2]) rfl rfl 0 rfl rfl rfl rfl hl.1 rfl (Nat.le_of_ble_eq_true rfl) dL_prepare_135 ⟨Nat.le_of_ble_eq_true rfl, Nat.le_of_ble_eq_true rfl⟩ rfl (fun H locs hP hD hS => ?_)
                          refine lv_if_ne (tgt := 156) hx hb dL_prepare_138 (by decide) (fun c251 => ?_) (fun c251 => ?_)
                          · rw [if_neg c251] at hf
                            refine lv_iconst (v := (0:Int32)) hx hb dL_prepare_156 (by decide) ?_
                            refine lv_istore_n (lv' := [(3, .int (0:Int32)), (7, .int q207.1), (6, .int (1:Int32)), (5, .int x3), (0, .ref (a0 0)), (1, .int p1), (2, .int p2), (4, .int z.2.1)]) hx hb dL_prepare_157 rfl hl (by decide) rfl (fun ls hl => ?_)
                            obtain ⟨x252, ex252, hf⟩ := lt_some hf
                            refine lv_iinc (v := x252) (lv' := [(4, .int x252), (3, .int (0:Int32)), (7, .int q207.1), (6, .int (1:Int32)), (5, .int x3), (0, .ref (a0 0)), (1, .int p1), (2, .int p2)]) hx hb dL_prepare_158 hl (k := 7) rfl (by rw [ex252]; rfl) (by decide) rfl (fun ls hl => ?_)
                            refine lv_goto (tgt := 5) hx hb dL_prepare_161 (by decide) ?_
                            exact ih _ e1 (lz_l hf hz) H locs ls hP hD hS (lv_sub hl [5, 6, 7, 1, 0] rfl) K
                          · rw [if_pos c251] at hf
                            refine lv_aload_n hx hb dL_prepare_141 rfl (lv_at hl 4 rfl) ?_
                            refine lv_iload hx hb dL_prepare_142 (lv_at hl 7 rfl) ?_
                            refine lv_iconst (v := (3:Int32)) hx hb dL_prepare_144 (by decide) ?_
                            obtain ⟨q253, hq253, hf⟩ := bd_some hf
                            refine g_callVi S (As := [.int z.2.1, .int (3:Int32)]) (gs' := [maW a0 (a1 0) (a2 0) (a3 0) (a4 0) (a7 0 0) (a8 0) (a9 0) (a9 1), stW G a1 q250.2.1, paW G a7 q250.2.2]) (c_X5_member l G a0 a1 a2 a3 a4 a5 a6 a7 a8 a9 a10 a11 q250.2.1 z.2.1 (3:Int32) hq253) (cwV 2 hts gL_prepare_X5_member rfl rfl rfl hd_X5_member ⟨Nat.le_of_ble_eq_true rfl, Nat.le_of_ble_eq_true rfl⟩) hK hP hD hS hA (is := [0, 1]) rfl rfl 0 rfl rfl rfl rfl hl.1 rfl (Nat.le_of_ble_eq_true rfl) dL_prepare_145 ⟨Nat.le_of_ble_eq_true rfl, Nat.le_of_ble_eq_true rfl⟩ rfl (fun H locs hP hD hS => ?_)
                            refine lv_iconst (v := (1:Int32)) hx hb dL_prepare_148 (by decide) ?_
                            refine lv_icmp_ne (tgt := 156) hx hb dL_prepare_149 (by decide) (fun c254 => ?_) (fun c254 => ?_)
                            · rw [if_neg c254] at hf
                              refine lv_iconst (v := (0:Int32)) hx hb dL_prepare_156 (by decide) ?_
                              refine lv_istore_n (lv' := [(3, .int (0:Int32)), (7, .int q207.1), (6, .int (1:Int32)), (5, .int x3), (0, .ref (a0 0)), (1, .int p1), (2, .int p2), (4, .int z.2.1)]) hx hb dL_prepare_157 rfl hl (by decide) rfl (fun ls hl => ?_)
                              obtain ⟨x255, ex255, hf⟩ := lt_some hf
                              refine lv_iinc (v := x255) (lv' := [(4, .int x255), (3, .int (0:Int32)), (7, .int q207.1), (6, .int (1:Int32)), (5, .int x3), (0, .ref (a0 0)), (1, .int p1), (2, .int p2)]) hx hb dL_prepare_158 hl (k := 7) rfl (by rw [ex255]; rfl) (by decide) rfl (fun ls hl => ?_)
                              refine lv_goto (tgt := 5) hx hb dL_prepare_161 (by decide) ?_
                              exact ih _ e1 (lz_l hf hz) H locs ls hP hD hS (lv_sub hl [5, 6, 7, 1, 0] rfl) K
                            · rw [if_pos c254] at hf
                              refine lv_iconst (v := (1:Int32)) hx hb dL_prepare_152 (by decide) ?_
                              refine lv_goto (tgt := 157) hx hb dL_prepare_153 (by decide) ?_
                              refine lv_istore_n (lv' := [(3, .int (1:Int32)), (7, .int q207.1), (6, .int (1:Int32)), (5, .int x3), (0, .ref (a0 0)), (1, .int p1), (2, .int p2), (4, .int z.2.1)]) hx hb dL_prepare_157 rfl hl (by decide) rfl (fun ls hl => ?_)
                              obtain ⟨x256, ex256, hf⟩ := lt_some hf
                              refine lv_iinc (v := x256) (lv' := [(4, .int x256), (3, .int (1:Int32)), (7, .int q207.1), (6, .int (1:Int32)), (5, .int x3), (0, .ref (a0 0)), (1, .int p1), (2, .int p2)]) hx hb dL_prepare_158 hl (k := 7) rfl (by rw [ex256]; rfl) (by decide) rfl (fun ls hl => ?_)
                              refine lv_goto (tgt := 5) hx hb dL_prepare_161 (by decide) ?_
                              exact ih _ e1 (lz_l hf hz) H locs ls hP hD hS (lv_sub hl [5, 6, 7, 1, 0] rfl) K
set_option maxHeartbeats 4000000 in
set_option maxRecDepth 100000 in
theorem c_L_prepare (l : Launch) (G : uG) (a0 : Nat → Nat) (a1 : Nat → Nat) (a2 : Nat → Nat) (a3 : Nat → Nat) (a4 : Nat → Nat) (a5 : Nat → Nat) (a6 : Nat → Nat) (a7 : Nat → Nat → Nat) (a8 : Nat → Nat) (a9 : Nat → Nat) (a10 : Nat → Nat) (a11 : Nat → Nat) (v1 : StV) (v7 : PaV) (i1 : Int32) (i2 : Int32) {q : Int32 × (StV × PaV)} (hf : f_L_prepare v1 v7 i1 i2 = some q) : mQ l yL_prepare wsL_prepare ({ frames := 3, cells := 0, slots := 0, locals := 66 } : Room) G [.ref (a0 0), .int i1, .int i2] [maW a0 (a1 0) (a2 0) (a3 0) (a4 0) (a7 0 0) (a8 0) (a9 0) (a9 1), stW G a1 v1, paW G a7 v7] [maW a0 (a1 0) (a2 0) (a3 0) (a4 0) (a7 0 0) (a8 0) (a9 0) (a9 1), stW G a1 q.2.1, paW G a7 q.2.2] (qI G [maW a0 (a1 0) (a2 0) (a3 0) (a4 0) (a7 0 0) (a8 0) (a9 0) (a9 1), stW G a1 q.2.1, paW G a7 q.2.2] q.1) := by
  unfold f_L_prepare at hf
  refine m_of (cc := cL_prepare) (maxL := 8) (ret := (some .boolean)) (by decide) rfl rfl (Nat.le_of_ble_eq_true rfl) ?_
  intro p e s m args below meth c A ls S hK hA hP hD hS hl
  obtain ⟨hx, hb, hml, hown, hts, hr, hlocks⟩ := id S
  have hl : lv_has ls 8 [(0, .ref (a0 0)), (1, .int i1), (2, .int i2)] := hl
  refine lv_iconst (v := (1:Int32)) hx hb dL_prepare_0 (by decide) ?_
  refine lv_istore_n (lv' := [(3, .int (1:Int32)), (0, .ref (a0 0)), (1, .int i1), (2, .int i2)]) hx hb dL_prepare_1 rfl hl (by decide) rfl (fun ls hl => ?_)
  refine lv_iconst (v := (0:Int32)) hx hb dL_prepare_2 (by decide) ?_
  refine lv_istore (lv' := [(4, .int (0:Int32)), (3, .int (1:Int32)), (0, .ref (a0 0)), (1, .int i1), (2, .int i2)]) hx hb dL_prepare_3 hl (by decide) rfl (fun ls hl => ?_)
  obtain ⟨e257, he257, hf⟩ := bd_some hf
  refine w_L_prepare_5 (Q := _) S hK hA G a0 a1 a2 a3 a4 a5 a6 a7 a8 a9 a10 a11 i1 i2 FU _ e257 he257 _ _ _ hP hD hS (lv_sub hl [2, 3, 4, 1, 0] rfl) (fun H locs ls hP hD hS hl => ?_)
  refine lv_iload_n hx hb dL_prepare_164 rfl (lv_at hl 3 rfl) ?_
  obtain ⟨h258, hf⟩ := gb_some hf
  cases hf
  exact g_zret hx hb hr h258 hlocks hP hS dL_prepare_165
theorem kL_leastBid_0 : Cond.constant RL 29 (-99999) ∈ wsL_leastBid := (List.mem_cons_of_mem _ (List.mem_append_left _ (List.mem_append_left _ (List.mem_append_left _ (List.mem_append_left _ (List.mem_append_left _ (List.mem_append_left _ (List.mem_append_left _ (List.mem_append_left _ (List.mem_of_getElem? (i := 0) rfl))))))))))
set_option maxHeartbeats 4000000 in
set_option maxRecDepth 100000 in
theorem c_L_leastBid (l : Launch) (G : uG) (a0 : Nat → Nat) (a1 : Nat → Nat) (a2 : Nat → Nat) (a3 : Nat → Nat) (a4 : Nat → Nat) (a5 : Nat → Nat) (a6 : Nat → Nat) (a7 : Nat → Nat → Nat) (a8 : Nat → Nat) (a9 : Nat → Nat) (a10 : Nat → Nat) (a11 : Nat → Nat) (v1 : StV) (v2 : StV) (v3 : RdV) (v7 : PaV) (i1 : Int32) {q : Int32 × (StV × StV × RdV × PaV)} (hf : f_L_leastBid v1 v2 v3 v7 i1 = some q) : mQ l yL_leastBid wsL_leastBid ({ frames := 5, cells := 0, slots := 0, locals := 113 } : Room) G [.ref (a0 0), .int i1] [maW a0 (a1 0) (a2 0) (a3 0) (a4 0) (a7 0 0) (a8 0) (a9 0) (a9 1), stW G a1 v1, stW G a2 v2, rdW G a3 v3, paW G a7 v7] [maW a0 (a1 0) (a2 0) (a3 0) (a4 0) (a7 0 0) (a8 0) (a9 0) (a9 1), stW G a1 q.2.1, stW G a2 q.2.2.1, rdW G a3 q.2.2.2.1, paW G a7 q.2.2.2.2] (qI G [maW a0 (a1 0) (a2 0) (a3 0) (a4 0) (a7 0 0) (a8 0) (a9 0) (a9 1), stW G a1 q.2.1, stW G a2 q.2.2.1, rdW G a3 q.2.2.2.1, paW G a7 q.2.2.2.2] q.1) := by
  unfold f_L_leastBid at hf
  refine m_of (cc := cL_leastBid) (maxL := 6) (ret := (some .boolean)) (by decide) rfl rfl (Nat.le_of_ble_eq_true rfl) ?_
  intro p e s m args below meth c A ls S hK hA hP hD hS hl
  obtain ⟨hx, hb, hml, hown, hts, hr, hlocks⟩ := id S
  have hl : lv_has ls 6 [(0, .ref (a0 0)), (1, .int i1)] := hl
  refine lv_aload_n hx hb dL_leastBid_0 rfl (lv_at hl 0 rfl) ?_
  refine lv_iload_n hx hb dL_leastBid_1 rfl (lv_at hl 1 rfl) ?_
  obtain ⟨q1, hq1, hf⟩ := bd_some hf
  refine g_callVi S (As := [.int i1]) (gs' := [maW a0 (a1 0) (a2 0) (a3 0) (a4 0) (a7 0 0) (a8 0) (a9 0) (a9 1), stW G a1 v1, stW G a2 q1.2.1, rdW G a3 q1.2.2, paW G a7 v7]) (c_X5_leastBid l G a0 a1 a2 a3 a4 a5 a6 a7 a8 a9 a10 a11 v1 v2 v3 i1 hq1) (cwV 1 hts gL_leastBid_X5_leastBid rfl rfl rfl hd_X5_leastBid ⟨Nat.le_of_ble_eq_true rfl, Nat.le_of_ble_eq_true rfl⟩) hK hP hD hS hA (is := [0, 1, 2, 3]) rfl rfl 0 rfl rfl rfl rfl hl.1 rfl (Nat.le_of_ble_eq_true rfl) dL_leastBid_2 ⟨Nat.le_of_ble_eq_true rfl, Nat.le_of_ble_eq_true rfl⟩ rfl (fun H locs hP hD hS => ?_)
  refine lv_istore_n (lv' := [(2, .int q1.1), (0, .ref (a0 0)), (1, .int i1)]) hx hb dL_leastBid_5 rfl hl (by decide) rfl (fun ls hl => ?_)
  refine lv_aload_n hx hb dL_leastBid_6 rfl (lv_at hl 1 rfl) ?_
  refine lv_iload_n hx hb dL_leastBid_7 rfl (lv_at hl 2 rfl) ?_
  refine lv_iconst (v := (5:Int32)) hx hb dL_leastBid_8 (by decide) ?_
  obtain ⟨q2, hq2, hf⟩ := bd_some hf
  refine g_callVi S (As := [.int i1, .int (5:Int32)]) (gs' := [maW a0 (a1 0) (a2 0) (a3 0) (a4 0) (a7 0 0) (a8 0) (a9 0) (a9 1), stW G a1 v1, stW G a2 q1.2.1, rdW G a3 q1.2.2, paW G a7 v7]) (c_X5_member l G a0 a1 a2 a3 a4 a5 a6 a7 a8 a9 a10 a11 v1 i1 (5:Int32) hq2) (cwV 2 hts gL_leastBid_X5_member rfl rfl rfl hd_X5_member ⟨Nat.le_of_ble_eq_true rfl, Nat.le_of_ble_eq_true rfl⟩) hK hP hD hS hA (is := [0, 1]) rfl rfl 0 rfl rfl rfl rfl hl.1 rfl (Nat.le_of_ble_eq_true rfl) dL_leastBid_9 ⟨Nat.le_of_ble_eq_true rfl, Nat.le_of_ble_eq_true rfl⟩ rfl (fun H locs hP hD hS => ?_)
  refine lv_iconst (v := (1:Int32)) hx hb dL_leastBid_12 (by decide) ?_
  refine lv_icmp_ne (tgt := 29) hx hb dL_leastBid_13 (by decide) (fun c3 => ?_) (fun c3 => ?_)
  · rw [if_neg c3] at hf
    refine lv_iconst (v := (0:Int32)) hx hb dL_leastBid_29 (by decide) ?_
    refine lv_istore_n (lv' := [(3, .int (0:Int32)), (2, .int q1.1), (0, .ref (a0 0)), (1, .int i1)]) hx hb dL_leastBid_30 rfl hl (by decide) rfl (fun ls hl => ?_)
    refine lv_iload_n hx hb dL_leastBid_31 rfl (lv_at hl 0 rfl) ?_
    refine lv_if_ne (tgt := 47) hx hb dL_leastBid_32 (by decide) (fun c4 => ?_) (fun c4 => ?_)
    · rw [if_neg c4] at hf
      refine lv_aload_n hx hb dL_leastBid_47 rfl (lv_at hl 2 rfl) ?_
      refine lv_iload_n hx hb dL_leastBid_48 rfl (lv_at hl 3 rfl) ?_
      refine lv_iconst (v := (2:Int32)) hx hb dL_leastBid_49 (by decide) ?_
      obtain ⟨q5, hq5, hf⟩ := bd_some hf
      refine g_callVi S (As := [.int i1, .int (2:Int32)]) (gs' := [maW a0 (a1 0) (a2 0) (a3 0) (a4 0) (a7 0 0) (a8 0) (a9 0) (a9 1), stW G a1 v1, stW G a2 q1.2.1, rdW G a3 q1.2.2, paW G a7 v7]) (c_X5_member l G a0 a1 a2 a3 a4 a5 a6 a7 a8 a9 a10 a11 v1 i1 (2:Int32) hq5) (cwV 2 hts gL_leastBid_X5_member rfl rfl rfl hd_X5_member ⟨Nat.le_of_ble_eq_true rfl, Nat.le_of_ble_eq_true rfl⟩) hK hP hD hS hA (is := [0, 1]) rfl rfl 0 rfl rfl rfl rfl hl.1 rfl (Nat.le_of_ble_eq_true rfl) dL_leastBid_50 ⟨Nat.le_of_ble_eq_true rfl, Nat.le_of_ble_eq_true rfl⟩ rfl (fun H locs hP hD hS => ?_)
      refine lv_istore (lv' := [(4, .int q5.1), (3, .int (0:Int32)), (2, .int q1.1), (0, .ref (a0 0)), (1, .int i1)]) hx hb dL_leastBid_53 hl (by decide) rfl (fun ls hl => ?_)
      refine lv_iload_n hx hb dL_leastBid_55 rfl (lv_at hl 2 rfl) ?_
      refine lv_ldc (v := (-99999:Int32)) hx hb hown (hts _ kL_leastBid_0) dL_leastBid_56 ?_
      refine lv_icmp_ne (tgt := 95) hx hb dL_leastBid_58 (by decide) (fun c6 => ?_) (fun c6 => ?_)
      · rw [if_neg c6] at hf
        refine lv_aload_n hx hb dL_leastBid_95 rfl (lv_at hl 3 rfl) ?_
        refine lv_iload_n hx hb dL_leastBid_96 rfl (lv_at hl 4 rfl) ?_
        refine lv_iload_n hx hb dL_leastBid_97 rfl (lv_at hl 2 rfl) ?_
        obtain ⟨q7, hq7, hf⟩ := bd_some hf
        refine g_callVi S (As := [.int i1, .int q1.1]) (gs' := [maW a0 (a1 0) (a2 0) (a3 0) (a4 0) (a7 0 0) (a8 0) (a9 0) (a9 1), stW G a1 q7.2.1, stW G a2 q1.2.1, rdW G a3 q1.2.2, paW G a7 q7.2.2]) (c_X5_bid l G a0 a1 a2 a3 a4 a5 a6 a7 a8 a9 a10 a11 v1 v7 i1 q1.1 hq7) (cwV 2 hts gL_leastBid_X5_bid rfl rfl rfl hd_X5_bid ⟨Nat.le_of_ble_eq_true rfl, Nat.le_of_ble_eq_true rfl⟩) hK hP hD hS hA (is := [0, 1, 4]) rfl rfl 0 rfl rfl rfl rfl hl.1 rfl (Nat.le_of_ble_eq_true rfl) dL_leastBid_98 ⟨Nat.le_of_ble_eq_true rfl, Nat.le_of_ble_eq_true rfl⟩ rfl (fun H locs hP hD hS => ?_)
        refine lv_iload hx hb dL_leastBid_101 (lv_at hl 0 rfl) ?_
        refine lv_icmp_ne (tgt := 125) hx hb dL_leastBid_103 (by decide) (fun c8 => ?_) (fun c8 => ?_)
        · rw [if_neg c8] at hf
          refine lv_iconst (v := (0:Int32)) hx hb dL_leastBid_125 (by decide) ?_
          refine lv_istore (lv' := [(5, .int (0:Int32)), (4, .int q5.1), (3, .int (0:Int32)), (2, .int q1.1), (0, .ref (a0 0)), (1, .int i1)]) hx hb dL_leastBid_126 hl (by decide) rfl (fun ls hl => ?_)
          refine lv_iload hx hb dL_leastBid_128 (lv_at hl 0 rfl) ?_
          refine lv_if_eq (tgt := 169) hx hb dL_leastBid_130 (by decide) (fun c9 => ?_) (fun c9 => ?_)
          · rw [if_pos c9] at hf
            refine lv_iconst (v := (0:Int32)) hx hb dL_leastBid_169 (by decide) ?_
            cases hf
            exact g_zret hx hb hr gz0 hlocks hP hS dL_leastBid_170
          · rw [if_neg c9] at hf
            refine lv_iload_n hx hb dL_leastBid_133 rfl (lv_at hl 3 rfl) ?_
            refine lv_if_eq (tgt := 165) hx hb dL_leastBid_134 (by decide) (fun c10 => ?_) (fun c10 => ?_)
            · rw [if_pos c10] at hf
              refine lv_iconst (v := (1:Int32)) hx hb dL_leastBid_165 (by decide) ?_
              refine lv_goto (tgt := 170) hx hb dL_leastBid_166 (by decide) ?_
              cases hf
              exact g_zret hx hb hr gz1 hlocks hP hS dL_leastBid_170
            · rw [if_neg c10] at hf
              refine lv_aload_n hx hb dL_leastBid_137 rfl (lv_at hl 4 rfl) ?_
              refine lv_iload_n hx hb dL_leastBid_138 rfl (lv_at hl 5 rfl) ?_
              refine lv_iload_n hx hb dL_leastBid_139 rfl (lv_at hl 3 rfl) ?_
              refine lv_iconst (v := (1:Int32)) hx hb dL_leastBid_140 (by decide) ?_
              refine lv_isub hx hb dL_leastBid_141 ?_
              obtain ⟨q11, hq11, hf⟩ := bd_some hf
              refine g_callVi S (As := [.int i1, .int (q1.1 - (1:Int32))]) (gs' := [maW a0 (a1 0) (a2 0) (a3 0) (a4 0) (a7 0 0) (a8 0) (a9 0) (a9 1), stW G a1 q11.2.1, stW G a2 q1.2.1, rdW G a3 q1.2.2, paW G a7 q11.2.2]) (c_X5_bid l G a0 a1 a2 a3 a4 a5 a6 a7 a8 a9 a10 a11 q7.2.1 q7.2.2 i1 (q1.1 - (1:Int32)) hq11) (cwV 2 hts gL_leastBid_X5_bid rfl rfl rfl hd_X5_bid ⟨Nat.le_of_ble_eq_true rfl, Nat.le_of_ble_eq_true rfl⟩) hK hP hD hS hA (is := [0, 1, 4]) rfl rfl 0 rfl rfl rfl rfl hl.1 rfl (Nat.le_of_ble_eq_true rfl) dL_leastBid_142 ⟨Nat.le_of_ble_eq_true rfl, Nat.le_of_ble_eq_true rfl⟩ rfl (fun H locs hP hD hS => ?_)
              refine lv_iload hx hb dL_leastBid_145 (lv_at hl 1 rfl) ?_
              refine lv_icmp_ne (tgt := 169) hx hb dL_leastBid_147 (by decide) (fun c12 => ?_) (fun c12 => ?_)
              · rw [if_neg c12] at hf
                refine lv_iconst (v := (0:Int32)) hx hb dL_leastBid_169 (by decide) ?_
                cases hf
                exact g_zret hx hb hr gz0 hlocks hP hS dL_leastBid_170
              · rw [if_pos c12] at hf
                refine lv_aload_n hx hb dL_leastBid_150 rfl (lv_at hl 4 rfl) ?_
                obtain ⟨q13, hq13, hf⟩ := bd_some hf
                refine g_callVi S (As := []) (gs' := [maW a0 (a1 0) (a2 0) (a3 0) (a4 0) (a7 0 0) (a8 0) (a9 0) (a9 1), stW G a1 q11.2.1, stW G a2 q13.2.1, rdW G a3 q13.2.2, paW G a7 q11.2.2]) (c_X5_winner l G a0 a1 a2 a3 a4 a5 a6 a7 a8 a9 a10 a11 q11.2.1 q1.2.1 q1.2.2 hq13) (cwV 0 hts gL_leastBid_X5_winner rfl rfl rfl hd_X5_winner ⟨Nat.le_of_ble_eq_true rfl, Nat.le_of_ble_eq_true rfl⟩) hK hP hD hS hA (is := [0, 1, 2, 3]) rfl rfl 0 rfl rfl rfl rfl hl.1 rfl (Nat.le_of_ble_eq_true rfl) dL_leastBid_151 ⟨Nat.le_of_ble_eq_true rfl, Nat.le_of_ble_eq_true rfl⟩ rfl (fun H locs hP hD hS => ?_)
                refine lv_iload_n hx hb dL_leastBid_154 rfl (lv_at hl 5 rfl) ?_
                refine lv_icmp_eq (tgt := 169) hx hb dL_leastBid_155 (by decide) (fun c14 => ?_) (fun c14 => ?_)
                · rw [if_pos c14] at hf
                  refine lv_iconst (v := (0:Int32)) hx hb dL_leastBid_169 (by decide) ?_
                  cases hf
                  exact g_zret hx hb hr gz0 hlocks hP hS dL_leastBid_170
                · rw [if_neg c14] at hf
                  refine lv_aload_n hx hb dL_leastBid_158 rfl (lv_at hl 4 rfl) ?_
                  obtain ⟨q15, hq15, hf⟩ := bd_some hf
                  refine g_callVi S (As := []) (gs' := [maW a0 (a1 0) (a2 0) (a3 0) (a4 0) (a7 0 0) (a8 0) (a9 0) (a9 1), stW G a1 q15.2.1, stW G a2 q13.2.1, rdW G a3 q13.2.2, paW G a7 q15.2.2]) (c_X5_undo l G a0 a1 a2 a3 a4 a5 a6 a7 a8 a9 a10 a11 q11.2.1 q11.2.2 hq15) (cwV 0 hts gL_leastBid_X5_undo rfl rfl rfl hd_X5_undo ⟨Nat.le_of_ble_eq_true rfl, Nat.le_of_ble_eq_true rfl⟩) hK hP hD hS hA (is := [0, 1, 4]) rfl rfl 0 rfl rfl rfl rfl hl.1 rfl (Nat.le_of_ble_eq_true rfl) dL_leastBid_159 ⟨Nat.le_of_ble_eq_true rfl, Nat.le_of_ble_eq_true rfl⟩ rfl (fun H locs hP hD hS => ?_)
                  refine lv_if_lt (tgt := 169) hx hb dL_leastBid_162 (by decide) (fun c16 => ?_) (fun c16 => ?_)
                  · rw [if_pos c16] at hf
                    refine lv_iconst (v := (0:Int32)) hx hb dL_leastBid_169 (by decide) ?_
                    cases hf
                    exact g_zret hx hb hr gz0 hlocks hP hS dL_leastBid_170
                  · rw [if_neg c16] at hf
                    refine lv_iconst (v := (1:Int32)) hx hb dL_leastBid_165 (by decide) ?_
                    refine lv_goto (tgt := 170) hx hb dL_leastBid_166 (by decide) ?_
                    cases hf
                    exact g_zret hx hb hr gz1 hlocks hP hS dL_leastBid_170
        · rw [if_pos c8] at hf
          refine lv_aload_n hx hb dL_leastBid_106 rfl (lv_at hl 3 rfl) ?_
          obtain ⟨q17, hq17, hf⟩ := bd_some hf
          refine g_callVi S (As := []) (gs' := [maW a0 (a1 0) (a2 0) (a3 0) (a4 0) (a7 0 0) (a8 0) (a9 0) (a9 1), stW G a1 q7.2.1, stW G a2 q17.2.1, rdW G a3 q17.2.2, paW G a7 q7.2.2]) (c_X5_winner l G a0 a1 a2 a3 a4 a5 a6 a7 a8 a9 a10 a11 q7.2.1 q1.2.1 q1.2.2 hq17) (cwV 0 hts gL_leastBid_X5_winner rfl rfl rfl hd_X5_winner ⟨Nat.le_of_ble_eq_true rfl, Nat.le_of_ble_eq_true rfl⟩) hK hP hD hS hA (is := [0, 1, 2, 3]) rfl rfl 0 rfl rfl rfl rfl hl.1 rfl (Nat.le_of_ble_eq_true rfl) dL_leastBid_107 ⟨Nat.le_of_ble_eq_true rfl, Nat.le_of_ble_eq_true rfl⟩ rfl (fun H locs hP hD hS => ?_)
          refine lv_iload_n hx hb dL_leastBid_110 rfl (lv_at hl 4 rfl) ?_
          refine lv_icmp_ne (tgt := 125) hx hb dL_leastBid_111 (by decide) (fun c18 => ?_) (fun c18 => ?_)
          · rw [if_neg c18] at hf
            refine lv_iconst (v := (0:Int32)) hx hb dL_leastBid_125 (by decide) ?_
            refine lv_istore (lv' := [(5, .int (0:Int32)), (4, .int q5.1), (3, .int (0:Int32)), (2, .int q1.1), (0, .ref (a0 0)), (1, .int i1)]) hx hb dL_leastBid_126 hl (by decide) rfl (fun ls hl => ?_)
            refine lv_iload hx hb dL_leastBid_128 (lv_at hl 0 rfl) ?_
            refine lv_if_eq (tgt := 169) hx hb dL_leastBid_130 (by decide) (fun c19 => ?_) (fun c19 => ?_)
            · rw [if_pos c19] at hf
              refine lv_iconst (v := (0:Int32)) hx hb dL_leastBid_169 (by decide) ?_
              cases hf
              exact g_zret hx hb hr gz0 hlocks hP hS dL_leastBid_170
            · rw [if_neg c19] at hf
              refine lv_iload_n hx hb dL_leastBid_133 rfl (lv_at hl 3 rfl) ?_
              refine lv_if_eq (tgt := 165) hx hb dL_leastBid_134 (by decide) (fun c20 => ?_) (fun c20 => ?_)
              · rw [if_pos c20] at hf
                refine lv_iconst (v := (1:Int32)) hx hb dL_leastBid_165 (by decide) ?_
                refine lv_goto (tgt := 170) hx hb dL_leastBid_166 (by decide) ?_
                cases hf
                exact g_zret hx hb hr gz1 hlocks hP hS dL_leastBid_170
              · rw [if_neg c20] at hf
                refine lv_aload_n hx hb dL_leastBid_137 rfl (lv_at hl 4 rfl) ?_
                refine lv_iload_n hx hb dL_leastBid_138 rfl (lv_at hl 5 rfl) ?_
                refine lv_iload_n hx hb dL_leastBid_139 rfl (lv_at hl 3 rfl) ?_
                refine lv_iconst (v := (1:Int32)) hx hb dL_leastBid_140 (by decide) ?_
                refine lv_isub hx hb dL_leastBid_141 ?_
                obtain ⟨q21, hq21, hf⟩ := bd_some hf
                refine g_callVi S (As := [.int i1, .int (q1.1 - (1:Int32))]) (gs' := [maW a0 (a1 0) (a2 0) (a3 0) (a4 0) (a7 0 0) (a8 0) (a9 0) (a9 1), stW G a1 q21.2.1, stW G a2 q17.2.1, rdW G a3 q17.2.2, paW G a7 q21.2.2]) (c_X5_bid l G a0 a1 a2 a3 a4 a5 a6 a7 a8 a9 a10 a11 q7.2.1 q7.2.2 i1 (q1.1 - (1:Int32)) hq21) (cwV 2 hts gL_leastBid_X5_bid rfl rfl rfl hd_X5_bid ⟨Nat.le_of_ble_eq_true rfl, Nat.le_of_ble_eq_true rfl⟩) hK hP hD hS hA (is := [0, 1, 4]) rfl rfl 0 rfl rfl rfl rfl hl.1 rfl (Nat.le_of_ble_eq_true rfl) dL_leastBid_142 ⟨Nat.le_of_ble_eq_true rfl, Nat.le_of_ble_eq_true rfl⟩ rfl (fun H locs hP hD hS => ?_)
                refine lv_iload hx hb dL_leastBid_145 (lv_at hl 1 rfl) ?_
                refine lv_icmp_ne (tgt := 169) hx hb dL_leastBid_147 (by decide) (fun c22 => ?_) (fun c22 => ?_)
                · rw [if_neg c22] at hf
                  refine lv_iconst (v := (0:Int32)) hx hb dL_leastBid_169 (by decide) ?_
                  cases hf
                  exact g_zret hx hb hr gz0 hlocks hP hS dL_leastBid_170
                · rw [if_pos c22] at hf
                  refine lv_aload_n hx hb dL_leastBid_150 rfl (lv_at hl 4 rfl) ?_
                  obtain ⟨q23, hq23, hf⟩ := bd_some hf
                  refine g_callVi S (As := []) (gs' := [maW a0 (a1 0) (a2 0) (a3 0) (a4 0) (a7 0 0) (a8 0) (a9 0) (a9 1), stW G a1 q21.2.1, stW G a2 q23.2.1, rdW G a3 q23.2.2, paW G a7 q21.2.2]) (c_X5_winner l G a0 a1 a2 a3 a4 a5 a6 a7 a8 a9 a10 a11 q21.2.1 q17.2.1 q17.2.2 hq23) (cwV 0 hts gL_leastBid_X5_winner rfl rfl rfl hd_X5_winner ⟨Nat.le_of_ble_eq_true rfl, Nat.le_of_ble_eq_true rfl⟩) hK hP hD hS hA (is := [0, 1, 2, 3]) rfl rfl 0 rfl rfl rfl rfl hl.1 rfl (Nat.le_of_ble_eq_true rfl) dL_leastBid_151 ⟨Nat.le_of_ble_eq_true rfl, Nat.le_of_ble_eq_true rfl⟩ rfl (fun H locs hP hD hS => ?_)
                  refine lv_iload_n hx hb dL_leastBid_154 rfl (lv_at hl 5 rfl) ?_
                  refine lv_icmp_eq (tgt := 169) hx hb dL_leastBid_155 (by decide) (fun c24 => ?_) (fun c24 => ?_)
                  · rw [if_pos c24] at hf
                    refine lv_iconst (v := (0:Int32)) hx hb dL_leastBid_169 (by decide) ?_
                    cases hf
                    exact g_zret hx hb hr gz0 hlocks hP hS dL_leastBid_170
                  · rw [if_neg c24] at hf
                    refine lv_aload_n hx hb dL_leastBid_158 rfl (lv_at hl 4 rfl) ?_
                    obtain ⟨q25, hq25, hf⟩ := bd_some hf
                    refine g_callVi S (As := []) (gs' := [maW a0 (a1 0) (a2 0) (a3 0) (a4 0) (a7 0 0) (a8 0) (a9 0) (a9 1), stW G a1 q25.2.1, stW G a2 q23.2.1, rdW G a3 q23.2.2, paW G a7 q25.2.2]) (c_X5_undo l G a0 a1 a2 a3 a4 a5 a6 a7 a8 a9 a10 a11 q21.2.1 q21.2.2 hq25) (cwV 0 hts gL_leastBid_X5_undo rfl rfl rfl hd_X5_undo ⟨Nat.le_of_ble_eq_true rfl, Nat.le_of_ble_eq_true rfl⟩) hK hP hD hS hA (is := [0, 1, 4]) rfl rfl 0 rfl rfl rfl rfl hl.1 rfl (Nat.le_of_ble_eq_true rfl) dL_leastBid_159 ⟨Nat.le_of_ble_eq_true rfl, Nat.le_of_ble_eq_true rfl⟩ rfl (fun H locs hP hD hS => ?_)
                    refine lv_if_lt (tgt := 169) hx hb dL_leastBid_162 (by decide) (fun c26 => ?_) (fun c26 => ?_)
                    · rw [if_pos c26] at hf
                      refine lv_iconst (v := (0:Int32)) hx hb dL_leastBid_169 (by decide) ?_
                      cases hf
                      exact g_zret hx hb hr gz0 hlocks hP hS dL_leastBid_170
                    · rw [if_neg c26] at hf
                      refine lv_iconst (v := (1:Int32)) hx hb dL_leastBid_165 (by decide) ?_
                      refine lv_goto (tgt := 170) hx hb dL_leastBid_166 (by decide) ?_
                      cases hf
                      exact g_zret hx hb hr gz1 hlocks hP hS dL_leastBid_170
          · rw [if_pos c18] at hf
            refine lv_aload_n hx hb dL_leastBid_114 rfl (lv_at hl 3 rfl) ?_
            obtain ⟨q27, hq27, hf⟩ := bd_some hf
            refine g_callVi S (As := []) (gs' := [maW a0 (a1 0) (a2 0) (a3 0) (a4 0) (a7 0 0) (a8 0) (a9 0) (a9 1), stW G a1 q27.2.1, stW G a2 q17.2.1, rdW G a3 q17.2.2, paW G a7 q27.2.2]) (c_X5_undo l G a0 a1 a2 a3 a4 a5 a6 a7 a8 a9 a10 a11 q7.2.1 q7.2.2 hq27) (cwV 0 hts gL_leastBid_X5_undo rfl rfl rfl hd_X5_undo ⟨Nat.le_of_ble_eq_true rfl, Nat.le_of_ble_eq_true rfl⟩) hK hP hD hS hA (is := [0, 1, 4]) rfl rfl 0 rfl rfl rfl rfl hl.1 rfl (Nat.le_of_ble_eq_true rfl) dL_leastBid_115 ⟨Nat.le_of_ble_eq_true rfl, Nat.le_of_ble_eq_true rfl⟩ rfl (fun H locs hP hD hS => ?_)
            refine lv_if_lt (tgt := 125) hx hb dL_leastBid_118 (by decide) (fun c28 => ?_) (fun c28 => ?_)
            · rw [if_pos c28] at hf
              refine lv_iconst (v := (0:Int32)) hx hb dL_leastBid_125 (by decide) ?_
              refine lv_istore (lv' := [(5, .int (0:Int32)), (4, .int q5.1), (3, .int (0:Int32)), (2, .int q1.1), (0, .ref (a0 0)), (1, .int i1)]) hx hb dL_leastBid_126 hl (by decide) rfl (fun ls hl => ?_)
              refine lv_iload hx hb dL_leastBid_128 (lv_at hl 0 rfl) ?_
              refine lv_if_eq (tgt := 169) hx hb dL_leastBid_130 (by decide) (fun c29 => ?_) (fun c29 => ?_)
              · rw [if_pos c29] at hf
                refine lv_iconst (v := (0:Int32)) hx hb dL_leastBid_169 (by decide) ?_
                cases hf
                exact g_zret hx hb hr gz0 hlocks hP hS dL_leastBid_170
              · rw [if_neg c29] at hf
                refine lv_iload_n hx hb dL_leastBid_133 rfl (lv_at hl 3 rfl) ?_
                refine lv_if_eq (tgt := 165) hx hb dL_leastBid_134 (by decide) (fun c30 => ?_) (fun c30 => ?_)
                · rw [if_pos c30] at hf
                  refine lv_iconst (v := (1:Int32)) hx hb dL_leastBid_165 (by decide) ?_
                  refine lv_goto (tgt := 170) hx hb dL_leastBid_166 (by decide) ?_
                  cases hf
                  exact g_zret hx hb hr gz1 hlocks hP hS dL_leastBid_170
                · rw [if_neg c30] at hf
                  refine lv_aload_n hx hb dL_leastBid_137 rfl (lv_at hl 4 rfl) ?_
                  refine lv_iload_n hx hb dL_leastBid_138 rfl (lv_at hl 5 rfl) ?_
                  refine lv_iload_n hx hb dL_leastBid_139 rfl (lv_at hl 3 rfl) ?_
                  refine lv_iconst (v := (1:Int32)) hx hb dL_leastBid_140 (by decide) ?_
                  refine lv_isub hx hb dL_leastBid_141 ?_
                  obtain ⟨q31, hq31, hf⟩ := bd_some hf
                  refine g_callVi S (As := [.int i1, .int (q1.1 - (1:Int32))]) (gs' := [maW a0 (a1 0) (a2 0) (a3 0) (a4 0) (a7 0 0) (a8 0) (a9 0) (a9 1), stW G a1 q31.2.1, stW G a2 q17.2.1, rdW G a3 q17.2.2, paW G a7 q31.2.2]) (c_X5_bid l G a0 a1 a2 a3 a4 a5 a6 a7 a8 a9 a10 a11 q27.2.1 q27.2.2 i1 (q1.1 - (1:Int32)) hq31) (cwV 2 hts gL_leastBid_X5_bid rfl rfl rfl hd_X5_bid ⟨Nat.le_of_ble_eq_true rfl, Nat.le_of_ble_eq_true rfl⟩) hK hP hD hS hA (is := [0, 1, 4]) rfl rfl 0 rfl rfl rfl rfl hl.1 rfl (Nat.le_of_ble_eq_true rfl) dL_leastBid_142 ⟨Nat.le_of_ble_eq_true rfl, Nat.le_of_ble_eq_true rfl⟩ rfl (fun H locs hP hD hS => ?_)
                  refine lv_iload hx hb dL_leastBid_145 (lv_at hl 1 rfl) ?_
                  refine lv_icmp_ne (tgt := 169) hx hb dL_leastBid_147 (by decide) (fun c32 => ?_) (fun c32 => ?_)
                  · rw [if_neg c32] at hf
                    refine lv_iconst (v := (0:Int32)) hx hb dL_leastBid_169 (by decide) ?_
                    cases hf
                    exact g_zret hx hb hr gz0 hlocks hP hS dL_leastBid_170
                  · rw [if_pos c32] at hf
                    refine lv_aload_n hx hb dL_leastBid_150 rfl (lv_at hl 4 rfl) ?_
                    obtain ⟨q33, hq33, hf⟩ := bd_some hf
                    refine g_callVi S (As := []) (gs' := [maW a0 (a1 0) (a2 0) (a3 0) (a4 0) (a7 0 0) (a8 0) (a9 0) (a9 1), stW G a1 q31.2.1, stW G a2 q33.2.1, rdW G a3 q33.2.2, paW G a7 q31.2.2]) (c_X5_winner l G a0 a1 a2 a3 a4 a5 a6 a7 a8 a9 a10 a11 q31.2.1 q17.2.1 q17.2.2 hq33) (cwV 0 hts gL_leastBid_X5_winner rfl rfl rfl hd_X5_winner ⟨Nat.le_of_ble_eq_true rfl, Nat.le_of_ble_eq_true rfl⟩) hK hP hD hS hA (is := [0, 1, 2, 3]) rfl rfl 0 rfl rfl rfl rfl hl.1 rfl (Nat.le_of_ble_eq_true rfl) dL_leastBid_151 ⟨Nat.le_of_ble_eq_true rfl, Nat.le_of_ble_eq_true rfl⟩ rfl (fun H locs hP hD hS => ?_)
                    refine lv_iload_n hx hb dL_leastBid_154 rfl (lv_at hl 5 rfl) ?_
                    refine lv_icmp_eq (tgt := 169) hx hb dL_leastBid_155 (by decide) (fun c34 => ?_) (fun c34 => ?_)
                    · rw [if_pos c34] at hf
                      refine lv_iconst (v := (0:Int32)) hx hb dL_leastBid_169 (by decide) ?_
                      cases hf
                      exact g_zret hx hb hr gz0 hlocks hP hS dL_leastBid_170
                    · rw [if_neg c34] at hf
                      refine lv_aload_n hx hb dL_leastBid_158 rfl (lv_at hl 4 rfl) ?_
                      obtain ⟨q35, hq35, hf⟩ := bd_some hf
                      refine g_callVi S (As := []) (gs' := [maW a0 (a1 0) (a2 0) (a3 0) (a4 0) (a7 0 0) (a8 0) (a9 0) (a9 1), stW G a1 q35.2.1, stW G a2 q33.2.1, rdW G a3 q33.2.2, paW G a7 q35.2.2]) (c_X5_undo l G a0 a1 a2 a3 a4 a5 a6 a7 a8 a9 a10 a11 q31.2.1 q31.2.2 hq35) (cwV 0 hts gL_leastBid_X5_undo rfl rfl rfl hd_X5_undo ⟨Nat.le_of_ble_eq_true rfl, Nat.le_of_ble_eq_true rfl⟩) hK hP hD hS hA (is := [0, 1, 4]) rfl rfl 0 rfl rfl rfl rfl hl.1 rfl (Nat.le_of_ble_eq_true rfl) dL_leastBid_159 ⟨Nat.le_of_ble_eq_true rfl, Nat.le_of_ble_eq_true rfl⟩ rfl (fun H locs hP hD hS => ?_)
                      refine lv_if_lt (tgt := 169) hx hb dL_leastBid_162 (by decide) (fun c36 => ?_) (fun c36 => ?_)
                      · rw [if_pos c36] at hf
                        refine lv_iconst (v := (0:Int32)) hx hb dL_leastBid_169 (by decide) ?_
                        cases hf
                        exact g_zret hx hb hr gz0 hlocks hP hS dL_leastBid_170
                      · rw [if_neg c36] at hf
                        refine lv_iconst (v := (1:Int32)) hx hb dL_leastBid_165 (by decide) ?_
                        refine lv_goto (tgt := 170) hx hb dL_leastBid_166 (by decide) ?_
                        cases hf
                        exact g_zret hx hb hr gz1 hlocks hP hS dL_leastBid_170
            · rw [if_neg c28] at hf
              refine lv_iconst (v := (1:Int32)) hx hb dL_leastBid_121 (by decide) ?_
              refine lv_goto (tgt := 126) hx hb dL_leastBid_122 (by decide) ?_
              refine lv_istore (lv' := [(5, .int (1:Int32)), (4, .int q5.1), (3, .int (0:Int32)), (2, .int q1.1), (0, .ref (a0 0)), (1, .int i1)]) hx hb dL_leastBid_126 hl (by decide) rfl (fun ls hl => ?_)
              refine lv_iload hx hb dL_leastBid_128 (lv_at hl 0 rfl) ?_
              refine lv_if_eq (tgt := 169) hx hb dL_leastBid_130 (by decide) (fun c37 => ?_) (fun c37 => ?_)
              · rw [if_pos c37] at hf
                refine lv_iconst (v := (0:Int32)) hx hb dL_leastBid_169 (by decide) ?_
                cases hf
                exact g_zret hx hb hr gz0 hlocks hP hS dL_leastBid_170
              · rw [if_neg c37] at hf
                refine lv_iload_n hx hb dL_leastBid_133 rfl (lv_at hl 3 rfl) ?_
                refine lv_if_eq (tgt := 165) hx hb dL_leastBid_134 (by decide) (fun c38 => ?_) (fun c38 => ?_)
                · rw [if_pos c38] at hf
                  refine lv_iconst (v := (1:Int32)) hx hb dL_leastBid_165 (by decide) ?_
                  refine lv_goto (tgt := 170) hx hb dL_leastBid_166 (by decide) ?_
                  cases hf
                  exact g_zret hx hb hr gz1 hlocks hP hS dL_leastBid_170
                · rw [if_neg c38] at hf
                  refine lv_aload_n hx hb dL_leastBid_137 rfl (lv_at hl 4 rfl) ?_
                  refine lv_iload_n hx hb dL_leastBid_138 rfl (lv_at hl 5 rfl) ?_
                  refine lv_iload_n hx hb dL_leastBid_139 rfl (lv_at hl 3 rfl) ?_
                  refine lv_iconst (v := (1:Int32)) hx hb dL_leastBid_140 (by decide) ?_
                  refine lv_isub hx hb dL_leastBid_141 ?_
                  obtain ⟨q39, hq39, hf⟩ := bd_some hf
                  refine g_callVi S (As := [.int i1, .int (q1.1 - (1:Int32))]) (gs' := [maW a0 (a1 0) (a2 0) (a3 0) (a4 0) (a7 0 0) (a8 0) (a9 0) (a9 1), stW G a1 q39.2.1, stW G a2 q17.2.1, rdW G a3 q17.2.2, paW G a7 q39.2.2]) (c_X5_bid l G a0 a1 a2 a3 a4 a5 a6 a7 a8 a9 a10 a11 q27.2.1 q27.2.2 i1 (q1.1 - (1:Int32)) hq39) (cwV 2 hts gL_leastBid_X5_bid rfl rfl rfl hd_X5_bid ⟨Nat.le_of_ble_eq_true rfl, Nat.le_of_ble_eq_true rfl⟩) hK hP hD hS hA (is := [0, 1, 4]) rfl rfl 0 rfl rfl rfl rfl hl.1 rfl (Nat.le_of_ble_eq_true rfl) dL_leastBid_142 ⟨Nat.le_of_ble_eq_true rfl, Nat.le_of_ble_eq_true rfl⟩ rfl (fun H locs hP hD hS => ?_)
                  refine lv_iload hx hb dL_leastBid_145 (lv_at hl 1 rfl) ?_
                  refine lv_icmp_ne (tgt := 169) hx hb dL_leastBid_147 (by decide) (fun c40 => ?_) (fun c40 => ?_)
                  · rw [if_neg c40] at hf
                    refine lv_iconst (v := (0:Int32)) hx hb dL_leastBid_169 (by decide) ?_
                    cases hf
                    exact g_zret hx hb hr gz0 hlocks hP hS dL_leastBid_170
                  · rw [if_pos c40] at hf
                    refine lv_aload_n hx hb dL_leastBid_150 rfl (lv_at hl 4 rfl) ?_
                    obtain ⟨q41, hq41, hf⟩ := bd_some hf
                    refine g_callVi S (As := []) (gs' := [maW a0 (a1 0) (a2 0) (a3 0) (a4 0) (a7 0 0) (a8 0) (a9 0) (a9 1), stW G a1 q39.2.1, stW G a2 q41.2.1, rdW G a3 q41.2.2, paW G a7 q39.2.2]) (c_X5_winner l G a0 a1 a2 a3 a4 a5 a6 a7 a8 a9 a10 a11 q39.2.1 q17.2.1 q17.2.2 hq41) (cwV 0 hts gL_leastBid_X5_winner rfl rfl rfl hd_X5_winner ⟨Nat.le_of_ble_eq_true rfl, Nat.le_of_ble_eq_true rfl⟩) hK hP hD hS hA (is := [0, 1, 2, 3]) rfl rfl 0 rfl rfl rfl rfl hl.1 rfl (Nat.le_of_ble_eq_true rfl) dL_leastBid_151 ⟨Nat.le_of_ble_eq_true rfl, Nat.le_of_ble_eq_true rfl⟩ rfl (fun H locs hP hD hS => ?_)
                    refine lv_iload_n hx hb dL_leastBid_154 rfl (lv_at hl 5 rfl) ?_
                    refine lv_icmp_eq (tgt := 169) hx hb dL_leastBid_155 (by decide) (fun c42 => ?_) (fun c42 => ?_)
                    · rw [if_pos c42] at hf
                      refine lv_iconst (v := (0:Int32)) hx hb dL_leastBid_169 (by decide) ?_
                      cases hf
                      exact g_zret hx hb hr gz0 hlocks hP hS dL_leastBid_170
                    · rw [if_neg c42] at hf
                      refine lv_aload_n hx hb dL_leastBid_158 rfl (lv_at hl 4 rfl) ?_
                      obtain ⟨q43, hq43, hf⟩ := bd_some hf
                      refine g_callVi S (As := []) (gs' := [maW a0 (a1 0) (a2 0) (a3 0) (a4 0) (a7 0 0) (a8 0) (a9 0) (a9 1), stW G a1 q43.2.1, stW G a2 q41.2.1, rdW G a3 q41.2.2, paW G a7 q43.2.2]) (c_X5_undo l G a0 a1 a2 a3 a4 a5 a6 a7 a8 a9 a10 a11 q39.2.1 q39.2.2 hq43) (cwV 0 hts gL_leastBid_X5_undo rfl rfl rfl hd_X5_undo ⟨Nat.le_of_ble_eq_true rfl, Nat.le_of_ble_eq_true rfl⟩) hK hP hD hS hA (is := [0, 1, 4]) rfl rfl 0 rfl rfl rfl rfl hl.1 rfl (Nat.le_of_ble_eq_true rfl) dL_leastBid_159 ⟨Nat.le_of_ble_eq_true rfl, Nat.le_of_ble_eq_true rfl⟩ rfl (fun H locs hP hD hS => ?_)
                      refine lv_if_lt (tgt := 169) hx hb dL_leastBid_162 (by decide) (fun c44 => ?_) (fun c44 => ?_)
                      · rw [if_pos c44] at hf
                        refine lv_iconst (v := (0:Int32)) hx hb dL_leastBid_169 (by decide) ?_
                        cases hf
                        exact g_zret hx hb hr gz0 hlocks hP hS dL_leastBid_170
                      · rw [if_neg c44] at hf
                        refine lv_iconst (v := (1:Int32)) hx hb dL_leastBid_165 (by decide) ?_
                        refine lv_goto (tgt := 170) hx hb dL_leastBid_166 (by decide) ?_
                        cases hf
                        exact g_zret hx hb hr gz1 hlocks hP hS dL_leastBid_170
      · rw [if_pos c6] at hf
        refine lv_aload_n hx hb dL_leastBid_61 rfl (lv_at hl 3 rfl) ?_
        refine lv_iload_n hx hb dL_leastBid_62 rfl (lv_at hl 4 rfl) ?_
        refine lv_sipush (v := (999:Int32)) hx hb dL_leastBid_63 (by decide) ?_
        obtain ⟨q45, hq45, hf⟩ := bd_some hf
        refine g_callVi S (As := [.int i1, .int (999:Int32)]) (gs' := [maW a0 (a1 0) (a2 0) (a3 0) (a4 0) (a7 0 0) (a8 0) (a9 0) (a9 1), stW G a1 q45.2.1, stW G a2 q1.2.1, rdW G a3 q1.2.2, paW G a7 q45.2.2]) (c_X5_bid l G a0 a1 a2 a3 a4 a5 a6 a7 a8 a9 a10 a11 v1 v7 i1 (999:Int32) hq45) (cwV 2 hts gL_leastBid_X5_bid rfl rfl rfl hd_X5_bid ⟨Nat.le_of_ble_eq_true rfl, Nat.le_of_ble_eq_true rfl⟩) hK hP hD hS hA (is := [0, 1, 4]) rfl rfl 0 rfl rfl rfl rfl hl.1 rfl (Nat.le_of_ble_eq_true rfl) dL_leastBid_66 ⟨Nat.le_of_ble_eq_true rfl, Nat.le_of_ble_eq_true rfl⟩ rfl (fun H locs hP hD hS => ?_)
        refine lv_iload hx hb dL_leastBid_69 (lv_at hl 0 rfl) ?_
        refine lv_icmp_ne (tgt := 93) hx hb dL_leastBid_71 (by decide) (fun c46 => ?_) (fun c46 => ?_)
        · rw [if_neg c46] at hf
          refine lv_iconst (v := (0:Int32)) hx hb dL_leastBid_93 (by decide) ?_
          cases hf
          exact g_zret hx hb hr gz0 hlocks hP hS dL_leastBid_94
        · rw [if_pos c46] at hf
          refine lv_aload_n hx hb dL_leastBid_74 rfl (lv_at hl 3 rfl) ?_
          obtain ⟨q47, hq47, hf⟩ := bd_some hf
          refine g_callVi S (As := []) (gs' := [maW a0 (a1 0) (a2 0) (a3 0) (a4 0) (a7 0 0) (a8 0) (a9 0) (a9 1), stW G a1 q45.2.1, stW G a2 q47.2.1, rdW G a3 q47.2.2, paW G a7 q45.2.2]) (c_X5_winner l G a0 a1 a2 a3 a4 a5 a6 a7 a8 a9 a10 a11 q45.2.1 q1.2.1 q1.2.2 hq47) (cwV 0 hts gL_leastBid_X5_winner rfl rfl rfl hd_X5_winner ⟨Nat.le_of_ble_eq_true rfl, Nat.le_of_ble_eq_true rfl⟩) hK hP hD hS hA (is := [0, 1, 2, 3]) rfl rfl 0 rfl rfl rfl rfl hl.1 rfl (Nat.le_of_ble_eq_true rfl) dL_leastBid_75 ⟨Nat.le_of_ble_eq_true rfl, Nat.le_of_ble_eq_true rfl⟩ rfl (fun H locs hP hD hS => ?_)
          refine lv_iload_n hx hb dL_leastBid_78 rfl (lv_at hl 4 rfl) ?_
          refine lv_icmp_eq (tgt := 93) hx hb dL_leastBid_79 (by decide) (fun c48 => ?_) (fun c48 => ?_)
          · rw [if_pos c48] at hf
            refine lv_iconst (v := (0:Int32)) hx hb dL_leastBid_93 (by decide) ?_
            cases hf
            exact g_zret hx hb hr gz0 hlocks hP hS dL_leastBid_94
          · rw [if_neg c48] at hf
            refine lv_aload_n hx hb dL_leastBid_82 rfl (lv_at hl 3 rfl) ?_
            obtain ⟨q49, hq49, hf⟩ := bd_some hf
            refine g_callVi S (As := []) (gs' := [maW a0 (a1 0) (a2 0) (a3 0) (a4 0) (a7 0 0) (a8 0) (a9 0) (a9 1), stW G a1 q49.2.1, stW G a2 q47.2.1, rdW G a3 q47.2.2, paW G a7 q49.2.2]) (c_X5_undo l G a0 a1 a2 a3 a4 a5 a6 a7 a8 a9 a10 a11 q45.2.1 q45.2.2 hq49) (cwV 0 hts gL_leastBid_X5_undo rfl rfl rfl hd_X5_undo ⟨Nat.le_of_ble_eq_true rfl, Nat.le_of_ble_eq_true rfl⟩) hK hP hD hS hA (is := [0, 1, 4]) rfl rfl 0 rfl rfl rfl rfl hl.1 rfl (Nat.le_of_ble_eq_true rfl) dL_leastBid_83 ⟨Nat.le_of_ble_eq_true rfl, Nat.le_of_ble_eq_true rfl⟩ rfl (fun H locs hP hD hS => ?_)
            refine lv_if_lt (tgt := 93) hx hb dL_leastBid_86 (by decide) (fun c50 => ?_) (fun c50 => ?_)
            · rw [if_pos c50] at hf
              refine lv_iconst (v := (0:Int32)) hx hb dL_leastBid_93 (by decide) ?_
              cases hf
              exact g_zret hx hb hr gz0 hlocks hP hS dL_leastBid_94
            · rw [if_neg c50] at hf
              refine lv_iconst (v := (1:Int32)) hx hb dL_leastBid_89 (by decide) ?_
              refine lv_goto (tgt := 94) hx hb dL_leastBid_90 (by decide) ?_
              cases hf
              exact g_zret hx hb hr gz1 hlocks hP hS dL_leastBid_94
    · rw [if_pos c4] at hf
      refine lv_iload_n hx hb dL_leastBid_35 rfl (lv_at hl 1 rfl) ?_
      refine lv_ldc (v := (-99999:Int32)) hx hb hown (hts _ kL_leastBid_0) dL_leastBid_36 ?_
      refine lv_icmp_ne (tgt := 45) hx hb dL_leastBid_38 (by decide) (fun c51 => ?_) (fun c51 => ?_)
      · rw [if_neg c51] at hf
        refine lv_iconst (v := (0:Int32)) hx hb dL_leastBid_45 (by decide) ?_
        cases hf
        exact g_zret hx hb hr gz0 hlocks hP hS dL_leastBid_46
      · rw [if_pos c51] at hf
        refine lv_iconst (v := (1:Int32)) hx hb dL_leastBid_41 (by decide) ?_
        refine lv_goto (tgt := 46) hx hb dL_leastBid_42 (by decide) ?_
        cases hf
        exact g_zret hx hb hr gz1 hlocks hP hS dL_leastBid_46
  · rw [if_pos c3] at hf
    refine lv_aload_n hx hb dL_leastBid_16 rfl (lv_at hl 1 rfl) ?_
    refine lv_iload_n hx hb dL_leastBid_17 rfl (lv_at hl 2 rfl) ?_
    refine lv_iconst (v := (4:Int32)) hx hb dL_leastBid_18 (by decide) ?_
    obtain ⟨q52, hq52, hf⟩ := bd_some hf
    refine g_callVi S (As := [.int i1, .int (4:Int32)]) (gs' := [maW a0 (a1 0) (a2 0) (a3 0) (a4 0) (a7 0 0) (a8 0) (a9 0) (a9 1), stW G a1 v1, stW G a2 q1.2.1, rdW G a3 q1.2.2, paW G a7 v7]) (c_X5_member l G a0 a1 a2 a3 a4 a5 a6 a7 a8 a9 a10 a11 v1 i1 (4:Int32) hq52) (cwV 2 hts gL_leastBid_X5_member rfl rfl rfl hd_X5_member ⟨Nat.le_of_ble_eq_true rfl, Nat.le_of_ble_eq_true rfl⟩) hK hP hD hS hA (is := [0, 1]) rfl rfl 0 rfl rfl rfl rfl hl.1 rfl (Nat.le_of_ble_eq_true rfl) dL_leastBid_19 ⟨Nat.le_of_ble_eq_true rfl, Nat.le_of_ble_eq_true rfl⟩ rfl (fun H locs hP hD hS => ?_)
    refine lv_if_ne (tgt := 29) hx hb dL_leastBid_22 (by decide) (fun c53 => ?_) (fun c53 => ?_)
    · rw [if_neg c53] at hf
      refine lv_iconst (v := (0:Int32)) hx hb dL_leastBid_29 (by decide) ?_
      refine lv_istore_n (lv' := [(3, .int (0:Int32)), (2, .int q1.1), (0, .ref (a0 0)), (1, .int i1)]) hx hb dL_leastBid_30 rfl hl (by decide) rfl (fun ls hl => ?_)
      refine lv_iload_n hx hb dL_leastBid_31 rfl (lv_at hl 0 rfl) ?_
      refine lv_if_ne (tgt := 47) hx hb dL_leastBid_32 (by decide) (fun c54 => ?_) (fun c54 => ?_)
      · rw [if_neg c54] at hf
        refine lv_aload_n hx hb dL_leastBid_47 rfl (lv_at hl 2 rfl) ?_
        refine lv_iload_n hx hb dL_leastBid_48 rfl (lv_at hl 3 rfl) ?_
        refine lv_iconst (v := (2:Int32)) hx hb dL_leastBid_49 (by decide) ?_
        obtain ⟨q55, hq55, hf⟩ := bd_some hf
        refine g_callVi S (As := [.int i1, .int (2:Int32)]) (gs' := [maW a0 (a1 0) (a2 0) (a3 0) (a4 0) (a7 0 0) (a8 0) (a9 0) (a9 1), stW G a1 v1, stW G a2 q1.2.1, rdW G a3 q1.2.2, paW G a7 v7]) (c_X5_member l G a0 a1 a2 a3 a4 a5 a6 a7 a8 a9 a10 a11 v1 i1 (2:Int32) hq55) (cwV 2 hts gL_leastBid_X5_member rfl rfl rfl hd_X5_member ⟨Nat.le_of_ble_eq_true rfl, Nat.le_of_ble_eq_true rfl⟩) hK hP hD hS hA (is := [0, 1]) rfl rfl 0 rfl rfl rfl rfl hl.1 rfl (Nat.le_of_ble_eq_true rfl) dL_leastBid_50 ⟨Nat.le_of_ble_eq_true rfl, Nat.le_of_ble_eq_true rfl⟩ rfl (fun H locs hP hD hS => ?_)
        refine lv_istore (lv' := [(4, .int q55.1), (3, .int (0:Int32)), (2, .int q1.1), (0, .ref (a0 0)), (1, .int i1)]) hx hb dL_leastBid_53 hl (by decide) rfl (fun ls hl => ?_)
        refine lv_iload_n hx hb dL_leastBid_55 rfl (lv_at hl 2 rfl) ?_
        refine lv_ldc (v := (-99999:Int32)) hx hb hown (hts _ kL_leastBid_0) dL_leastBid_56 ?_
        refine lv_icmp_ne (tgt := 95) hx hb dL_leastBid_58 (by decide) (fun c56 => ?_) (fun c56 => ?_)
        · rw [if_neg c56] at hf
          refine lv_aload_n hx hb dL_leastBid_95 rfl (lv_at hl 3 rfl) ?_
          refine lv_iload_n hx hb dL_leastBid_96 rfl (lv_at hl 4 rfl) ?_
          refine lv_iload_n hx hb dL_leastBid_97 rfl (lv_at hl 2 rfl) ?_
          obtain ⟨q57, hq57, hf⟩ := bd_some hf
          refine g_callVi S (As := [.int i1, .int q1.1]) (gs' := [maW a0 (a1 0) (a2 0) (a3 0) (a4 0) (a7 0 0) (a8 0) (a9 0) (a9 1), stW G a1 q57.2.1, stW G a2 q1.2.1, rdW G a3 q1.2.2, paW G a7 q57.2.2]) (c_X5_bid l G a0 a1 a2 a3 a4 a5 a6 a7 a8 a9 a10 a11 v1 v7 i1 q1.1 hq57) (cwV 2 hts gL_leastBid_X5_bid rfl rfl rfl hd_X5_bid ⟨Nat.le_of_ble_eq_true rfl, Nat.le_of_ble_eq_true rfl⟩) hK hP hD hS hA (is := [0, 1, 4]) rfl rfl 0 rfl rfl rfl rfl hl.1 rfl (Nat.le_of_ble_eq_true rfl) dL_leastBid_98 ⟨Nat.le_of_ble_eq_true rfl, Nat.le_of_ble_eq_true rfl⟩ rfl (fun H locs hP hD hS => ?_)
          refine lv_iload hx hb dL_leastBid_101 (lv_at hl 0 rfl) ?_
          refine lv_icmp_ne (tgt := 125) hx hb dL_leastBid_103 (by decide) (fun c58 => ?_) (fun c58 => ?_)
          · rw [if_neg c58] at hf
            refine lv_iconst (v := (0:Int32)) hx hb dL_leastBid_125 (by decide) ?_
            refine lv_istore (lv' := [(5, .int (0:Int32)), (4, .int q55.1), (3, .int (0:Int32)), (2, .int q1.1), (0, .ref (a0 0)), (1, .int i1)]) hx hb dL_leastBid_126 hl (by decide) rfl (fun ls hl => ?_)
            refine lv_iload hx hb dL_leastBid_128 (lv_at hl 0 rfl) ?_
            refine lv_if_eq (tgt := 169) hx hb dL_leastBid_130 (by decide) (fun c59 => ?_) (fun c59 => ?_)
            · rw [if_pos c59] at hf
              refine lv_iconst (v := (0:Int32)) hx hb dL_leastBid_169 (by decide) ?_
              cases hf
              exact g_zret hx hb hr gz0 hlocks hP hS dL_leastBid_170
            · rw [if_neg c59] at hf
              refine lv_iload_n hx hb dL_leastBid_133 rfl (lv_at hl 3 rfl) ?_
              refine lv_if_eq (tgt := 165) hx hb dL_leastBid_134 (by decide) (fun c60 => ?_) (fun c60 => ?_)
              · rw [if_pos c60] at hf
                refine lv_iconst (v := (1:Int32)) hx hb dL_leastBid_165 (by decide) ?_
                refine lv_goto (tgt := 170) hx hb dL_leastBid_166 (by decide) ?_
                cases hf
                exact g_zret hx hb hr gz1 hlocks hP hS dL_leastBid_170
              · rw [if_neg c60] at hf
                refine lv_aload_n hx hb dL_leastBid_137 rfl (lv_at hl 4 rfl) ?_
                refine lv_iload_n hx hb dL_leastBid_138 rfl (lv_at hl 5 rfl) ?_
                refine lv_iload_n hx hb dL_leastBid_139 rfl (lv_at hl 3 rfl) ?_
                refine lv_iconst (v := (1:Int32)) hx hb dL_leastBid_140 (by decide) ?_
                refine lv_isub hx hb dL_leastBid_141 ?_
                obtain ⟨q61, hq61, hf⟩ := bd_some hf
                refine g_callVi S (As := [.int i1, .int (q1.1 - (1:Int32))]) (gs' := [maW a0 (a1 0) (a2 0) (a3 0) (a4 0) (a7 0 0) (a8 0) (a9 0) (a9 1), stW G a1 q61.2.1, stW G a2 q1.2.1, rdW G a3 q1.2.2, paW G a7 q61.2.2]) (c_X5_bid l G a0 a1 a2 a3 a4 a5 a6 a7 a8 a9 a10 a11 q57.2.1 q57.2.2 i1 (q1.1 - (1:Int32)) hq61) (cwV 2 hts gL_leastBid_X5_bid rfl rfl rfl hd_X5_bid ⟨Nat.le_of_ble_eq_true rfl, Nat.le_of_ble_eq_true rfl⟩) hK hP hD hS hA (is := [0, 1, 4]) rfl rfl 0 rfl rfl rfl rfl hl.1 rfl (Nat.le_of_ble_eq_true rfl) dL_leastBid_142 ⟨Nat.le_of_ble_eq_true rfl, Nat.le_of_ble_eq_true rfl⟩ rfl (fun H locs hP hD hS => ?_)
                refine lv_iload hx hb dL_leastBid_145 (lv_at hl 1 rfl) ?_
                refine lv_icmp_ne (tgt := 169) hx hb dL_leastBid_147 (by decide) (fun c62 => ?_) (fun c62 => ?_)
                · rw [if_neg c62] at hf
                  refine lv_iconst (v := (0:Int32)) hx hb dL_leastBid_169 (by decide) ?_
                  cases hf
                  exact g_zret hx hb hr gz0 hlocks hP hS dL_leastBid_170
                · rw [if_pos c62] at hf
                  refine lv_aload_n hx hb dL_leastBid_150 rfl (lv_at hl 4 rfl) ?_
                  obtain ⟨q63, hq63, hf⟩ := bd_some hf
                  refine g_callVi S (As := []) (gs' := [maW a0 (a1 0) (a2 0) (a3 0) (a4 0) (a7 0 0) (a8 0) (a9 0) (a9 1), stW G a1 q61.2.1, stW G a2 q63.2.1, rdW G a3 q63.2.2, paW G a7 q61.2.2]) (c_X5_winner l G a0 a1 a2 a3 a4 a5 a6 a7 a8 a9 a10 a11 q61.2.1 q1.2.1 q1.2.2 hq63) (cwV 0 hts gL_leastBid_X5_winner rfl rfl rfl hd_X5_winner ⟨Nat.le_of_ble_eq_true rfl, Nat.le_of_ble_eq_true rfl⟩) hK hP hD hS hA (is := [0, 1, 2, 3]) rfl rfl 0 rfl rfl rfl rfl hl.1 rfl (Nat.le_of_ble_eq_true rfl) dL_leastBid_151 ⟨Nat.le_of_ble_eq_true rfl, Nat.le_of_ble_eq_true rfl⟩ rfl (fun H locs hP hD hS => ?_)
                  refine lv_iload_n hx hb dL_leastBid_154 rfl (lv_at hl 5 rfl) ?_
                  refine lv_icmp_eq (tgt := 169) hx hb dL_leastBid_155 (by decide) (fun c64 => ?_) (fun c64 => ?_)
                  · rw [if_pos c64] at hf
                    refine lv_iconst (v := (0:Int32)) hx hb dL_leastBid_169 (by decide) ?_
                    cases hf
                    exact g_zret hx hb hr gz0 hlocks hP hS dL_leastBid_170
                  · rw [if_neg c64] at hf
                    refine lv_aload_n hx hb dL_leastBid_158 rfl (lv_at hl 4 rfl) ?_
                    obtain ⟨q65, hq65, hf⟩ := bd_some hf
                    refine g_callVi S (As := []) (gs' := [maW a0 (a1 0) (a2 0) (a3 0) (a4 0) (a7 0 0) (a8 0) (a9 0) (a9 1), stW G a1 q65.2.1, stW G a2 q63.2.1, rdW G a3 q63.2.2, paW G a7 q65.2.2]) (c_X5_undo l G a0 a1 a2 a3 a4 a5 a6 a7 a8 a9 a10 a11 q61.2.1 q61.2.2 hq65) (cwV 0 hts gL_leastBid_X5_undo rfl rfl rfl hd_X5_undo ⟨Nat.le_of_ble_eq_true rfl, Nat.le_of_ble_eq_true rfl⟩) hK hP hD hS hA (is := [0, 1, 4]) rfl rfl 0 rfl rfl rfl rfl hl.1 rfl (Nat.le_of_ble_eq_true rfl) dL_leastBid_159 ⟨Nat.le_of_ble_eq_true rfl, Nat.le_of_ble_eq_true rfl⟩ rfl (fun H locs hP hD hS => ?_)
                    refine lv_if_lt (tgt := 169) hx hb dL_leastBid_162 (by decide) (fun c66 => ?_) (fun c66 => ?_)
                    · rw [if_pos c66] at hf
                      refine lv_iconst (v := (0:Int32)) hx hb dL_leastBid_169 (by decide) ?_
                      cases hf
                      exact g_zret hx hb hr gz0 hlocks hP hS dL_leastBid_170
                    · rw [if_neg c66] at hf
                      refine lv_iconst (v := (1:Int32)) hx hb dL_leastBid_165 (by decide) ?_
                      refine lv_goto (tgt := 170) hx hb dL_leastBid_166 (by decide) ?_
                      cases hf
                      exact g_zret hx hb hr gz1 hlocks hP hS dL_leastBid_170
          · rw [if_pos c58] at hf
            refine lv_aload_n hx hb dL_leastBid_106 rfl (lv_at hl 3 rfl) ?_
            obtain ⟨q67, hq67, hf⟩ := bd_some hf
            refine g_callVi S (As := []) (gs' := [maW a0 (a1 0) (a2 0) (a3 0) (a4 0) (a7 0 0) (a8 0) (a9 0) (a9 1), stW G a1 q57.2.1, stW G a2 q67.2.1, rdW G a3 q67.2.2, paW G a7 q57.2.2]) (c_X5_winner l G a0 a1 a2 a3 a4 a5 a6 a7 a8 a9 a10 a11 q57.2.1 q1.2.1 q1.2.2 hq67) (cwV 0 hts gL_leastBid_X5_winner rfl rfl rfl hd_X5_winner ⟨Nat.le_of_ble_eq_true rfl, Nat.le_of_ble_eq_true rfl⟩) hK hP hD hS hA (is := [0, 1, 2, 3]) rfl rfl 0 rfl rfl rfl rfl hl.1 rfl (Nat.le_of_ble_eq_true rfl) dL_leastBid_107 ⟨Nat.le_of_ble_eq_true rfl, Nat.le_of_ble_eq_true rfl⟩ rfl (fun H locs hP hD hS => ?_)
            refine lv_iload_n hx hb dL_leastBid_110 rfl (lv_at hl 4 rfl) ?_
            refine lv_icmp_ne (tgt := 125) hx hb dL_leastBid_111 (by decide) (fun c68 => ?_) (fun c68 => ?_)
            · rw [if_neg c68] at hf
              refine lv_iconst (v := (0:Int32)) hx hb dL_leastBid_125 (by decide) ?_
              refine lv_istore (lv' := [(5, .int (0:Int32)), (4, .int q55.1), (3, .int (0:Int32)), (2, .int q1.1), (0, .ref (a0 0)), (1, .int i1)]) hx hb dL_leastBid_126 hl (by decide) rfl (fun ls hl => ?_)
              refine lv_iload hx hb dL_leastBid_128 (lv_at hl 0 rfl) ?_
              refine lv_if_eq (tgt := 169) hx hb dL_leastBid_130 (by decide) (fun c69 => ?_) (fun c69 => ?_)
              · rw [if_pos c69] at hf
                refine lv_iconst (v := (0:Int32)) hx hb dL_leastBid_169 (by decide) ?_
                cases hf
                exact g_zret hx hb hr gz0 hlocks hP hS dL_leastBid_170
              · rw [if_neg c69] at hf
                refine lv_iload_n hx hb dL_leastBid_133 rfl (lv_at hl 3 rfl) ?_
                refine lv_if_eq (tgt := 165) hx hb dL_leastBid_134 (by decide) (fun c70 => ?_) (fun c70 => ?_)
                · rw [if_pos c70] at hf
                  refine lv_iconst (v := (1:Int32)) hx hb dL_leastBid_165 (by decide) ?_
                  refine lv_goto (tgt := 170) hx hb dL_leastBid_166 (by decide) ?_
                  cases hf
                  exact g_zret hx hb hr gz1 hlocks hP hS dL_leastBid_170
                · rw [if_neg c70] at hf
                  refine lv_aload_n hx hb dL_leastBid_137 rfl (lv_at hl 4 rfl) ?_
                  refine lv_iload_n hx hb dL_leastBid_138 rfl (lv_at hl 5 rfl) ?_
                  refine lv_iload_n hx hb dL_leastBid_139 rfl (lv_at hl 3 rfl) ?_
                  refine lv_iconst (v := (1:Int32)) hx hb dL_leastBid_140 (by decide) ?_
                  refine lv_isub hx hb dL_leastBid_141 ?_
                  obtain ⟨q71, hq71, hf⟩ := bd_some hf
                  refine g_callVi S (As := [.int i1, .int (q1.1 - (1:Int32))]) (gs' := [maW a0 (a1 0) (a2 0) (a3 0) (a4 0) (a7 0 0) (a8 0) (a9 0) (a9 1), stW G a1 q71.2.1, stW G a2 q67.2.1, rdW G a3 q67.2.2, paW G a7 q71.2.2]) (c_X5_bid l G a0 a1 a2 a3 a4 a5 a6 a7 a8 a9 a10 a11 q57.2.1 q57.2.2 i1 (q1.1 - (1:Int32)) hq71) (cwV 2 hts gL_leastBid_X5_bid rfl rfl rfl hd_X5_bid ⟨Nat.le_of_ble_eq_true rfl, Nat.le_of_ble_eq_true rfl⟩) hK hP hD hS hA (is := [0, 1, 4]) rfl rfl 0 rfl rfl rfl rfl hl.1 rfl (Nat.le_of_ble_eq_true rfl) dL_leastBid_142 ⟨Nat.le_of_ble_eq_true rfl, Nat.le_of_ble_eq_true rfl⟩ rfl (fun H locs hP hD hS => ?_)
                  refine lv_iload hx hb dL_leastBid_145 (lv_at hl 1 rfl) ?_
                  refine lv_icmp_ne (tgt := 169) hx hb dL_leastBid_147 (by decide) (fun c72 => ?_) (fun c72 => ?_)
                  · rw [if_neg c72] at hf
                    refine lv_iconst (v := (0:Int32)) hx hb dL_leastBid_169 (by decide) ?_
                    cases hf
                    exact g_zret hx hb hr gz0 hlocks hP hS dL_leastBid_170
                  · rw [if_pos c72] at hf
                    refine lv_aload_n hx hb dL_leastBid_150 rfl (lv_at hl 4 rfl) ?_
                    obtain ⟨q73, hq73, hf⟩ := bd_some hf
                    refine g_callVi S (As := []) (gs' := [maW a0 (a1 0) (a2 0) (a3 0) (a4 0) (a7 0 0) (a8 0) (a9 0) (a9 1), stW G a1 q71.2.1, stW G a2 q73.2.1, rdW G a3 q73.2.2, paW G a7 q71.2.2]) (c_X5_winner l G a0 a1 a2 a3 a4 a5 a6 a7 a8 a9 a10 a11 q71.2.1 q67.2.1 q67.2.2 hq73) (cwV 0 hts gL_leastBid_X5_winner rfl rfl rfl hd_X5_winner ⟨Nat.le_of_ble_eq_true rfl, Nat.le_of_ble_eq_true rfl⟩) hK hP hD hS hA (is := [0, 1, 2, 3]) rfl rfl 0 rfl rfl rfl rfl hl.1 rfl (Nat.le_of_ble_eq_true rfl) dL_leastBid_151 ⟨Nat.le_of_ble_eq_true rfl, Nat.le_of_ble_eq_true rfl⟩ rfl (fun H locs hP hD hS => ?_)
                    refine lv_iload_n hx hb dL_leastBid_154 rfl (lv_at hl 5 rfl) ?_
                    refine lv_icmp_eq (tgt := 169) hx hb dL_leastBid_155 (by decide) (fun c74 => ?_) (fun c74 => ?_)
                    · rw [if_pos c74] at hf
                      refine lv_iconst (v := (0:Int32)) hx hb dL_leastBid_169 (by decide) ?_
                      cases hf
                      exact g_zret hx hb hr gz0 hlocks hP hS dL_leastBid_170
                    · rw [if_neg c74] at hf
                      refine lv_aload_n hx hb dL_leastBid_158 rfl (lv_at hl 4 rfl) ?_
                      obtain ⟨q75, hq75, hf⟩ := bd_some hf
                      refine g_callVi S (As := []) (gs' := [maW a0 (a1 0) (a2 0) (a3 0) (a4 0) (a7 0 0) (a8 0) (a9 0) (a9 1), stW G a1 q75.2.1, stW G a2 q73.2.1, rdW G a3 q73.2.2, paW G a7 q75.2.2]) (c_X5_undo l G a0 a1 a2 a3 a4 a5 a6 a7 a8 a9 a10 a11 q71.2.1 q71.2.2 hq75) (cwV 0 hts gL_leastBid_X5_undo rfl rfl rfl hd_X5_undo ⟨Nat.le_of_ble_eq_true rfl, Nat.le_of_ble_eq_true rfl⟩) hK hP hD hS hA (is := [0, 1, 4]) rfl rfl 0 rfl rfl rfl rfl hl.1 rfl (Nat.le_of_ble_eq_true rfl) dL_leastBid_159 ⟨Nat.le_of_ble_eq_true rfl, Nat.le_of_ble_eq_true rfl⟩ rfl (fun H locs hP hD hS => ?_)
                      refine lv_if_lt (tgt := 169) hx hb dL_leastBid_162 (by decide) (fun c76 => ?_) (fun c76 => ?_)
                      · rw [if_pos c76] at hf
                        refine lv_iconst (v := (0:Int32)) hx hb dL_leastBid_169 (by decide) ?_
                        cases hf
                        exact g_zret hx hb hr gz0 hlocks hP hS dL_leastBid_170
                      · rw [if_neg c76] at hf
                        refine lv_iconst (v := (1:Int32)) hx hb dL_leastBid_165 (by decide) ?_
                        refine lv_goto (tgt := 170) hx hb dL_leastBid_166 (by decide) ?_
                        cases hf
                        exact g_zret hx hb hr gz1 hlocks hP hS dL_leastBid_170
            · rw [if_pos c68] at hf
              refine lv_aload_n hx hb dL_leastBid_114 rfl (lv_at hl 3 rfl) ?_
              obtain ⟨q77, hq77, hf⟩ := bd_some hf
              refine g_callVi S (As := []) (gs' := [maW a0 (a1 0) (a2 0) (a3 0) (a4 0) (a7 0 0) (a8 0) (a9 0) (a9 1), stW G a1 q77.2.1, stW G a2 q67.2.1, rdW G a3 q67.2.2, paW G a7 q77.2.2]) (c_X5_undo l G a0 a1 a2 a3 a4 a5 a6 a7 a8 a9 a10 a11 q57.2.1 q57.2.2 hq77) (cwV 0 hts gL_leastBid_X5_undo rfl rfl rfl hd_X5_undo ⟨Nat.le_of_ble_eq_true rfl, Nat.le_of_ble_eq_true rfl⟩) hK hP hD hS hA (is := [0, 1, 4]) rfl rfl 0 rfl rfl rfl rfl hl.1 rfl (Nat.le_of_ble_eq_true rfl) dL_leastBid_115 ⟨Nat.le_of_ble_eq_true rfl, Nat.le_of_ble_eq_true rfl⟩ rfl (fun H locs hP hD hS => ?_)
              refine lv_if_lt (tgt := 125) hx hb dL_leastBid_118 (by decide) (fun c78 => ?_) (fun c78 => ?_)
              · rw [if_pos c78] at hf
                refine lv_iconst (v := (0:Int32)) hx hb dL_leastBid_125 (by decide) ?_
                refine lv_istore (lv' := [(5, .int (0:Int32)), (4, .int q55.1), (3, .int (0:Int32)), (2, .int q1.1), (0, .ref (a0 0)), (1, .int i1)]) hx hb dL_leastBid_126 hl (by decide) rfl (fun ls hl => ?_)
                refine lv_iload hx hb dL_leastBid_128 (lv_at hl 0 rfl) ?_
                refine lv_if_eq (tgt := 169) hx hb dL_leastBid_130 (by decide) (fun c79 => ?_) (fun c79 => ?_)
                · rw [if_pos c79] at hf
                  refine lv_iconst (v := (0:Int32)) hx hb dL_leastBid_169 (by decide) ?_
                  cases hf
                  exact g_zret hx hb hr gz0 hlocks hP hS dL_leastBid_170
                · rw [if_neg c79] at hf
                  refine lv_iload_n hx hb dL_leastBid_133 rfl (lv_at hl 3 rfl) ?_
                  refine lv_if_eq (tgt := 165) hx hb dL_leastBid_134 (by decide) (fun c80 => ?_) (fun c80 => ?_)
                  · rw [if_pos c80] at hf
                    refine lv_iconst (v := (1:Int32)) hx hb dL_leastBid_165 (by decide) ?_
                    refine lv_goto (tgt := 170) hx hb dL_leastBid_166 (by decide) ?_
                    cases hf
                    exact g_zret hx hb hr gz1 hlocks hP hS dL_leastBid_170
                  · rw [if_neg c80] at hf
                    refine lv_aload_n hx hb dL_leastBid_137 rfl (lv_at hl 4 rfl) ?_
                    refine lv_iload_n hx hb dL_leastBid_138 rfl (lv_at hl 5 rfl) ?_
                    refine lv_iload_n hx hb dL_leastBid_139 rfl (lv_at hl 3 rfl) ?_
                    refine lv_iconst (v := (1:Int32)) hx hb dL_leastBid_140 (by decide) ?_
                    refine lv_isub hx hb dL_leastBid_141 ?_
                    obtain ⟨q81, hq81, hf⟩ := bd_some hf
                    refine g_callVi S (As := [.int i1, .int (q1.1 - (1:Int32))]) (gs' := [maW a0 (a1 0) (a2 0) (a3 0) (a4 0) (a7 0 0) (a8 0) (a9 0) (a9 1), stW G a1 q81.2.1, stW G a2 q67.2.1, rdW G a3 q67.2.2, paW G a7 q81.2.2]) (c_X5_bid l G a0 a1 a2 a3 a4 a5 a6 a7 a8 a9 a10 a11 q77.2.1 q77.2.2 i1 (q1.1 - (1:Int32)) hq81) (cwV 2 hts gL_leastBid_X5_bid rfl rfl rfl hd_X5_bid ⟨Nat.le_of_ble_eq_true rfl, Nat.le_of_ble_eq_true rfl⟩) hK hP hD hS hA (is := [0, 1, 4]) rfl rfl 0 rfl rfl rfl rfl hl.1 rfl (Nat.le_of_ble_eq_true rfl) dL_leastBid_142 ⟨Nat.le_of_ble_eq_true rfl, Nat.le_of_ble_eq_true rfl⟩ rfl (fun H locs hP hD hS => ?_)
                    refine lv_iload hx hb dL_leastBid_145 (lv_at hl 1 rfl) ?_
                    refine lv_icmp_ne (tgt := 169) hx hb dL_leastBid_147 (by decide) (fun c82 => ?_) (fun c82 => ?_)
                    · rw [if_neg c82] at hf
                      refine lv_iconst (v := (0:Int32)) hx hb dL_leastBid_169 (by decide) ?_
                      cases hf
                      exact g_zret hx hb hr gz0 hlocks hP hS dL_leastBid_170
                    · rw [if_pos c82] at hf
                      refine lv_aload_n hx hb dL_leastBid_150 rfl (lv_at hl 4 rfl) ?_
                      obtain ⟨q83, hq83, hf⟩ := bd_some hf
                      refine g_callVi S (As := []) (gs' := [maW a0 (a1 0) (a2 0) (a3 0) (a4 0) (a7 0 0) (a8 0) (a9 0) (a9 1), stW G a1 q81.2.1, stW G a2 q83.2.1, rdW G a3 q83.2.2, paW G a7 q81.2.2]) (c_X5_winner l G a0 a1 a2 a3 a4 a5 a6 a7 a8 a9 a10 a11 q81.2.1 q67.2.1 q67.2.2 hq83) (cwV 0 hts gL_leastBid_X5_winner rfl rfl rfl hd_X5_winner ⟨Nat.le_of_ble_eq_true rfl, Nat.le_of_ble_eq_true rfl⟩) hK hP hD hS hA (is := [0, 1, 2, 3]) rfl rfl 0 rfl rfl rfl rfl hl.1 rfl (Nat.le_of_ble_eq_true rfl) dL_leastBid_151 ⟨Nat.le_of_ble_eq_true rfl, Nat.le_of_ble_eq_true rfl⟩ rfl (fun H locs hP hD hS => ?_)
                      refine lv_iload_n hx hb dL_leastBid_154 rfl (lv_at hl 5 rfl) ?_
                      refine lv_icmp_eq (tgt := 169) hx hb dL_leastBid_155 (by decide) (fun c84 => ?_) (fun c84 => ?_)
                      · rw [if_pos c84] at hf
                        refine lv_iconst (v := (0:Int32)) hx hb dL_leastBid_169 (by decide) ?_
                        cases hf
                        exact g_zret hx hb hr gz0 hlocks hP hS dL_leastBid_170
                      · rw [if_neg c84] at hf
                        refine lv_aload_n hx hb dL_leastBid_158 rfl (lv_at hl 4 rfl) ?_
                        obtain ⟨q85, hq85, hf⟩ := bd_some hf
                        refine g_callVi S (As := []) (gs' := [maW a0 (a1 0) (a2 0) (a3 0) (a4 0) (a7 0 0) (a8 0) (a9 0) (a9 1), stW G a1 q85.2.1, stW G a2 q83.2.1, rdW G a3 q83.2.2, paW G a7 q85.2.2]) (c_X5_undo l G a0 a1 a2 a3 a4 a5 a6 a7 a8 a9 a10 a11 q81.2.1 q81.2.2 hq85) (cwV 0 hts gL_leastBid_X5_undo rfl rfl rfl hd_X5_undo ⟨Nat.le_of_ble_eq_true rfl, Nat.le_of_ble_eq_true rfl⟩) hK hP hD hS hA (is := [0, 1, 4]) rfl rfl 0 rfl rfl rfl rfl hl.1 rfl (Nat.le_of_ble_eq_true rfl) dL_leastBid_159 ⟨Nat.le_of_ble_eq_true rfl, Nat.le_of_ble_eq_true rfl⟩ rfl (fun H locs hP hD hS => ?_)
                        refine lv_if_lt (tgt := 169) hx hb dL_leastBid_162 (by decide) (fun c86 => ?_) (fun c86 => ?_)
                        · rw [if_pos c86] at hf
                          refine lv_iconst (v := (0:Int32)) hx hb dL_leastBid_169 (by decide) ?_
                          cases hf
                          exact g_zret hx hb hr gz0 hlocks hP hS dL_leastBid_170
                        · rw [if_neg c86] at hf
                          refine lv_iconst (v := (1:Int32)) hx hb dL_leastBid_165 (by decide) ?_
                          refine lv_goto (tgt := 170) hx hb dL_leastBid_166 (by decide) ?_
                          cases hf
                          exact g_zret hx hb hr gz1 hlocks hP hS dL_leastBid_170
              · rw [if_neg c78] at hf
                refine lv_iconst (v := (1:Int32)) hx hb dL_leastBid_121 (by decide) ?_
                refine lv_goto (tgt := 126) hx hb dL_leastBid_122 (by decide) ?_
                refine lv_istore (lv' := [(5, .int (1:Int32)), (4, .int q55.1), (3, .int (0:Int32)), (2, .int q1.1), (0, .ref (a0 0)), (1, .int i1)]) hx hb dL_leastBid_126 hl (by decide) rfl (fun ls hl => ?_)
                refine lv_iload hx hb dL_leastBid_128 (lv_at hl 0 rfl) ?_
                refine lv_if_eq (tgt := 169) hx hb dL_leastBid_130 (by decide) (fun c87 => ?_) (fun c87 => ?_)
                · rw [if_pos c87] at hf
                  refine lv_iconst (v := (0:Int32)) hx hb dL_leastBid_169 (by decide) ?_
                  cases hf
                  exact g_zret hx hb hr gz0 hlocks hP hS dL_leastBid_170
                · rw [if_neg c87] at hf
                  refine lv_iload_n hx hb dL_leastBid_133 rfl (lv_at hl 3 rfl) ?_
                  refine lv_if_eq (tgt := 165) hx hb dL_leastBid_134 (by decide) (fun c88 => ?_) (fun c88 => ?_)
                  · rw [if_pos c88] at hf
                    refine lv_iconst (v := (1:Int32)) hx hb dL_leastBid_165 (by decide) ?_
                    refine lv_goto (tgt := 170) hx hb dL_leastBid_166 (by decide) ?_
                    cases hf
                    exact g_zret hx hb hr gz1 hlocks hP hS dL_leastBid_170
                  · rw [if_neg c88] at hf
                    refine lv_aload_n hx hb dL_leastBid_137 rfl (lv_at hl 4 rfl) ?_
                    refine lv_iload_n hx hb dL_leastBid_138 rfl (lv_at hl 5 rfl) ?_
                    refine lv_iload_n hx hb dL_leastBid_139 rfl (lv_at hl 3 rfl) ?_
                    refine lv_iconst (v := (1:Int32)) hx hb dL_leastBid_140 (by decide) ?_
                    refine lv_isub hx hb dL_leastBid_141 ?_
                    obtain ⟨q89, hq89, hf⟩ := bd_some hf
                    refine g_callVi S (As := [.int i1, .int (q1.1 - (1:Int32))]) (gs' := [maW a0 (a1 0) (a2 0) (a3 0) (a4 0) (a7 0 0) (a8 0) (a9 0) (a9 1), stW G a1 q89.2.1, stW G a2 q67.2.1, rdW G a3 q67.2.2, paW G a7 q89.2.2]) (c_X5_bid l G a0 a1 a2 a3 a4 a5 a6 a7 a8 a9 a10 a11 q77.2.1 q77.2.2 i1 (q1.1 - (1:Int32)) hq89) (cwV 2 hts gL_leastBid_X5_bid rfl rfl rfl hd_X5_bid ⟨Nat.le_of_ble_eq_true rfl, Nat.le_of_ble_eq_true rfl⟩) hK hP hD hS hA (is := [0, 1, 4]) rfl rfl 0 rfl rfl rfl rfl hl.1 rfl (Nat.le_of_ble_eq_true rfl) dL_leastBid_142 ⟨Nat.le_of_ble_eq_true rfl, Nat.le_of_ble_eq_true rfl⟩ rfl (fun H locs hP hD hS => ?_)
                    refine lv_iload hx hb dL_leastBid_145 (lv_at hl 1 rfl) ?_
                    refine lv_icmp_ne (tgt := 169) hx hb dL_leastBid_147 (by decide) (fun c90 => ?_) (fun c90 => ?_)
                    · rw [if_neg c90] at hf
                      refine lv_iconst (v := (0:Int32)) hx hb dL_leastBid_169 (by decide) ?_
                      cases hf
                      exact g_zret hx hb hr gz0 hlocks hP hS dL_leastBid_170
                    · rw [if_pos c90] at hf
                      refine lv_aload_n hx hb dL_leastBid_150 rfl (lv_at hl 4 rfl) ?_
                      obtain ⟨q91, hq91, hf⟩ := bd_some hf
                      refine g_callVi S (As := []) (gs' := [maW a0 (a1 0) (a2 0) (a3 0) (a4 0) (a7 0 0) (a8 0) (a9 0) (a9 1), stW G a1 q89.2.1, stW G a2 q91.2.1, rdW G a3 q91.2.2, paW G a7 q89.2.2]) (c_X5_winner l G a0 a1 a2 a3 a4 a5 a6 a7 a8 a9 a10 a11 q89.2.1 q67.2.1 q67.2.2 hq91) (cwV 0 hts gL_leastBid_X5_winner rfl rfl rfl hd_X5_winner ⟨Nat.le_of_ble_eq_true rfl, Nat.le_of_ble_eq_true rfl⟩) hK hP hD hS hA (is := [0, 1, 2, 3]) rfl rfl 0 rfl rfl rfl rfl hl.1 rfl (Nat.le_of_ble_eq_true rfl) dL_leastBid_151 ⟨Nat.le_of_ble_eq_true rfl, Nat.le_of_ble_eq_true rfl⟩ rfl (fun H locs hP hD hS => ?_)
                      refine lv_iload_n hx hb dL_leastBid_154 rfl (lv_at hl 5 rfl) ?_
                      refine lv_icmp_eq (tgt := 169) hx hb dL_leastBid_155 (by decide) (fun c92 => ?_) (fun c92 => ?_)
                      · rw [if_pos c92] at hf
                        refine lv_iconst (v := (0:Int32)) hx hb dL_leastBid_169 (by decide) ?_
                        cases hf
                        exact g_zret hx hb hr gz0 hlocks hP hS dL_leastBid_170
                      · rw [if_neg c92] at hf
                        refine lv_aload_n hx hb dL_leastBid_158 rfl (lv_at hl 4 rfl) ?_
                        obtain ⟨q93, hq93, hf⟩ := bd_some hf
                        refine g_callVi S (As := []) (gs' := [maW a0 (a1 0) (a2 0) (a3 0) (a4 0) (a7 0 0) (a8 0) (a9 0) (a9 1), stW G a1 q93.2.1, stW G a2 q91.2.1, rdW G a3 q91.2.2, paW G a7 q93.2.2]) (c_X5_undo l G a0 a1 a2 a3 a4 a5 a6 a7 a8 a9 a10 a11 q89.2.1 q89.2.2 hq93) (cwV 0 hts gL_leastBid_X5_undo rfl rfl rfl hd_X5_undo ⟨Nat.le_of_ble_eq_true rfl, Nat.le_of_ble_eq_true rfl⟩) hK hP hD hS hA (is := [0, 1, 4]) rfl rfl 0 rfl rfl rfl rfl hl.1 rfl (Nat.le_of_ble_eq_true rfl) dL_leastBid_159 ⟨Nat.le_of_ble_eq_true rfl, Nat.le_of_ble_eq_true rfl⟩ rfl (fun H locs hP hD hS => ?_)
                        refine lv_if_lt (tgt := 169) hx hb dL_leastBid_162 (by decide) (fun c94 => ?_) (fun c94 => ?_)
                        · rw [if_pos c94] at hf
                          refine lv_iconst (v := (0:Int32)) hx hb dL_leastBid_169 (by decide) ?_
                          cases hf
                          exact g_zret hx hb hr gz0 hlocks hP hS dL_leastBid_170
                        · rw [if_neg c94] at hf
                          refine lv_iconst (v := (1:Int32)) hx hb dL_leastBid_165 (by decide) ?_
                          refine lv_goto (tgt := 170) hx hb dL_leastBid_166 (by decide) ?_
                          cases hf
                          exact g_zret hx hb hr gz1 hlocks hP hS dL_leastBid_170
        · rw [if_pos c56] at hf
          refine lv_aload_n hx hb dL_leastBid_61 rfl (lv_at hl 3 rfl) ?_
          refine lv_iload_n hx hb dL_leastBid_62 rfl (lv_at hl 4 rfl) ?_
          refine lv_sipush (v := (999:Int32)) hx hb dL_leastBid_63 (by decide) ?_
          obtain ⟨q95, hq95, hf⟩ := bd_some hf
          refine g_callVi S (As := [.int i1, .int (999:Int32)]) (gs' := [maW a0 (a1 0) (a2 0) (a3 0) (a4 0) (a7 0 0) (a8 0) (a9 0) (a9 1), stW G a1 q95.2.1, stW G a2 q1.2.1, rdW G a3 q1.2.2, paW G a7 q95.2.2]) (c_X5_bid l G a0 a1 a2 a3 a4 a5 a6 a7 a8 a9 a10 a11 v1 v7 i1 (999:Int32) hq95) (cwV 2 hts gL_leastBid_X5_bid rfl rfl rfl hd_X5_bid ⟨Nat.le_of_ble_eq_true rfl, Nat.le_of_ble_eq_true rfl⟩) hK hP hD hS hA (is := [0, 1, 4]) rfl rfl 0 rfl rfl rfl rfl hl.1 rfl (Nat.le_of_ble_eq_true rfl) dL_leastBid_66 ⟨Nat.le_of_ble_eq_true rfl, Nat.le_of_ble_eq_true rfl⟩ rfl (fun H locs hP hD hS => ?_)
          refine lv_iload hx hb dL_leastBid_69 (lv_at hl 0 rfl) ?_
          refine lv_icmp_ne (tgt := 93) hx hb dL_leastBid_71 (by decide) (fun c96 => ?_) (fun c96 => ?_)
          · rw [if_neg c96] at hf
            refine lv_iconst (v := (0:Int32)) hx hb dL_leastBid_93 (by decide) ?_
            cases hf
            exact g_zret hx hb hr gz0 hlocks hP hS dL_leastBid_94
          · rw [if_pos c96] at hf
            refine lv_aload_n hx hb dL_leastBid_74 rfl (lv_at hl 3 rfl) ?_
            obtain ⟨q97, hq97, hf⟩ := bd_some hf
            refine g_callVi S (As := []) (gs' := [maW a0 (a1 0) (a2 0) (a3 0) (a4 0) (a7 0 0) (a8 0) (a9 0) (a9 1), stW G a1 q95.2.1, stW G a2 q97.2.1, rdW G a3 q97.2.2, paW G a7 q95.2.2]) (c_X5_winner l G a0 a1 a2 a3 a4 a5 a6 a7 a8 a9 a10 a11 q95.2.1 q1.2.1 q1.2.2 hq97) (cwV 0 hts gL_leastBid_X5_winner rfl rfl rfl hd_X5_winner ⟨Nat.le_of_ble_eq_true rfl, Nat.le_of_ble_eq_true rfl⟩) hK hP hD hS hA (is := [0, 1, 2, 3]) rfl rfl 0 rfl rfl rfl rfl hl.1 rfl (Nat.le_of_ble_eq_true rfl) dL_leastBid_75 ⟨Nat.le_of_ble_eq_true rfl, Nat.le_of_ble_eq_true rfl⟩ rfl (fun H locs hP hD hS => ?_)
            refine lv_iload_n hx hb dL_leastBid_78 rfl (lv_at hl 4 rfl) ?_
            refine lv_icmp_eq (tgt := 93) hx hb dL_leastBid_79 (by decide) (fun c98 => ?_) (fun c98 => ?_)
            · rw [if_pos c98] at hf
              refine lv_iconst (v := (0:Int32)) hx hb dL_leastBid_93 (by decide) ?_
              cases hf
              exact g_zret hx hb hr gz0 hlocks hP hS dL_leastBid_94
            · rw [if_neg c98] at hf
              refine lv_aload_n hx hb dL_leastBid_82 rfl (lv_at hl 3 rfl) ?_
              obtain ⟨q99, hq99, hf⟩ := bd_some hf
              refine g_callVi S (As := []) (gs' := [maW a0 (a1 0) (a2 0) (a3 0) (a4 0) (a7 0 0) (a8 0) (a9 0) (a9 1), stW G a1 q99.2.1, stW G a2 q97.2.1, rdW G a3 q97.2.2, paW G a7 q99.2.2]) (c_X5_undo l G a0 a1 a2 a3 a4 a5 a6 a7 a8 a9 a10 a11 q95.2.1 q95.2.2 hq99) (cwV 0 hts gL_leastBid_X5_undo rfl rfl rfl hd_X5_undo ⟨Nat.le_of_ble_eq_true rfl, Nat.le_of_ble_eq_true rfl⟩) hK hP hD hS hA (is := [0, 1, 4]) rfl rfl 0 rfl rfl rfl rfl hl.1 rfl (Nat.le_of_ble_eq_true rfl) dL_leastBid_83 ⟨Nat.le_of_ble_eq_true rfl, Nat.le_of_ble_eq_true rfl⟩ rfl (fun H locs hP hD hS => ?_)
              refine lv_if_lt (tgt := 93) hx hb dL_leastBid_86 (by decide) (fun c100 => ?_) (fun c100 => ?_)
              · rw [if_pos c100] at hf
                refine lv_iconst (v := (0:Int32)) hx hb dL_leastBid_93 (by decide) ?_
                cases hf
                exact g_zret hx hb hr gz0 hlocks hP hS dL_leastBid_94
              · rw [if_neg c100] at hf
                refine lv_iconst (v := (1:Int32)) hx hb dL_leastBid_89 (by decide) ?_
                refine lv_goto (tgt := 94) hx hb dL_leastBid_90 (by decide) ?_
                cases hf
                exact g_zret hx hb hr gz1 hlocks hP hS dL_leastBid_94
      · rw [if_pos c54] at hf
        refine lv_iload_n hx hb dL_leastBid_35 rfl (lv_at hl 1 rfl) ?_
        refine lv_ldc (v := (-99999:Int32)) hx hb hown (hts _ kL_leastBid_0) dL_leastBid_36 ?_
        refine lv_icmp_ne (tgt := 45) hx hb dL_leastBid_38 (by decide) (fun c101 => ?_) (fun c101 => ?_)
        · rw [if_neg c101] at hf
          refine lv_iconst (v := (0:Int32)) hx hb dL_leastBid_45 (by decide) ?_
          cases hf
          exact g_zret hx hb hr gz0 hlocks hP hS dL_leastBid_46
        · rw [if_pos c101] at hf
          refine lv_iconst (v := (1:Int32)) hx hb dL_leastBid_41 (by decide) ?_
          refine lv_goto (tgt := 46) hx hb dL_leastBid_42 (by decide) ?_
          cases hf
          exact g_zret hx hb hr gz1 hlocks hP hS dL_leastBid_46
    · rw [if_pos c53] at hf
      refine lv_iconst (v := (1:Int32)) hx hb dL_leastBid_25 (by decide) ?_
      refine lv_goto (tgt := 30) hx hb dL_leastBid_26 (by decide) ?_
      refine lv_istore_n (lv' := [(3, .int (1:Int32)), (2, .int q1.1), (0, .ref (a0 0)), (1, .int i1)]) hx hb dL_leastBid_30 rfl hl (by decide) rfl (fun ls hl => ?_)
      refine lv_iload_n hx hb dL_leastBid_31 rfl (lv_at hl 0 rfl) ?_
      refine lv_if_ne (tgt := 47) hx hb dL_leastBid_32 (by decide) (fun c102 => ?_) (fun c102 => ?_)
      · rw [if_neg c102] at hf
        refine lv_aload_n hx hb dL_leastBid_47 rfl (lv_at hl 2 rfl) ?_
        refine lv_iload_n hx hb dL_leastBid_48 rfl (lv_at hl 3 rfl) ?_
        refine lv_iconst (v := (2:Int32)) hx hb dL_leastBid_49 (by decide) ?_
        obtain ⟨q103, hq103, hf⟩ := bd_some hf
        refine g_callVi S (As := [.int i1, .int (2:Int32)]) (gs' := [maW a0 (a1 0) (a2 0) (a3 0) (a4 0) (a7 0 0) (a8 0) (a9 0) (a9 1), stW G a1 v1, stW G a2 q1.2.1, rdW G a3 q1.2.2, paW G a7 v7]) (c_X5_member l G a0 a1 a2 a3 a4 a5 a6 a7 a8 a9 a10 a11 v1 i1 (2:Int32) hq103) (cwV 2 hts gL_leastBid_X5_member rfl rfl rfl hd_X5_member ⟨Nat.le_of_ble_eq_true rfl, Nat.le_of_ble_eq_true rfl⟩) hK hP hD hS hA (is := [0, 1]) rfl rfl 0 rfl rfl rfl rfl hl.1 rfl (Nat.le_of_ble_eq_true rfl) dL_leastBid_50 ⟨Nat.le_of_ble_eq_true rfl, Nat.le_of_ble_eq_true rfl⟩ rfl (fun H locs hP hD hS => ?_)
        refine lv_istore (lv' := [(4, .int q103.1), (3, .int (1:Int32)), (2, .int q1.1), (0, .ref (a0 0)), (1, .int i1)]) hx hb dL_leastBid_53 hl (by decide) rfl (fun ls hl => ?_)
        refine lv_iload_n hx hb dL_leastBid_55 rfl (lv_at hl 2 rfl) ?_
        refine lv_ldc (v := (-99999:Int32)) hx hb hown (hts _ kL_leastBid_0) dL_leastBid_56 ?_
        refine lv_icmp_ne (tgt := 95) hx hb dL_leastBid_58 (by decide) (fun c104 => ?_) (fun c104 => ?_)
        · rw [if_neg c104] at hf
          refine lv_aload_n hx hb dL_leastBid_95 rfl (lv_at hl 3 rfl) ?_
          refine lv_iload_n hx hb dL_leastBid_96 rfl (lv_at hl 4 rfl) ?_
          refine lv_iload_n hx hb dL_leastBid_97 rfl (lv_at hl 2 rfl) ?_
          obtain ⟨q105, hq105, hf⟩ := bd_some hf
          refine g_callVi S (As := [.int i1, .int q1.1]) (gs' := [maW a0 (a1 0) (a2 0) (a3 0) (a4 0) (a7 0 0) (a8 0) (a9 0) (a9 1), stW G a1 q105.2.1, stW G a2 q1.2.1, rdW G a3 q1.2.2, paW G a7 q105.2.2]) (c_X5_bid l G a0 a1 a2 a3 a4 a5 a6 a7 a8 a9 a10 a11 v1 v7 i1 q1.1 hq105) (cwV 2 hts gL_leastBid_X5_bid rfl rfl rfl hd_X5_bid ⟨Nat.le_of_ble_eq_true rfl, Nat.le_of_ble_eq_true rfl⟩) hK hP hD hS hA (is := [0, 1, 4]) rfl rfl 0 rfl rfl rfl rfl hl.1 rfl (Nat.le_of_ble_eq_true rfl) dL_leastBid_98 ⟨Nat.le_of_ble_eq_true rfl, Nat.le_of_ble_eq_true rfl⟩ rfl (fun H locs hP hD hS => ?_)
          refine lv_iload hx hb dL_leastBid_101 (lv_at hl 0 rfl) ?_
          refine lv_icmp_ne (tgt := 125) hx hb dL_leastBid_103 (by decide) (fun c106 => ?_) (fun c106 => ?_)
          · rw [if_neg c106] at hf
            refine lv_iconst (v := (0:Int32)) hx hb dL_leastBid_125 (by decide) ?_
            refine lv_istore (lv' := [(5, .int (0:Int32)), (4, .int q103.1), (3, .int (1:Int32)), (2, .int q1.1), (0, .ref (a0 0)), (1, .int i1)]) hx hb dL_leastBid_126 hl (by decide) rfl (fun ls hl => ?_)
            refine lv_iload hx hb dL_leastBid_128 (lv_at hl 0 rfl) ?_
            refine lv_if_eq (tgt := 169) hx hb dL_leastBid_130 (by decide) (fun c107 => ?_) (fun c107 => ?_)
            · rw [if_pos c107] at hf
              refine lv_iconst (v := (0:Int32)) hx hb dL_leastBid_169 (by decide) ?_
              cases hf
              exact g_zret hx hb hr gz0 hlocks hP hS dL_leastBid_170
            · rw [if_neg c107] at hf
              refine lv_iload_n hx hb dL_leastBid_133 rfl (lv_at hl 3 rfl) ?_
              refine lv_if_eq (tgt := 165) hx hb dL_leastBid_134 (by decide) (fun c108 => ?_) (fun c108 => ?_)
              · rw [if_pos c108] at hf
                refine lv_iconst (v := (1:Int32)) hx hb dL_leastBid_165 (by decide) ?_
                refine lv_goto (tgt := 170) hx hb dL_leastBid_166 (by decide) ?_
                cases hf
                exact g_zret hx hb hr gz1 hlocks hP hS dL_leastBid_170
              · rw [if_neg c108] at hf
                refine lv_aload_n hx hb dL_leastBid_137 rfl (lv_at hl 4 rfl) ?_
                refine lv_iload_n hx hb dL_leastBid_138 rfl (lv_at hl 5 rfl) ?_
                refine lv_iload_n hx hb dL_leastBid_139 rfl (lv_at hl 3 rfl) ?_
                refine lv_iconst (v := (1:Int32)) hx hb dL_leastBid_140 (by decide) ?_
                refine lv_isub hx hb dL_leastBid_141 ?_
                obtain ⟨q109, hq109, hf⟩ := bd_some hf
                refine g_callVi S (As := [.int i1, .int (q1.1 - (1:Int32))]) (gs' := [maW a0 (a1 0) (a2 0) (a3 0) (a4 0) (a7 0 0) (a8 0) (a9 0) (a9 1), stW G a1 q109.2.1, stW G a2 q1.2.1, rdW G a3 q1.2.2, paW G a7 q109.2.2]) (c_X5_bid l G a0 a1 a2 a3 a4 a5 a6 a7 a8 a9 a10 a11 q105.2.1 q105.2.2 i1 (q1.1 - (1:Int32)) hq109) (cwV 2 hts gL_leastBid_X5_bid rfl rfl rfl hd_X5_bid ⟨Nat.le_of_ble_eq_true rfl, Nat.le_of_ble_eq_true rfl⟩) hK hP hD hS hA (is := [0, 1, 4]) rfl rfl 0 rfl rfl rfl rfl hl.1 rfl (Nat.le_of_ble_eq_true rfl) dL_leastBid_142 ⟨Nat.le_of_ble_eq_true rfl, Nat.le_of_ble_eq_true rfl⟩ rfl (fun H locs hP hD hS => ?_)
                refine lv_iload hx hb dL_leastBid_145 (lv_at hl 1 rfl) ?_
                refine lv_icmp_ne (tgt := 169) hx hb dL_leastBid_147 (by decide) (fun c110 => ?_) (fun c110 => ?_)
                · rw [if_neg c110] at hf
                  refine lv_iconst (v := (0:Int32)) hx hb dL_leastBid_169 (by decide) ?_
                  cases hf
                  exact g_zret hx hb hr gz0 hlocks hP hS dL_leastBid_170
                · rw [if_pos c110] at hf
                  refine lv_aload_n hx hb dL_leastBid_150 rfl (lv_at hl 4 rfl) ?_
                  obtain ⟨q111, hq111, hf⟩ := bd_some hf
                  refine g_callVi S (As := []) (gs' := [maW a0 (a1 0) (a2 0) (a3 0) (a4 0) (a7 0 0) (a8 0) (a9 0) (a9 1), stW G a1 q109.2.1, stW G a2 q111.2.1, rdW G a3 q111.2.2, paW G a7 q109.2.2]) (c_X5_winner l G a0 a1 a2 a3 a4 a5 a6 a7 a8 a9 a10 a11 q109.2.1 q1.2.1 q1.2.2 hq111) (cwV 0 hts gL_leastBid_X5_winner rfl rfl rfl hd_X5_winner ⟨Nat.le_of_ble_eq_true rfl, Nat.le_of_ble_eq_true rfl⟩) hK hP hD hS hA (is := [0, 1, 2, 3]) rfl rfl 0 rfl rfl rfl rfl hl.1 rfl (Nat.le_of_ble_eq_true rfl) dL_leastBid_151 ⟨Nat.le_of_ble_eq_true rfl, Nat.le_of_ble_eq_true rfl⟩ rfl (fun H locs hP hD hS => ?_)
                  refine lv_iload_n hx hb dL_leastBid_154 rfl (lv_at hl 5 rfl) ?_
                  refine lv_icmp_eq (tgt := 169) hx hb dL_leastBid_155 (by decide) (fun c112 => ?_) (fun c112 => ?_)
                  · rw [if_pos c112] at hf
                    refine lv_iconst (v := (0:Int32)) hx hb dL_leastBid_169 (by decide) ?_
                    cases hf
                    exact g_zret hx hb hr gz0 hlocks hP hS dL_leastBid_170
                  · rw [if_neg c112] at hf
                    refine lv_aload_n hx hb dL_leastBid_158 rfl (lv_at hl 4 rfl) ?_
                    obtain ⟨q113, hq113, hf⟩ := bd_some hf
                    refine g_callVi S (As := []) (gs' := [maW a0 (a1 0) (a2 0) (a3 0) (a4 0) (a7 0 0) (a8 0) (a9 0) (a9 1), stW G a1 q113.2.1, stW G a2 q111.2.1, rdW G a3 q111.2.2, paW G a7 q113.2.2]) (c_X5_undo l G a0 a1 a2 a3 a4 a5 a6 a7 a8 a9 a10 a11 q109.2.1 q109.2.2 hq113) (cwV 0 hts gL_leastBid_X5_undo rfl rfl rfl hd_X5_undo ⟨Nat.le_of_ble_eq_true rfl, Nat.le_of_ble_eq_true rfl⟩) hK hP hD hS hA (is := [0, 1, 4]) rfl rfl 0 rfl rfl rfl rfl hl.1 rfl (Nat.le_of_ble_eq_true rfl) dL_leastBid_159 ⟨Nat.le_of_ble_eq_true rfl, Nat.le_of_ble_eq_true rfl⟩ rfl (fun H locs hP hD hS => ?_)
                    refine lv_if_lt (tgt := 169) hx hb dL_leastBid_162 (by decide) (fun c114 => ?_) (fun c114 => ?_)
                    · rw [if_pos c114] at hf
                      refine lv_iconst (v := (0:Int32)) hx hb dL_leastBid_169 (by decide) ?_
                      cases hf
                      exact g_zret hx hb hr gz0 hlocks hP hS dL_leastBid_170
                    · rw [if_neg c114] at hf
                      refine lv_iconst (v := (1:Int32)) hx hb dL_leastBid_165 (by decide) ?_
                      refine lv_goto (tgt := 170) hx hb dL_leastBid_166 (by decide) ?_
                      cases hf
                      exact g_zret hx hb hr gz1 hlocks hP hS dL_leastBid_170
          · rw [if_pos c106] at hf
            refine lv_aload_n hx hb dL_leastBid_106 rfl (lv_at hl 3 rfl) ?_
            obtain ⟨q115, hq115, hf⟩ := bd_some hf
            refine g_callVi S (As := []) (gs' := [maW a0 (a1 0) (a2 0) (a3 0) (a4 0) (a7 0 0) (a8 0) (a9 0) (a9 1), stW G a1 q105.2.1, stW G a2 q115.2.1, rdW G a3 q115.2.2, paW G a7 q105.2.2]) (c_X5_winner l G a0 a1 a2 a3 a4 a5 a6 a7 a8 a9 a10 a11 q105.2.1 q1.2.1 q1.2.2 hq115) (cwV 0 hts gL_leastBid_X5_winner rfl rfl rfl hd_X5_winner ⟨Nat.le_of_ble_eq_true rfl, Nat.le_of_ble_eq_true rfl⟩) hK hP hD hS hA (is := [0, 1, 2, 3]) rfl rfl 0 rfl rfl rfl rfl hl.1 rfl (Nat.le_of_ble_eq_true rfl) dL_leastBid_107 ⟨Nat.le_of_ble_eq_true rfl, Nat.le_of_ble_eq_true rfl⟩ rfl (fun H locs hP hD hS => ?_)
            refine lv_iload_n hx hb dL_leastBid_110 rfl (lv_at hl 4 rfl) ?_
            refine lv_icmp_ne (tgt := 125) hx hb dL_leastBid_111 (by decide) (fun c116 => ?_) (fun c116 => ?_)
            · rw [if_neg c116] at hf
              refine lv_iconst (v := (0:Int32)) hx hb dL_leastBid_125 (by decide) ?_
              refine lv_istore (lv' := [(5, .int (0:Int32)), (4, .int q103.1), (3, .int (1:Int32)), (2, .int q1.1), (0, .ref (a0 0)), (1, .int i1)]) hx hb dL_leastBid_126 hl (by decide) rfl (fun ls hl => ?_)
              refine lv_iload hx hb dL_leastBid_128 (lv_at hl 0 rfl) ?_
              refine lv_if_eq (tgt := 169) hx hb dL_leastBid_130 (by decide) (fun c117 => ?_) (fun c117 => ?_)
              · rw [if_pos c117] at hf
                refine lv_iconst (v := (0:Int32)) hx hb dL_leastBid_169 (by decide) ?_
                cases hf
                exact g_zret hx hb hr gz0 hlocks hP hS dL_leastBid_170
              · rw [if_neg c117] at hf
                refine lv_iload_n hx hb dL_leastBid_133 rfl (lv_at hl 3 rfl) ?_
                refine lv_if_eq (tgt := 165) hx hb dL_leastBid_134 (by decide) (fun c118 => ?_) (fun c118 => ?_)
                · rw [if_pos c118] at hf
                  refine lv_iconst (v := (1:Int32)) hx hb dL_leastBid_165 (by decide) ?_
                  refine lv_goto (tgt := 170) hx hb dL_leastBid_166 (by decide) ?_
                  cases hf
                  exact g_zret hx hb hr gz1 hlocks hP hS dL_leastBid_170
                · rw [if_neg c118] at hf
                  refine lv_aload_n hx hb dL_leastBid_137 rfl (lv_at hl 4 rfl) ?_
                  refine lv_iload_n hx hb dL_leastBid_138 rfl (lv_at hl 5 rfl) ?_
                  refine lv_iload_n hx hb dL_leastBid_139 rfl (lv_at hl 3 rfl) ?_
                  refine lv_iconst (v := (1:Int32)) hx hb dL_leastBid_140 (by decide) ?_
                  refine lv_isub hx hb dL_leastBid_141 ?_
                  obtain ⟨q119, hq119, hf⟩ := bd_some hf
                  refine g_callVi S (As := [.int i1, .int (q1.1 - (1:Int32))]) (gs' := [maW a0 (a1 0) (a2 0) (a3 0) (a4 0) (a7 0 0) (a8 0) (a9 0) (a9 1), stW G a1 q119.2.1, stW G a2 q115.2.1, rdW G a3 q115.2.2, paW G a7 q119.2.2]) (c_X5_bid l G a0 a1 a2 a3 a4 a5 a6 a7 a8 a9 a10 a11 q105.2.1 q105.2.2 i1 (q1.1 - (1:Int32)) hq119) (cwV 2 hts gL_leastBid_X5_bid rfl rfl rfl hd_X5_bid ⟨Nat.le_of_ble_eq_true rfl, Nat.le_of_ble_eq_true rfl⟩) hK hP hD hS hA (is := [0, 1, 4]) rfl rfl 0 rfl rfl rfl rfl hl.1 rfl (Nat.le_of_ble_eq_true rfl) dL_leastBid_142 ⟨Nat.le_of_ble_eq_true rfl, Nat.le_of_ble_eq_true rfl⟩ rfl (fun H locs hP hD hS => ?_)
                  refine lv_iload hx hb dL_leastBid_145 (lv_at hl 1 rfl) ?_
                  refine lv_icmp_ne (tgt := 169) hx hb dL_leastBid_147 (by decide) (fun c120 => ?_) (fun c120 => ?_)
                  · rw [if_neg c120] at hf
                    refine lv_iconst (v := (0:Int32)) hx hb dL_leastBid_169 (by decide) ?_
                    cases hf
                    exact g_zret hx hb hr gz0 hlocks hP hS dL_leastBid_170
                  · rw [if_pos c120] at hf
                    refine lv_aload_n hx hb dL_leastBid_150 rfl (lv_at hl 4 rfl) ?_
                    obtain ⟨q121, hq121, hf⟩ := bd_some hf
                    refine g_callVi S (As := []) (gs' := [maW a0 (a1 0) (a2 0) (a3 0) (a4 0) (a7 0 0) (a8 0) (a9 0) (a9 1), stW G a1 q119.2.1, stW G a2 q121.2.1, rdW G a3 q121.2.2, paW G a7 q119.2.2]) (c_X5_winner l G a0 a1 a2 a3 a4 a5 a6 a7 a8 a9 a10 a11 q119.2.1 q115.2.1 q115.2.2 hq121) (cwV 0 hts gL_leastBid_X5_winner rfl rfl rfl hd_X5_winner ⟨Nat.le_of_ble_eq_true rfl, Nat.le_of_ble_eq_true rfl⟩) hK hP hD hS hA (is := [0, 1, 2, 3]) rfl rfl 0 rfl rfl rfl rfl hl.1 rfl (Nat.le_of_ble_eq_true rfl) dL_leastBid_151 ⟨Nat.le_of_ble_eq_true rfl, Nat.le_of_ble_eq_true rfl⟩ rfl (fun H locs hP hD hS => ?_)
                    refine lv_iload_n hx hb dL_leastBid_154 rfl (lv_at hl 5 rfl) ?_
                    refine lv_icmp_eq (tgt := 169) hx hb dL_leastBid_155 (by decide) (fun c122 => ?_) (fun c122 => ?_)
                    · rw [if_pos c122] at hf
                      refine lv_iconst (v := (0:Int32)) hx hb dL_leastBid_169 (by decide) ?_
                      cases hf
                      exact g_zret hx hb hr gz0 hlocks hP hS dL_leastBid_170
                    · rw [if_neg c122] at hf
                      refine lv_aload_n hx hb dL_leastBid_158 rfl (lv_at hl 4 rfl) ?_
                      obtain ⟨q123, hq123, hf⟩ := bd_some hf
                      refine g_callVi S (As := []) (gs' := [maW a0 (a1 0) (a2 0) (a3 0) (a4 0) (a7 0 0) (a8 0) (a9 0) (a9 1), stW G a1 q123.2.1, stW G a2 q121.2.1, rdW G a3 q121.2.2, paW G a7 q123.2.2]) (c_X5_undo l G a0 a1 a2 a3 a4 a5 a6 a7 a8 a9 a10 a11 q119.2.1 q119.2.2 hq123) (cwV 0 hts gL_leastBid_X5_undo rfl rfl rfl hd_X5_undo ⟨Nat.le_of_ble_eq_true rfl, Nat.le_of_ble_eq_true rfl⟩) hK hP hD hS hA (is := [0, 1, 4]) rfl rfl 0 rfl rfl rfl rfl hl.1 rfl (Nat.le_of_ble_eq_true rfl) dL_leastBid_159 ⟨Nat.le_of_ble_eq_true rfl, Nat.le_of_ble_eq_true rfl⟩ rfl (fun H locs hP hD hS => ?_)
                      refine lv_if_lt (tgt := 169) hx hb dL_leastBid_162 (by decide) (fun c124 => ?_) (fun c124 => ?_)
                      · rw [if_pos c124] at hf
                        refine lv_iconst (v := (0:Int32)) hx hb dL_leastBid_169 (by decide) ?_
                        cases hf
                        exact g_zret hx hb hr gz0 hlocks hP hS dL_leastBid_170
                      · rw [if_neg c124] at hf
                        refine lv_iconst (v := (1:Int32)) hx hb dL_leastBid_165 (by decide) ?_
                        refine lv_goto (tgt := 170) hx hb dL_leastBid_166 (by decide) ?_
                        cases hf
                        exact g_zret hx hb hr gz1 hlocks hP hS dL_leastBid_170
            · rw [if_pos c116] at hf
              refine lv_aload_n hx hb dL_leastBid_114 rfl (lv_at hl 3 rfl) ?_
              obtain ⟨q125, hq125, hf⟩ := bd_some hf
              refine g_callVi S (As := []) (gs' := [maW a0 (a1 0) (a2 0) (a3 0) (a4 0) (a7 0 0) (a8 0) (a9 0) (a9 1), stW G a1 q125.2.1, stW G a2 q115.2.1, rdW G a3 q115.2.2, paW G a7 q125.2.2]) (c_X5_undo l G a0 a1 a2 a3 a4 a5 a6 a7 a8 a9 a10 a11 q105.2.1 q105.2.2 hq125) (cwV 0 hts gL_leastBid_X5_undo rfl rfl rfl hd_X5_undo ⟨Nat.le_of_ble_eq_true rfl, Nat.le_of_ble_eq_true rfl⟩) hK hP hD hS hA (is := [0, 1, 4]) rfl rfl 0 rfl rfl rfl rfl hl.1 rfl (Nat.le_of_ble_eq_true rfl) dL_leastBid_115 ⟨Nat.le_of_ble_eq_true rfl, Nat.le_of_ble_eq_true rfl⟩ rfl (fun H locs hP hD hS => ?_)
              refine lv_if_lt (tgt := 125) hx hb dL_leastBid_118 (by decide) (fun c126 => ?_) (fun c126 => ?_)
              · rw [if_pos c126] at hf
                refine lv_iconst (v := (0:Int32)) hx hb dL_leastBid_125 (by decide) ?_
                refine lv_istore (lv' := [(5, .int (0:Int32)), (4, .int q103.1), (3, .int (1:Int32)), (2, .int q1.1), (0, .ref (a0 0)), (1, .int i1)]) hx hb dL_leastBid_126 hl (by decide) rfl (fun ls hl => ?_)
                refine lv_iload hx hb dL_leastBid_128 (lv_at hl 0 rfl) ?_
                refine lv_if_eq (tgt := 169) hx hb dL_leastBid_130 (by decide) (fun c127 => ?_) (fun c127 => ?_)
                · rw [if_pos c127] at hf
                  refine lv_iconst (v := (0:Int32)) hx hb dL_leastBid_169 (by decide) ?_
                  cases hf
                  exact g_zret hx hb hr gz0 hlocks hP hS dL_leastBid_170
                · rw [if_neg c127] at hf
                  refine lv_iload_n hx hb dL_leastBid_133 rfl (lv_at hl 3 rfl) ?_
                  refine lv_if_eq (tgt := 165) hx hb dL_leastBid_134 (by decide) (fun c128 => ?_) (fun c128 => ?_)
                  · rw [if_pos c128] at hf
                    refine lv_iconst (v := (1:Int32)) hx hb dL_leastBid_165 (by decide) ?_
                    refine lv_goto (tgt := 170) hx hb dL_leastBid_166 (by decide) ?_
                    cases hf
                    exact g_zret hx hb hr gz1 hlocks hP hS dL_leastBid_170
                  · rw [if_neg c128] at hf
                    refine lv_aload_n hx hb dL_leastBid_137 rfl (lv_at hl 4 rfl) ?_
                    refine lv_iload_n hx hb dL_leastBid_138 rfl (lv_at hl 5 rfl) ?_
                    refine lv_iload_n hx hb dL_leastBid_139 rfl (lv_at hl 3 rfl) ?_
                    refine lv_iconst (v := (1:Int32)) hx hb dL_leastBid_140 (by decide) ?_
                    refine lv_isub hx hb dL_leastBid_141 ?_
                    obtain ⟨q129, hq129, hf⟩ := bd_some hf
                    refine g_callVi S (As := [.int i1, .int (q1.1 - (1:Int32))]) (gs' := [maW a0 (a1 0) (a2 0) (a3 0) (a4 0) (a7 0 0) (a8 0) (a9 0) (a9 1), stW G a1 q129.2.1, stW G a2 q115.2.1, rdW G a3 q115.2.2, paW G a7 q129.2.2]) (c_X5_bid l G a0 a1 a2 a3 a4 a5 a6 a7 a8 a9 a10 a11 q125.2.1 q125.2.2 i1 (q1.1 - (1:Int32)) hq129) (cwV 2 hts gL_leastBid_X5_bid rfl rfl rfl hd_X5_bid ⟨Nat.le_of_ble_eq_true rfl, Nat.le_of_ble_eq_true rfl⟩) hK hP hD hS hA (is := [0, 1, 4]) rfl rfl 0 rfl rfl rfl rfl hl.1 rfl (Nat.le_of_ble_eq_true rfl) dL_leastBid_142 ⟨Nat.le_of_ble_eq_true rfl, Nat.le_of_ble_eq_true rfl⟩ rfl (fun H locs hP hD hS => ?_)
                    refine lv_iload hx hb dL_leastBid_145 (lv_at hl 1 rfl) ?_
                    refine lv_icmp_ne (tgt := 169) hx hb dL_leastBid_147 (by decide) (fun c130 => ?_) (fun c130 => ?_)
                    · rw [if_neg c130] at hf
                      refine lv_iconst (v := (0:Int32)) hx hb dL_leastBid_169 (by decide) ?_
                      cases hf
                      exact g_zret hx hb hr gz0 hlocks hP hS dL_leastBid_170
                    · rw [if_pos c130] at hf
                      refine lv_aload_n hx hb dL_leastBid_150 rfl (lv_at hl 4 rfl) ?_
                      obtain ⟨q131, hq131, hf⟩ := bd_some hf
                      refine g_callVi S (As := []) (gs' := [maW a0 (a1 0) (a2 0) (a3 0) (a4 0) (a7 0 0) (a8 0) (a9 0) (a9 1), stW G a1 q129.2.1, stW G a2 q131.2.1, rdW G a3 q131.2.2, paW G a7 q129.2.2]) (c_X5_winner l G a0 a1 a2 a3 a4 a5 a6 a7 a8 a9 a10 a11 q129.2.1 q115.2.1 q115.2.2 hq131) (cwV 0 hts gL_leastBid_X5_winner rfl rfl rfl hd_X5_winner ⟨Nat.le_of_ble_eq_true rfl, Nat.le_of_ble_eq_true rfl⟩) hK hP hD hS hA (is := [0, 1, 2, 3]) rfl rfl 0 rfl rfl rfl rfl hl.1 rfl (Nat.le_of_ble_eq_true rfl) dL_leastBid_151 ⟨Nat.le_of_ble_eq_true rfl, Nat.le_of_ble_eq_true rfl⟩ rfl (fun H locs hP hD hS => ?_)
                      refine lv_iload_n hx hb dL_leastBid_154 rfl (lv_at hl 5 rfl) ?_
                      refine lv_icmp_eq (tgt := 169) hx hb dL_leastBid_155 (by decide) (fun c132 => ?_) (fun c132 => ?_)
                      · rw [if_pos c132] at hf
                        refine lv_iconst (v := (0:Int32)) hx hb dL_leastBid_169 (by decide) ?_
                        cases hf
                        exact g_zret hx hb hr gz0 hlocks hP hS dL_leastBid_170
                      · rw [if_neg c132] at hf
                        refine lv_aload_n hx hb dL_leastBid_158 rfl (lv_at hl 4 rfl) ?_
                        obtain ⟨q133, hq133, hf⟩ := bd_some hf
                        refine g_callVi S (As := []) (gs' := [maW a0 (a1 0) (a2 0) (a3 0) (a4 0) (a7 0 0) (a8 0) (a9 0) (a9 1), stW G a1 q133.2.1, stW G a2 q131.2.1, rdW G a3 q131.2.2, paW G a7 q133.2.2]) (c_X5_undo l G a0 a1 a2 a3 a4 a5 a6 a7 a8 a9 a10 a11 q129.2.1 q129.2.2 hq133) (cwV 0 hts gL_leastBid_X5_undo rfl rfl rfl hd_X5_undo ⟨Nat.le_of_ble_eq_true rfl, Nat.le_of_ble_eq_true rfl⟩) hK hP hD hS hA (is := [0, 1, 4]) rfl rfl 0 rfl rfl rfl rfl hl.1 rfl (Nat.le_of_ble_eq_true rfl) dL_leastBid_159 ⟨Nat.le_of_ble_eq_true rfl, Nat.le_of_ble_eq_true rfl⟩ rfl (fun H locs hP hD hS => ?_)
                        refine lv_if_lt (tgt := 169) hx hb dL_leastBid_162 (by decide) (fun c134 => ?_) (fun c134 => ?_)
                        · rw [if_pos c134] at hf
                          refine lv_iconst (v := (0:Int32)) hx hb dL_leastBid_169 (by decide) ?_
                          cases hf
                          exact g_zret hx hb hr gz0 hlocks hP hS dL_leastBid_170
                        · rw [if_neg c134] at hf
                          refine lv_iconst (v := (1:Int32)) hx hb dL_leastBid_165 (by decide) ?_
                          refine lv_goto (tgt := 170) hx hb dL_leastBid_166 (by decide) ?_
                          cases hf
                          exact g_zret hx hb hr gz1 hlocks hP hS dL_leastBid_170
              · rw [if_neg c126] at hf
                refine lv_iconst (v := (1:Int32)) hx hb dL_leastBid_121 (by decide) ?_
                refine lv_goto (tgt := 126) hx hb dL_leastBid_122 (by decide) ?_
                refine lv_istore (lv' := [(5, .int (1:Int32)), (4, .int q103.1), (3, .int (1:Int32)), (2, .int q1.1), (0, .ref (a0 0)), (1, .int i1)]) hx hb dL_leastBid_126 hl (by decide) rfl (fun ls hl => ?_)
                refine lv_iload hx hb dL_leastBid_128 (lv_at hl 0 rfl) ?_
                refine lv_if_eq (tgt := 169) hx hb dL_leastBid_130 (by decide) (fun c135 => ?_) (fun c135 => ?_)
                · rw [if_pos c135] at hf
                  refine lv_iconst (v := (0:Int32)) hx hb dL_leastBid_169 (by decide) ?_
                  cases hf
                  exact g_zret hx hb hr gz0 hlocks hP hS dL_leastBid_170
                · rw [if_neg c135] at hf
                  refine lv_iload_n hx hb dL_leastBid_133 rfl (lv_at hl 3 rfl) ?_
                  refine lv_if_eq (tgt := 165) hx hb dL_leastBid_134 (by decide) (fun c136 => ?_) (fun c136 => ?_)
                  · rw [if_pos c136] at hf
                    refine lv_iconst (v := (1:Int32)) hx hb dL_leastBid_165 (by decide) ?_
                    refine lv_goto (tgt := 170) hx hb dL_leastBid_166 (by decide) ?_
                    cases hf
                    exact g_zret hx hb hr gz1 hlocks hP hS dL_leastBid_170
                  · rw [if_neg c136] at hf
                    refine lv_aload_n hx hb dL_leastBid_137 rfl (lv_at hl 4 rfl) ?_
                    refine lv_iload_n hx hb dL_leastBid_138 rfl (lv_at hl 5 rfl) ?_
                    refine lv_iload_n hx hb dL_leastBid_139 rfl (lv_at hl 3 rfl) ?_
                    refine lv_iconst (v := (1:Int32)) hx hb dL_leastBid_140 (by decide) ?_
                    refine lv_isub hx hb dL_leastBid_141 ?_
                    obtain ⟨q137, hq137, hf⟩ := bd_some hf
                    refine g_callVi S (As := [.int i1, .int (q1.1 - (1:Int32))]) (gs' := [maW a0 (a1 0) (a2 0) (a3 0) (a4 0) (a7 0 0) (a8 0) (a9 0) (a9 1), stW G a1 q137.2.1, stW G a2 q115.2.1, rdW G a3 q115.2.2, paW G a7 q137.2.2]) (c_X5_bid l G a0 a1 a2 a3 a4 a5 a6 a7 a8 a9 a10 a11 q125.2.1 q125.2.2 i1 (q1.1 - (1:Int32)) hq137) (cwV 2 hts gL_leastBid_X5_bid rfl rfl rfl hd_X5_bid ⟨Nat.le_of_ble_eq_true rfl, Nat.le_of_ble_eq_true rfl⟩) hK hP hD hS hA (is := [0, 1, 4]) rfl rfl 0 rfl rfl rfl rfl hl.1 rfl (Nat.le_of_ble_eq_true rfl) dL_leastBid_142 ⟨Nat.le_of_ble_eq_true rfl, Nat.le_of_ble_eq_true rfl⟩ rfl (fun H locs hP hD hS => ?_)
                    refine lv_iload hx hb dL_leastBid_145 (lv_at hl 1 rfl) ?_
                    refine lv_icmp_ne (tgt := 169) hx hb dL_leastBid_147 (by decide) (fun c138 => ?_) (fun c138 => ?_)
                    · rw [if_neg c138] at hf
                      refine lv_iconst (v := (0:Int32)) hx hb dL_leastBid_169 (by decide) ?_
                      cases hf
                      exact g_zret hx hb hr gz0 hlocks hP hS dL_leastBid_170
                    · rw [if_pos c138] at hf
                      refine lv_aload_n hx hb dL_leastBid_150 rfl (lv_at hl 4 rfl) ?_
                      obtain ⟨q139, hq139, hf⟩ := bd_some hf
                      refine g_callVi S (As := []) (gs' := [maW a0 (a1 0) (a2 0) (a3 0) (a4 0) (a7 0 0) (a8 0) (a9 0) (a9 1), stW G a1 q137.2.1, stW G a2 q139.2.1, rdW G a3 q139.2.2, paW G a7 q137.2.2]) (c_X5_winner l G a0 a1 a2 a3 a4 a5 a6 a7 a8 a9 a10 a11 q137.2.1 q115.2.1 q115.2.2 hq139) (cwV 0 hts gL_leastBid_X5_winner rfl rfl rfl hd_X5_winner ⟨Nat.le_of_ble_eq_true rfl, Nat.le_of_ble_eq_true rfl⟩) hK hP hD hS hA (is := [0, 1, 2, 3]) rfl rfl 0 rfl rfl rfl rfl hl.1 rfl (Nat.le_of_ble_eq_true rfl) dL_leastBid_151 ⟨Nat.le_of_ble_eq_true rfl, Nat.le_of_ble_eq_true rfl⟩ rfl (fun H locs hP hD hS => ?_)
                      refine lv_iload_n hx hb dL_leastBid_154 rfl (lv_at hl 5 rfl) ?_
                      refine lv_icmp_eq (tgt := 169) hx hb dL_leastBid_155 (by decide) (fun c140 => ?_) (fun c140 => ?_)
                      · rw [if_pos c140] at hf
                        refine lv_iconst (v := (0:Int32)) hx hb dL_leastBid_169 (by decide) ?_
                        cases hf
                        exact g_zret hx hb hr gz0 hlocks hP hS dL_leastBid_170
                      · rw [if_neg c140] at hf
                        refine lv_aload_n hx hb dL_leastBid_158 rfl (lv_at hl 4 rfl) ?_
                        obtain ⟨q141, hq141, hf⟩ := bd_some hf
                        refine g_callVi S (As := []) (gs' := [maW a0 (a1 0) (a2 0) (a3 0) (a4 0) (a7 0 0) (a8 0) (a9 0) (a9 1), stW G a1 q141.2.1, stW G a2 q139.2.1, rdW G a3 q139.2.2, paW G a7 q141.2.2]) (c_X5_undo l G a0 a1 a2 a3 a4 a5 a6 a7 a8 a9 a10 a11 q137.2.1 q137.2.2 hq141) (cwV 0 hts gL_leastBid_X5_undo rfl rfl rfl hd_X5_undo ⟨Nat.le_of_ble_eq_true rfl, Nat.le_of_ble_eq_true rfl⟩) hK hP hD hS hA (is := [0, 1, 4]) rfl rfl 0 rfl rfl rfl rfl hl.1 rfl (Nat.le_of_ble_eq_true rfl) dL_leastBid_159 ⟨Nat.le_of_ble_eq_true rfl, Nat.le_of_ble_eq_true rfl⟩ rfl (fun H locs hP hD hS => ?_)
                        refine lv_if_lt (tgt := 169) hx hb dL_leastBid_162 (by decide) (fun c142 => ?_) (fun c142 => ?_)
                        · rw [if_pos c142] at hf
                          refine lv_iconst (v := (0:Int32)) hx hb dL_leastBid_169 (by decide) ?_
                          cases hf
                          exact g_zret hx hb hr gz0 hlocks hP hS dL_leastBid_170
                        · rw [if_neg c142] at hf
                          refine lv_iconst (v := (1:Int32)) hx hb dL_leastBid_165 (by decide) ?_
                          refine lv_goto (tgt := 170) hx hb dL_leastBid_166 (by decide) ?_
                          cases hf
                          exact g_zret hx hb hr gz1 hlocks hP hS dL_leastBid_170
        · rw [if_pos c104] at hf
          refine lv_aload_n hx hb dL_leastBid_61 rfl (lv_at hl 3 rfl) ?_
          refine lv_iload_n hx hb dL_leastBid_62 rfl (lv_at hl 4 rfl) ?_
          refine lv_sipush (v := (999:Int32)) hx hb dL_leastBid_63 (by decide) ?_
          obtain ⟨q143, hq143, hf⟩ := bd_some hf
          refine g_callVi S (As := [.int i1, .int (999:Int32)]) (gs' := [maW a0 (a1 0) (a2 0) (a3 0) (a4 0) (a7 0 0) (a8 0) (a9 0) (a9 1), stW G a1 q143.2.1, stW G a2 q1.2.1, rdW G a3 q1.2.2, paW G a7 q143.2.2]) (c_X5_bid l G a0 a1 a2 a3 a4 a5 a6 a7 a8 a9 a10 a11 v1 v7 i1 (999:Int32) hq143) (cwV 2 hts gL_leastBid_X5_bid rfl rfl rfl hd_X5_bid ⟨Nat.le_of_ble_eq_true rfl, Nat.le_of_ble_eq_true rfl⟩) hK hP hD hS hA (is := [0, 1, 4]) rfl rfl 0 rfl rfl rfl rfl hl.1 rfl (Nat.le_of_ble_eq_true rfl) dL_leastBid_66 ⟨Nat.le_of_ble_eq_true rfl, Nat.le_of_ble_eq_true rfl⟩ rfl (fun H locs hP hD hS => ?_)
          refine lv_iload hx hb dL_leastBid_69 (lv_at hl 0 rfl) ?_
          refine lv_icmp_ne (tgt := 93) hx hb dL_leastBid_71 (by decide) (fun c144 => ?_) (fun c144 => ?_)
          · rw [if_neg c144] at hf
            refine lv_iconst (v := (0:Int32)) hx hb dL_leastBid_93 (by decide) ?_
            cases hf
            exact g_zret hx hb hr gz0 hlocks hP hS dL_leastBid_94
          · rw [if_pos c144] at hf
            refine lv_aload_n hx hb dL_leastBid_74 rfl (lv_at hl 3 rfl) ?_
            obtain ⟨q145, hq145, hf⟩ := bd_some hf
            refine g_callVi S (As := []) (gs' := [maW a0 (a1 0) (a2 0) (a3 0) (a4 0) (a7 0 0) (a8 0) (a9 0) (a9 1), stW G a1 q143.2.1, stW G a2 q145.2.1, rdW G a3 q145.2.2, paW G a7 q143.2.2]) (c_X5_winner l G a0 a1 a2 a3 a4 a5 a6 a7 a8 a9 a10 a11 q143.2.1 q1.2.1 q1.2.2 hq145) (cwV 0 hts gL_leastBid_X5_winner rfl rfl rfl hd_X5_winner ⟨Nat.le_of_ble_eq_true rfl, Nat.le_of_ble_eq_true rfl⟩) hK hP hD hS hA (is := [0, 1, 2, 3]) rfl rfl 0 rfl rfl rfl rfl hl.1 rfl (Nat.le_of_ble_eq_true rfl) dL_leastBid_75 ⟨Nat.le_of_ble_eq_true rfl, Nat.le_of_ble_eq_true rfl⟩ rfl (fun H locs hP hD hS => ?_)
            refine lv_iload_n hx hb dL_leastBid_78 rfl (lv_at hl 4 rfl) ?_
            refine lv_icmp_eq (tgt := 93) hx hb dL_leastBid_79 (by decide) (fun c146 => ?_) (fun c146 => ?_)
            · rw [if_pos c146] at hf
              refine lv_iconst (v := (0:Int32)) hx hb dL_leastBid_93 (by decide) ?_
              cases hf
              exact g_zret hx hb hr gz0 hlocks hP hS dL_leastBid_94
            · rw [if_neg c146] at hf
              refine lv_aload_n hx hb dL_leastBid_82 rfl (lv_at hl 3 rfl) ?_
              obtain ⟨q147, hq147, hf⟩ := bd_some hf
              refine g_callVi S (As := []) (gs' := [maW a0 (a1 0) (a2 0) (a3 0) (a4 0) (a7 0 0) (a8 0) (a9 0) (a9 1), stW G a1 q147.2.1, stW G a2 q145.2.1, rdW G a3 q145.2.2, paW G a7 q147.2.2]) (c_X5_undo l G a0 a1 a2 a3 a4 a5 a6 a7 a8 a9 a10 a11 q143.2.1 q143.2.2 hq147) (cwV 0 hts gL_leastBid_X5_undo rfl rfl rfl hd_X5_undo ⟨Nat.le_of_ble_eq_true rfl, Nat.le_of_ble_eq_true rfl⟩) hK hP hD hS hA (is := [0, 1, 4]) rfl rfl 0 rfl rfl rfl rfl hl.1 rfl (Nat.le_of_ble_eq_true rfl) dL_leastBid_83 ⟨Nat.le_of_ble_eq_true rfl, Nat.le_of_ble_eq_true rfl⟩ rfl (fun H locs hP hD hS => ?_)
              refine lv_if_lt (tgt := 93) hx hb dL_leastBid_86 (by decide) (fun c148 => ?_) (fun c148 => ?_)
              · rw [if_pos c148] at hf
                refine lv_iconst (v := (0:Int32)) hx hb dL_leastBid_93 (by decide) ?_
                cases hf
                exact g_zret hx hb hr gz0 hlocks hP hS dL_leastBid_94
              · rw [if_neg c148] at hf
                refine lv_iconst (v := (1:Int32)) hx hb dL_leastBid_89 (by decide) ?_
                refine lv_goto (tgt := 94) hx hb dL_leastBid_90 (by decide) ?_
                cases hf
                exact g_zret hx hb hr gz1 hlocks hP hS dL_leastBid_94
      · rw [if_pos c102] at hf
        refine lv_iload_n hx hb dL_leastBid_35 rfl (lv_at hl 1 rfl) ?_
        refine lv_ldc (v := (-99999:Int32)) hx hb hown (hts _ kL_leastBid_0) dL_leastBid_36 ?_
        refine lv_icmp_ne (tgt := 45) hx hb dL_leastBid_38 (by decide) (fun c149 => ?_) (fun c149 => ?_)
        · rw [if_neg c149] at hf
          refine lv_iconst (v := (0:Int32)) hx hb dL_leastBid_45 (by decide) ?_
          cases hf
          exact g_zret hx hb hr gz0 hlocks hP hS dL_leastBid_46
        · rw [if_pos c149] at hf
          refine lv_iconst (v := (1:Int32)) hx hb dL_leastBid_41 (by decide) ?_
          refine lv_goto (tgt := 46) hx hb dL_leastBid_42 (by decide) ?_
          cases hf
          exact g_zret hx hb hr gz1 hlocks hP hS dL_leastBid_46
theorem kL_month_0 : Cond.constant RL 29 (-99999) ∈ wsL_month := (List.mem_cons_of_mem _ (List.mem_append_left _ (List.mem_append_left _ (List.mem_append_left _ (List.mem_append_left _ (List.mem_append_left _ (List.mem_append_left _ (List.mem_append_left _ (List.mem_append_left _ (List.mem_of_getElem? (i := 0) rfl))))))))))
set_option maxHeartbeats 4000000 in
set_option maxRecDepth 100000 in
theorem w_L_month_47 {p : Program} {l : Launch} {e : Env} {s : State} {m : MethodId} {args : Array Value} {below : List Frame} {meth : Method} {c : Code} {A : Nat → Prop} {Q : State → Prop} (S : Ev p s m args meth c cL_month 11 (some .boolean) yL_month.cls wsL_month) {G : uG} (hK : kK G s) (hA : ∀ q, s.heap.size ≤ q → A q) (_ : uG) (a0 : Nat → Nat) (a1 : Nat → Nat) (a2 : Nat → Nat) (a3 : Nat → Nat) (a4 : Nat → Nat) (a5 : Nat → Nat) (a6 : Nat → Nat) (a7 : Nat → Nat → Nat) (a8 : Nat → Nat) (a9 : Nat → Nat) (a10 : Nat → Nat) (a11 : Nat → Nat) (a12 : Nat → Nat) (v1 : StV) (v7 : PaV) (p1 : Int32) (p3 : Int32) (p4 : Int32) (p5 : Int32) (p6 : Int32) (p7 : Int32) : ∀ (n : Nat) (z : (Int32 × StV × RdV × ArV)) (e1 : (Int32 × StV × RdV × ArV)), lp (b_L_month_47 v1 v7 p1 p3 p4 p5 p6 p7) n z = some e1 → ∀ (H : Heap) (locs : List Loc) (ls : Array Slot), gP G [maW a0 (a1 0) (a2 0) (a3 0) (a4 0) (a7 0 0) (a8 0) (a9 0) (a9 1), stW G a1 v1, stW G a2 z.2.1, rdW G a3 z.2.2.1, paW G a7 v7, arW G a12 z.2.2.2] H → gD A [maW a0 (a1 0) (a2 0) (a3 0) (a4 0) (a7 0 0) (a8 0) (a9 0) (a9 1), stW G a1 v1, stW G a2 z.2.1, rdW G a3 z.2.2.1, paW G a7 v7, arW G a12 z.2.2.2] → va_S A s.heap H locs → lv_has ls 11 [(0, .ref (a0 0)), (1, .int p1), (2, .ref (a12 0)), (3, .int p3), (4, .int p4), (5, .int p5), (6, .int p6), (7, .int p7), (8, .int z.1)] → (∀ (H : Heap) (locs : List Loc) (ls : Array Slot), gP G [maW a0 (a1 0) (a2 0) (a3 0) (a4 0) (a7 0 0) (a8 0) (a9 0) (a9 1), stW G a1 v1, stW G a2 e1.2.1, rdW G a3 e1.2.2.1, paW G a7 v7, arW G a12 e1.2.2.2] H → gD A [maW a0 (a1 0) (a2 0) (a3 0) (a4 0) (a7 0 0) (a8 0) (a9 0) (a9 1), stW G a1 v1, stW G a2 e1.2.1, rdW G a3 e1.2.2.1, paW G a7 v7, arW G a12 e1.2.2.2] → va_S A s.heap H locs → lv_has ls 11 [(0, .ref (a0 0)), (1, .int p1), (2, .ref (a12 0)), (3, .int p3), (4, .int p4), (5, .int p5), (6, .int p6), (7, .int p7), (8, .int e1.1)] → W p l e ({ frames := 5, cells := 0, slots := 0, locals := 116 } : Room) s m args below meth c H locs 0 0 Q (F0 m 90 ls [])) → W p l e ({ frames := 5, cells := 0, slots := 0, locals := 116 } : Room) s m args below meth c H locs 0 0 Q (F0 m 47 ls []) := by
  obtain ⟨hx, hb, hml, hown, hts, hr, hlocks⟩ := id S
  intro n
  induction n with
  | zero => intro z e1 h; cases h
  | succ n ih =>
    intro z e1 hlp H locs ls hP hD hS hl K
    obtain ⟨z9, hf, hz⟩ := lp_s hlp
    unfold b_L_month_47 at hf
    refine lv_iload hx hb dL_month_47 (lv_at hl 8 rfl) ?_
    refine lv_iload_n hx hb dL_month_49 rfl (lv_at hl 1 rfl) ?_
    refine lv_icmp_ge (tgt := 90) hx hb dL_month_50 (by decide) (fun c8 => ?_) (fun c8 => ?_)
    · rw [if_pos c8] at hf
      have he := lz_r hf hz
      subst he
      exact K H locs ls hP hD hS (lv_sub hl [0, 1, 2, 3, 4, 5, 6, 7, 8] rfl)
    · rw [if_neg c8] at hf
      refine lv_aload_n hx hb dL_month_53 rfl (lv_at hl 2 rfl) ?_
      refine lv_iload hx hb dL_month_54 (lv_at hl 8 rfl) ?_
      refine lv_aload_n hx hb dL_month_56 rfl (lv_at hl 0 rfl) ?_
      refine lv_iload hx hb dL_month_57 (lv_at hl 8 rfl) ?_
      refine lv_iconst (v := (0:Int32)) hx hb dL_month_59 (by decide) ?_
      obtain ⟨q9, hq9, hf⟩ := bd_some hf
      refine g_callVi S (As := [.int z.1, .int (0:Int32)]) (gs' := [maW a0 (a1 0) (a2 0) (a3 0) (a4 0) (a7 0 0) (a8 0) (a9 0) (a9 1), stW G a1 v1, stW G a2 z.2.1, rdW G a3 z.2.2.1, paW G a7 v7, arW G a12 z.2.2.2]) (c_X5_member l G a0 a1 a2 a3 a4 a5 a6 a7 a8 a9 a10 a11 v1 z.1 (0:Int32) hq9) (cwV 2 hts gL_month_X5_member rfl rfl rfl hd_X5_member ⟨Nat.le_of_ble_eq_true rfl, Nat.le_of_ble_eq_true rfl⟩) hK hP hD hS hA (is := [0, 1]) rfl rfl 0 rfl rfl rfl rfl hl.1 rfl (Nat.le_of_ble_eq_true rfl) dL_month_60 ⟨Nat.le_of_ble_eq_true rfl, Nat.le_of_ble_eq_true rfl⟩ rfl (fun H locs hP hD hS => ?_)
      refine lv_aload_n hx hb dL_month_63 rfl (lv_at hl 0 rfl) ?_
      refine lv_iload hx hb dL_month_64 (lv_at hl 8 rfl) ?_
      obtain ⟨q10, hq10, hf⟩ := bd_some hf
      refine g_callVi S (As := [.int z.1]) (gs' := [maW a0 (a1 0) (a2 0) (a3 0) (a4 0) (a7 0 0) (a8 0) (a9 0) (a9 1), stW G a1 v1, stW G a2 q10.2.1, rdW G a3 q10.2.2, paW G a7 v7, arW G a12 z.2.2.2]) (c_X5_change l G a0 a1 a2 a3 a4 a5 a6 a7 a8 a9 a10 a11 v1 z.2.1 z.2.2.1 z.1 hq10) (cwV 1 hts gL_month_X5_change rfl rfl rfl hd_X5_change ⟨Nat.le_of_ble_eq_true rfl, Nat.le_of_ble_eq_true rfl⟩) hK hP hD hS hA (is := [0, 1, 2, 3]) rfl rfl 0 rfl rfl rfl rfl hl.1 rfl (Nat.le_of_ble_eq_true rfl) dL_month_66 ⟨Nat.le_of_ble_eq_true rfl, Nat.le_of_ble_eq_true rfl⟩ rfl (fun H locs hP hD hS => ?_)
      refine lv_iadd hx hb dL_month_69 ?_
      obtain ⟨h11, hf⟩ := gi_some hf
      obtain ⟨u12, eu12, hf⟩ := lt_some hf
      refine g_iast (gs' := [maW a0 (a1 0) (a2 0) (a3 0) (a4 0) (a7 0 0) (a8 0) (a9 0) (a9 1), stW G a1 v1, stW G a2 q10.2.1, rdW G a3 q10.2.2, paW G a7 v7, arW G a12 u12]) hx hb hK hP hD hS 5 0 0 rfl rfl rfl h11 dL_month_70 (by rw [eu12]; rfl) (fun H locs hP hD hS => ?_)
      refine lv_aload_n hx hb dL_month_71 rfl (lv_at hl 2 rfl) ?_
      refine lv_bipush (v := (8:Int32)) hx hb dL_month_72 (by decide) ?_
      refine lv_iload hx hb dL_month_74 (lv_at hl 8 rfl) ?_
      refine lv_iadd hx hb dL_month_76 ?_
      refine lv_aload_n hx hb dL_month_77 rfl (lv_at hl 0 rfl) ?_
      refine lv_iload hx hb dL_month_78 (lv_at hl 8 rfl) ?_
      obtain ⟨q13, hq13, hf⟩ := bd_some hf
      refine g_callVi S (As := [.int z.1]) (gs' := [maW a0 (a1 0) (a2 0) (a3 0) (a4 0) (a7 0 0) (a8 0) (a9 0) (a9 1), stW G a1 v1, stW G a2 q13.2.1, rdW G a3 q13.2.2, paW G a7 v7, arW G a12 u12]) (c_X5_when l G a0 a1 a2 a3 a4 a5 a6 a7 a8 a9 a10 a11 v1 q10.2.1 q10.2.2 z.1 hq13) (cwV 1 hts gL_month_X5_when rfl rfl rfl hd_X5_when ⟨Nat.le_of_ble_eq_true rfl, Nat.le_of_ble_eq_true rfl⟩) hK hP hD hS hA (is := [0, 1, 2, 3]) rfl rfl 0 rfl rfl rfl rfl hl.1 rfl (Nat.le_of_ble_eq_true rfl) dL_month_80 ⟨Nat.le_of_ble_eq_true rfl, Nat.le_of_ble_eq_true rfl⟩ rfl (fun H locs hP hD hS => ?_)
      obtain ⟨h14, hf⟩ := gi_some hf
      obtain ⟨u15, eu15, hf⟩ := lt_some hf
      refine g_iast (gs' := [maW a0 (a1 0) (a2 0) (a3 0) (a4 0) (a7 0 0) (a8 0) (a9 0) (a9 1), stW G a1 v1, stW G a2 q13.2.1, rdW G a3 q13.2.2, paW G a7 v7, arW G a12 u15]) hx hb hK hP hD hS 5 0 0 rfl rfl rfl h14 dL_month_83 (by rw [eu15]; rfl) (fun H locs hP hD hS => ?_)
      obtain ⟨x16, ex16, hf⟩ := lt_some hf
      refine lv_iinc (v := x16) (lv' := [(8, .int x16), (0, .ref (a0 0)), (1, .int p1), (2, .ref (a12 0)), (3, .int p3), (4, .int p4), (5, .int p5), (6, .int p6), (7, .int p7)]) hx hb dL_month_84 hl (k := 8) rfl (by rw [ex16]; rfl) (by decide) rfl (fun ls hl => ?_)
      refine lv_goto (tgt := 47) hx hb dL_month_87 (by decide) ?_
      exact ih _ e1 (lz_l hf hz) H locs ls hP hD hS (lv_sub hl [1, 2, 3, 4, 5, 6, 7, 8, 0] rfl) K
set_option maxHeartbeats 4000000 in
set_option maxRecDepth 100000 in
theorem w_L_month_201 {p : Program} {l : Launch} {e : Env} {s : State} {m : MethodId} {args : Array Value} {below : List Frame} {meth : Method} {c : Code} {A : Nat → Prop} {q : Int32 × (StV × StV × RdV × PaV × ArV)} (S : Ev p s m args meth c cL_month 11 (some .boolean) yL_month.cls wsL_month) {G : uG} (hK : kK G s) (hA : ∀ q, s.heap.size ≤ q → A q) (_ : uG) (a0 : Nat → Nat) (a1 : Nat → Nat) (a2 : Nat → Nat) (a3 : Nat → Nat) (a4 : Nat → Nat) (a5 : Nat → Nat) (a6 : Nat → Nat) (a7 : Nat → Nat → Nat) (a8 : Nat → Nat) (a9 : Nat → Nat) (a10 : Nat → Nat) (a11 : Nat → Nat) (a12 : Nat → Nat) (v1 : StV) (v7 : PaV) (v12 : ArV) (p1 : Int32) (p4 : Int32) (p5 : Int32) (p6 : Int32) (p8 : Int32) (p9 : Int32) : ∀ (n : Nat) (z : (Int32 × StV × RdV)) (e1 : ((Int32 × StV × RdV) ⊕ (Int32 × (StV × StV × RdV × PaV × ArV)))) (_ : ∀ r, e1 = Sum.inr r → r = q), lp (b_L_month_201 v1 v7 v12 p1 p4 p5 p6 p8 p9) n z = some e1 → ∀ (H : Heap) (locs : List Loc) (ls : Array Slot), gP G [maW a0 (a1 0) (a2 0) (a3 0) (a4 0) (a7 0 0) (a8 0) (a9 0) (a9 1), stW G a1 v1, stW G a2 z.2.1, rdW G a3 z.2.2, paW G a7 v7, arW G a12 v12] H → gD A [maW a0 (a1 0) (a2 0) (a3 0) (a4 0) (a7 0 0) (a8 0) (a9 0) (a9 1), stW G a1 v1, stW G a2 z.2.1, rdW G a3 z.2.2, paW G a7 v7, arW G a12 v12] → va_S A s.heap H locs → lv_has ls 11 [(0, .ref (a0 0)), (1, .int p1), (2, .ref (a12 0)), (4, .int p4), (5, .int p5), (6, .int p6), (8, .int p8), (9, .int p9), (10, .int z.1)] → (∀ (s1 : (Int32 × StV × RdV)), e1 = .inl s1 → ∀ (H : Heap) (locs : List Loc) (ls : Array Slot), gP G [maW a0 (a1 0) (a2 0) (a3 0) (a4 0) (a7 0 0) (a8 0) (a9 0) (a9 1), stW G a1 v1, stW G a2 s1.2.1, rdW G a3 s1.2.2, paW G a7 v7, arW G a12 v12] H → gD A [maW a0 (a1 0) (a2 0) (a3 0) (a4 0) (a7 0 0) (a8 0) (a9 0) (a9 1), stW G a1 v1, stW G a2 s1.2.1, rdW G a3 s1.2.2, paW G a7 v7, arW G a12 v12] → va_S A s.heap H locs → lv_has ls 11 [(0, .ref (a0 0)), (1, .int p1), (2, .ref (a12 0)), (4, .int p4), (5, .int p5), (6, .int p6), (8, .int p8), (9, .int p9), (10, .int s1.1)] → W p l e ({ frames := 5, cells := 0, slots := 0, locals := 116 } : Room) s m args below meth c H locs 0 0 (MQ below (qI G [maW a0 (a1 0) (a2 0) (a3 0) (a4 0) (a7 0 0) (a8 0) (a9 0) (a9 1), stW G a1 q.2.1, stW G a2 q.2.2.1, rdW G a3 q.2.2.2.1, paW G a7 q.2.2.2.2.1, arW G a12 q.2.2.2.2.2] q.1 A) args s 0 0 A) (F0 m 291 ls [])) → W p l e ({ frames := 5, cells := 0, slots := 0, locals := 116 } : Room) s m args below meth c H locs 0 0 (MQ below (qI G [maW a0 (a1 0) (a2 0) (a3 0) (a4 0) (a7 0 0) (a8 0) (a9 0) (a9 1), stW G a1 q.2.1, stW G a2 q.2.2.1, rdW G a3 q.2.2.2.1, paW G a7 q.2.2.2.2.1, arW G a12 q.2.2.2.2.2] q.1 A) args s 0 0 A) (F0 m 201 ls []) := by
  obtain ⟨hx, hb, hml, hown, hts, hr, hlocks⟩ := id S
  intro n
  induction n with
  | zero => intro z e1 hE h; cases h
  | succ n ih =>
    intro z e1 hE hlp H locs ls hP hD hS hl K
    obtain ⟨z9, hf, hz⟩ := lp_s hlp
    unfold b_L_month_201 at hf
    refine lv_iload hx hb dL_month_201 (lv_at hl 8 rfl) ?_
    refine lv_iload_n hx hb dL_month_203 rfl (lv_at hl 1 rfl) ?_
    refine lv_icmp_ge (tgt := 291) hx hb dL_month_204 (by decide) (fun c34 => ?_) (fun c34 => ?_)
    · rw [if_pos c34] at hf
      have he := lz_r hf hz
      exact K _ he.symm H locs ls hP hD hS (lv_sub hl [0, 1, 2, 3, 4, 5, 6, 7, 8] rfl)
    · rw [if_neg c34] at hf
      refine lv_aload_n hx hb dL_month_207 rfl (lv_at hl 0 rfl) ?_
      refine lv_iload hx hb dL_month_208 (lv_at hl 8 rfl) ?_
      refine lv_iconst (v := (0:Int32)) hx hb dL_month_210 (by decide) ?_
      obtain ⟨q35, hq35, hf⟩ := bd_some hf
      refine g_callVi S (As := [.int z.1, .int (0:Int32)]) (gs' := [maW a0 (a1 0) (a2 0) (a3 0) (a4 0) (a7 0 0) (a8 0) (a9 0) (a9 1), stW G a1 v1, stW G a2 z.2.1, rdW G a3 z.2.2, paW G a7 v7, arW G a12 v12]) (c_X5_member l G a0 a1 a2 a3 a4 a5 a6 a7 a8 a9 a10 a11 v1 z.1 (0:Int32) hq35) (cwV 2 hts gL_month_X5_member rfl rfl rfl hd_X5_member ⟨Nat.le_of_ble_eq_true rfl, Nat.le_of_ble_eq_true rfl⟩) hK hP hD hS hA (is := [0, 1]) rfl rfl 0 rfl rfl rfl rfl hl.1 rfl (Nat.le_of_ble_eq_true rfl) dL_month_211 ⟨Nat.le_of_ble_eq_true rfl, Nat.le_of_ble_eq_true rfl⟩ rfl (fun H locs hP hD hS => ?_)
      refine lv_aload_n hx hb dL_month_214 rfl (lv_at hl 2 rfl) ?_
      refine lv_iload hx hb dL_month_215 (lv_at hl 8 rfl) ?_
      obtain ⟨h36, hf⟩ := gi_some hf
      refine g_iald hx hb hK hP 5 0 0 rfl rfl rfl h36 dL_month_217 ?_
      refine lv_icmp_ne (tgt := 253) hx hb dL_month_218 (by decide) (fun c37 => ?_) (fun c37 => ?_)
      · rw [if_neg c37] at hf
        refine lv_iconst (v := (0:Int32)) hx hb dL_month_253 (by decide) ?_
        have he := lz_r hf hz
        have hq := hE _ he.symm
        subst hq
        exact g_zret hx hb hr gz0 hlocks hP hS dL_month_254
      · rw [if_pos c37] at hf
        refine lv_aload_n hx hb dL_month_221 rfl (lv_at hl 2 rfl) ?_
        refine lv_bipush (v := (8:Int32)) hx hb dL_month_222 (by decide) ?_
        refine lv_iload hx hb dL_month_224 (lv_at hl 8 rfl) ?_
        refine lv_iadd hx hb dL_month_226 ?_
        obtain ⟨h38, hf⟩ := gi_some hf
        refine g_iald hx hb hK hP 5 0 0 rfl rfl rfl h38 dL_month_227 ?_
        refine lv_iload hx hb dL_month_228 (lv_at hl 6 rfl) ?_
        refine lv_icmp_ne (tgt := 237) hx hb dL_month_230 (by decide) (fun c39 => ?_) (fun c39 => ?_)
        · rw [if_neg c39] at hf
          refine lv_iconst (v := (0:Int32)) hx hb dL_month_237 (by decide) ?_
          refine lv_iload hx hb dL_month_238 (lv_at hl 8 rfl) ?_
          refine lv_iload hx hb dL_month_240 (lv_at hl 7 rfl) ?_
          refine lv_icmp_ne (tgt := 249) hx hb dL_month_242 (by decide) (fun c40 => ?_) (fun c40 => ?_)
          · rw [if_neg c40] at hf
            refine lv_iconst (v := (0:Int32)) hx hb dL_month_249 (by decide) ?_
            refine lv_icmp_eq (tgt := 255) hx hb dL_month_250 (by decide) (fun c41 => ?_) (fun c41 => ?_)
            · rw [if_pos c41] at hf
              refine lv_aload_n hx hb dL_month_255 rfl (lv_at hl 2 rfl) ?_
              refine lv_bipush (v := (8:Int32)) hx hb dL_month_256 (by decide) ?_
              refine lv_iload hx hb dL_month_258 (lv_at hl 8 rfl) ?_
              refine lv_iadd hx hb dL_month_260 ?_
              obtain ⟨h42, hf⟩ := gi_some hf
              refine g_iald hx hb hK hP 5 0 0 rfl rfl rfl h42 dL_month_261 ?_
              refine lv_iload hx hb dL_month_262 (lv_at hl 6 rfl) ?_
              refine lv_icmp_le (tgt := 285) hx hb dL_month_264 (by decide) (fun c43 => ?_) (fun c43 => ?_)
              · rw [if_pos c43] at hf
                obtain ⟨x44, ex44, hf⟩ := lt_some hf
                refine lv_iinc (v := x44) (lv' := [(10, .int x44), (0, .ref (a0 0)), (1, .int p1), (2, .ref (a12 0)), (4, .int p4), (5, .int p5), (6, .int p6), (8, .int p8), (9, .int p9)]) hx hb dL_month_285 hl (k := 8) rfl (by rw [ex44]; rfl) (by decide) rfl (fun ls hl => ?_)
                refine lv_goto (tgt := 201) hx hb dL_month_288 (by decide) ?_
                exact ih _ e1 hE (lz_l hf hz) H locs ls hP hD hS (lv_sub hl [1, 2, 3, 4, 5, 6, 7, 8, 0] rfl) K
              · rw [if_neg c43] at hf
                refine lv_aload_n hx hb dL_month_267 rfl (lv_at hl 0 rfl) ?_
                refine lv_iload hx hb dL_month_268 (lv_at hl 8 rfl) ?_
                obtain ⟨q45, hq45, hf⟩ := bd_some hf
                refine g_callVi S (As := [.int z.1]) (gs' := [maW a0 (a1 0) (a2 0) (a3 0) (a4 0) (a7 0 0) (a8 0) (a9 0) (a9 1), stW G a1 v1, stW G a2 q45.2.1, rdW G a3 q45.2.2, paW G a7 v7, arW G a12 v12]) (c_X5_when l G a0 a1 a2 a3 a4 a5 a6 a7 a8 a9 a10 a11 v1 z.2.1 z.2.2 z.1 hq45) (cwV 1 hts gL_month_X5_when rfl rfl rfl hd_X5_when ⟨Nat.le_of_ble_eq_true rfl, Nat.le_of_ble_eq_true rfl⟩) hK hP hD hS hA (is := [0, 1, 2, 3]) rfl rfl 0 rfl rfl rfl rfl hl.1 rfl (Nat.le_of_ble_eq_true rfl) dL_month_270 ⟨Nat.le_of_ble_eq_true rfl, Nat.le_of_ble_eq_true rfl⟩ rfl (fun H locs hP hD hS => ?_)
                refine lv_aload_n hx hb dL_month_273 rfl (lv_at hl 2 rfl) ?_
                refine lv_bipush (v := (8:Int32)) hx hb dL_month_274 (by decide) ?_
                refine lv_iload hx hb dL_month_276 (lv_at hl 8 rfl) ?_
                refine lv_iadd hx hb dL_month_278 ?_
                obtain ⟨h46, hf⟩ := gi_some hf
                refine g_iald hx hb hK hP 5 0 0 rfl rfl rfl h46 dL_month_279 ?_
                refine lv_icmp_eq (tgt := 285) hx hb dL_month_280 (by decide) (fun c47 => ?_) (fun c47 => ?_)
                · rw [if_pos c47] at hf
                  obtain ⟨x48, ex48, hf⟩ := lt_some hf
                  refine lv_iinc (v := x48) (lv' := [(10, .int x48), (0, .ref (a0 0)), (1, .int p1), (2, .ref (a12 0)), (4, .int p4), (5, .int p5), (6, .int p6), (8, .int p8), (9, .int p9)]) hx hb dL_month_285 hl (k := 8) rfl (by rw [ex48]; rfl) (by decide) rfl (fun ls hl => ?_)
                  refine lv_goto (tgt := 201) hx hb dL_month_288 (by decide) ?_
                  exact ih _ e1 hE (lz_l hf hz) H locs ls hP hD hS (lv_sub hl [1, 2, 3, 4, 5, 6, 7, 8, 0] rfl) K
                · rw [if_neg c47] at hf
                  refine lv_iconst (v := (0:Int32)) hx hb dL_month_283 (by decide) ?_
                  have he := lz_r hf hz
                  have hq := hE _ he.symm
                  subst hq
                  exact g_zret hx hb hr gz0 hlocks hP hS dL_month_284
            · rw [if_neg c41] at hf
              refine lv_iconst (v := (0:Int32)) hx hb dL_month_253 (by decide) ?_
              have he := lz_r hf hz
              have hq := hE _ he.symm
              subst hq
              exact g_zret hx hb hr gz0 hlocks hP hS dL_month_254
          · rw [if_pos c40] at hf
            refine lv_iconst (v := (1:Int32)) hx hb dL_month_245 (by decide) ?_
            refine lv_goto (tgt := 250) hx hb dL_month_246 (by decide) ?_
            refine lv_icmp_eq (tgt := 255) hx hb dL_month_250 (by decide) (fun c49 => ?_) (fun c49 => ?_)
            · rw [if_pos c49] at hf
              refine lv_aload_n hx hb dL_month_255 rfl (lv_at hl 2 rfl) ?_
              refine lv_bipush (v := (8:Int32)) hx hb dL_month_256 (by decide) ?_
              refine lv_iload hx hb dL_month_258 (lv_at hl 8 rfl) ?_
              refine lv_iadd hx hb dL_month_260 ?_
              obtain ⟨h50, hf⟩ := gi_some hf
              refine g_iald hx hb hK hP 5 0 0 rfl rfl rfl h50 dL_month_261 ?_
              refine lv_iload hx hb dL_month_262 (lv_at hl 6 rfl) ?_
              refine lv_icmp_le (tgt := 285) hx hb dL_month_264 (by decide) (fun c51 => ?_) (fun c51 => ?_)
              · rw [if_pos c51] at hf
                obtain ⟨x52, ex52, hf⟩ := lt_some hf
                refine lv_iinc (v := x52) (lv' := [(10, .int x52), (0, .ref (a0 0)), (1, .int p1), (2, .ref (a12 0)), (4, .int p4), (5, .int p5), (6, .int p6), (8, .int p8), (9, .int p9)]) hx hb dL_month_285 hl (k := 8) rfl (by rw [ex52]; rfl) (by decide) rfl (fun ls hl => ?_)
                refine lv_goto (tgt := 201) hx hb dL_month_288 (by decide) ?_
                exact ih _ e1 hE (lz_l hf hz) H locs ls hP hD hS (lv_sub hl [1, 2, 3, 4, 5, 6, 7, 8, 0] rfl) K
              · rw [if_neg c51] at hf
                refine lv_aload_n hx hb dL_month_267 rfl (lv_at hl 0 rfl) ?_
                refine lv_iload hx hb dL_month_268 (lv_at hl 8 rfl) ?_
                obtain ⟨q53, hq53, hf⟩ := bd_some hf
                refine g_callVi S (As := [.int z.1]) (gs' := [maW a0 (a1 0) (a2 0) (a3 0) (a4 0) (a7 0 0) (a8 0) (a9 0) (a9 1), stW G a1 v1, stW G a2 q53.2.1, rdW G a3 q53.2.2, paW G a7 v7, arW G a12 v12]) (c_X5_when l G a0 a1 a2 a3 a4 a5 a6 a7 a8 a9 a10 a11 v1 z.2.1 z.2.2 z.1 hq53) (cwV 1 hts gL_month_X5_when rfl rfl rfl hd_X5_when ⟨Nat.le_of_ble_eq_true rfl, Nat.le_of_ble_eq_true rfl⟩) hK hP hD hS hA (is := [0, 1, 2, 3]) rfl rfl 0 rfl rfl rfl rfl hl.1 rfl (Nat.le_of_ble_eq_true rfl) dL_month_270 ⟨Nat.le_of_ble_eq_true rfl, Nat.le_of_ble_eq_true rfl⟩ rfl (fun H locs hP hD hS => ?_)
                refine lv_aload_n hx hb dL_month_273 rfl (lv_at hl 2 rfl) ?_
                refine lv_bipush (v := (8:Int32)) hx hb dL_month_274 (by decide) ?_
                refine lv_iload hx hb dL_month_276 (lv_at hl 8 rfl) ?_
                refine lv_iadd hx hb dL_month_278 ?_
                obtain ⟨h54, hf⟩ := gi_some hf
                refine g_iald hx hb hK hP 5 0 0 rfl rfl rfl h54 dL_month_279 ?_
                refine lv_icmp_eq (tgt := 285) hx hb dL_month_280 (by decide) (fun c55 => ?_) (fun c55 => ?_)
                · rw [if_pos c55] at hf
                  obtain ⟨x56, ex56, hf⟩ := lt_some hf
                  refine lv_iinc (v := x56) (lv' := [(10, .int x56), (0, .ref (a0 0)), (1, .int p1), (2, .ref (a12 0)), (4, .int p4), (5, .int p5), (6, .int p6), (8, .int p8), (9, .int p9)]) hx hb dL_month_285 hl (k := 8) rfl (by rw [ex56]; rfl) (by decide) rfl (fun ls hl => ?_)
                  refine lv_goto (tgt := 201) hx hb dL_month_288 (by decide) ?_
                  exact ih _ e1 hE (lz_l hf hz) H locs ls hP hD hS (lv_sub hl [1, 2, 3, 4, 5, 6, 7, 8, 0] rfl) K
                · rw [if_neg c55] at hf
                  refine lv_iconst (v := (0:Int32)) hx hb dL_month_283 (by decide) ?_
                  have he := lz_r hf hz
                  have hq := hE _ he.symm
                  subst hq
                  exact g_zret hx hb hr gz0 hlocks hP hS dL_month_284
            · rw [if_neg c49] at hf
              refine lv_iconst (v := (0:Int32)) hx hb dL_month_253 (by decide) ?_
              have he := lz_r hf hz
              have hq := hE _ he.symm
              subst hq
              exact g_zret hx hb hr gz0 hlocks hP hS dL_month_254
        · rw [if_pos c39] at hf
          refine lv_iconst (v := (1:Int32)) hx hb dL_month_233 (by decide) ?_
          refine lv_goto (tgt := 238) hx hb dL_month_234 (by decide) ?_
          refine lv_iload hx hb dL_month_238 (lv_at hl 8 rfl) ?_
          refine lv_iload hx hb dL_month_240 (lv_at hl 7 rfl) ?_
          refine lv_icmp_ne (tgt := 249) hx hb dL_month_242 (by decide) (fun c57 => ?_) (fun c57 => ?_)
          · rw [if_neg c57] at hf
            refine lv_iconst (v := (0:Int32)) hx hb dL_month_249 (by decide) ?_
            refine lv_icmp_eq (tgt := 255) hx hb dL_month_250 (by decide) (fun c58 => ?_) (fun c58 => ?_)
            · rw [if_pos c58] at hf
              refine lv_aload_n hx hb dL_month_255 rfl (lv_at hl 2 rfl) ?_
              refine lv_bipush (v := (8:Int32)) hx hb dL_month_256 (by decide) ?_
              refine lv_iload hx hb dL_month_258 (lv_at hl 8 rfl) ?_
              refine lv_iadd hx hb dL_month_260 ?_
              obtain ⟨h59, hf⟩ := gi_some hf
              refine g_iald hx hb hK hP 5 0 0 rfl rfl rfl h59 dL_month_261 ?_
              refine lv_iload hx hb dL_month_262 (lv_at hl 6 rfl) ?_
              refine lv_icmp_le (tgt := 285) hx hb dL_month_264 (by decide) (fun c60 => ?_) (fun c60 => ?_)
              · rw [if_pos c60] at hf
                obtain ⟨x61, ex61, hf⟩ := lt_some hf
                refine lv_iinc (v := x61) (lv' := [(10, .int x61), (0, .ref (a0 0)), (1, .int p1), (2, .ref (a12 0)), (4, .int p4), (5, .int p5), (6, .int p6), (8, .int p8), (9, .int p9)]) hx hb dL_month_285 hl (k := 8) rfl (by rw [ex61]; rfl) (by decide) rfl (fun ls hl => ?_)
                refine lv_goto (tgt := 201) hx hb dL_month_288 (by decide) ?_
                exact ih _ e1 hE (lz_l hf hz) H locs ls hP hD hS (lv_sub hl [1, 2, 3, 4, 5, 6, 7, 8, 0] rfl) K
              · rw [if_neg c60] at hf
                refine lv_aload_n hx hb dL_month_267 rfl (lv_at hl 0 rfl) ?_
                refine lv_iload hx hb dL_month_268 (lv_at hl 8 rfl) ?_
                obtain ⟨q62, hq62, hf⟩ := bd_some hf
                refine g_callVi S (As := [.int z.1]) (gs' := [maW a0 (a1 0) (a2 0) (a3 0) (a4 0) (a7 0 0) (a8 0) (a9 0) (a9 1), stW G a1 v1, stW G a2 q62.2.1, rdW G a3 q62.2.2, paW G a7 v7, arW G a12 v12]) (c_X5_when l G a0 a1 a2 a3 a4 a5 a6 a7 a8 a9 a10 a11 v1 z.2.1 z.2.2 z.1 hq62) (cwV 1 hts gL_month_X5_when rfl rfl rfl hd_X5_when ⟨Nat.le_of_ble_eq_true rfl, Nat.le_of_ble_eq_true rfl⟩) hK hP hD hS hA (is := [0, 1, 2, 3]) rfl rfl 0 rfl rfl rfl rfl hl.1 rfl (Nat.le_of_ble_eq_true rfl) dL_month_270 ⟨Nat.le_of_ble_eq_true rfl, Nat.le_of_ble_eq_true rfl⟩ rfl (fun H locs hP hD hS => ?_)
                refine lv_aload_n hx hb dL_month_273 rfl (lv_at hl 2 rfl) ?_
                refine lv_bipush (v := (8:Int32)) hx hb dL_month_274 (by decide) ?_
                refine lv_iload hx hb dL_month_276 (lv_at hl 8 rfl) ?_
                refine lv_iadd hx hb dL_month_278 ?_
                obtain ⟨h63, hf⟩ := gi_some hf
                refine g_iald hx hb hK hP 5 0 0 rfl rfl rfl h63 dL_month_279 ?_
                refine lv_icmp_eq (tgt := 285) hx hb dL_month_280 (by decide) (fun c64 => ?_) (fun c64 => ?_)
                · rw [if_pos c64] at hf
                  obtain ⟨x65, ex65, hf⟩ := lt_some hf
                  refine lv_iinc (v := x65) (lv' := [(10, .int x65), (0, .ref (a0 0)), (1, .int p1), (2, .ref (a12 0)), (4, .int p4), (5, .int p5), (6, .int p6), (8, .int p8), (9, .int p9)]) hx hb dL_month_285 hl (k := 8) rfl (by rw [ex65]; rfl) (by decide) rfl (fun ls hl => ?_)
                  refine lv_goto (tgt := 201) hx hb dL_month_288 (by decide) ?_
                  exact ih _ e1 hE (lz_l hf hz) H locs ls hP hD hS (lv_sub hl [1, 2, 3, 4, 5, 6, 7, 8, 0] rfl) K
                · rw [if_neg c64] at hf
                  refine lv_iconst (v := (0:Int32)) hx hb dL_month_283 (by decide) ?_
                  have he := lz_r hf hz
                  have hq := hE _ he.symm
                  subst hq
                  exact g_zret hx hb hr gz0 hlocks hP hS dL_month_284
            · rw [if_neg c58] at hf
              refine lv_iconst (v := (0:Int32)) hx hb dL_month_253 (by decide) ?_
              have he := lz_r hf hz
              have hq := hE _ he.symm
              subst hq
              exact g_zret hx hb hr gz0 hlocks hP hS dL_month_254
          · rw [if_pos c57] at hf
            refine lv_iconst (v := (1:Int32)) hx hb dL_month_245 (by decide) ?_
            refine lv_goto (tgt := 250) hx hb dL_month_246 (by decide) ?_
            refine lv_icmp_eq (tgt := 255) hx hb dL_month_250 (by decide) (fun c66 => ?_) (fun c66 => ?_)
            · rw [if_pos c66] at hf
              refine lv_aload_n hx hb dL_month_255 rfl (lv_at hl 2 rfl) ?_
              refine lv_bipush (v := (8:Int32)) hx hb dL_month_256 (by decide) ?_
              refine lv_iload hx hb dL_month_258 (lv_at hl 8 rfl) ?_
              refine lv_iadd hx hb dL_month_260 ?_
              obtain ⟨h67, hf⟩ := gi_some hf
              refine g_iald hx hb hK hP 5 0 0 rfl rfl rfl h67 dL_month_261 ?_
              refine lv_iload hx hb dL_month_262 (lv_at hl 6 rfl) ?_
              refine lv_icmp_le (tgt := 285) hx hb dL_month_264 (by decide) (fun c68 => ?_) (fun c68 => ?_)
              · rw [if_pos c68] at hf
                obtain ⟨x69, ex69, hf⟩ := lt_some hf
                refine lv_iinc (v := x69) (lv' := [(10, .int x69), (0, .ref (a0 0)), (1, .int p1), (2, .ref (a12 0)), (4, .int p4), (5, .int p5), (6, .int p6), (8, .int p8), (9, .int p9)]) hx hb dL_month_285 hl (k := 8) rfl (by rw [ex69]; rfl) (by decide) rfl (fun ls hl => ?_)
                refine lv_goto (tgt := 201) hx hb dL_month_288 (by decide) ?_
                exact ih _ e1 hE (lz_l hf hz) H locs ls hP hD hS (lv_sub hl [1, 2, 3, 4, 5, 6, 7, 8, 0] rfl) K
              · rw [if_neg c68] at hf
                refine lv_aload_n hx hb dL_month_267 rfl (lv_at hl 0 rfl) ?_
                refine lv_iload hx hb dL_month_268 (lv_at hl 8 rfl) ?_
                obtain ⟨q70, hq70, hf⟩ := bd_some hf
                refine g_callVi S (As := [.int z.1]) (gs' := [maW a0 (a1 0) (a2 0) (a3 0) (a4 0) (a7 0 0) (a8 0) (a9 0) (a9 1), stW G a1 v1, stW G a2 q70.2.1, rdW G a3 q70.2.2, paW G a7 v7, arW G a12 v12]) (c_X5_when l G a0 a1 a2 a3 a4 a5 a6 a7 a8 a9 a10 a11 v1 z.2.1 z.2.2 z.1 hq70) (cwV 1 hts gL_month_X5_when rfl rfl rfl hd_X5_when ⟨Nat.le_of_ble_eq_true rfl, Nat.le_of_ble_eq_true rfl⟩) hK hP hD hS hA (is := [0, 1, 2, 3]) rfl rfl 0 rfl rfl rfl rfl hl.1 rfl (Nat.le_of_ble_eq_true rfl) dL_month_270 ⟨Nat.le_of_ble_eq_true rfl, Nat.le_of_ble_eq_true rfl⟩ rfl (fun H locs hP hD hS => ?_)
                refine lv_aload_n hx hb dL_month_273 rfl (lv_at hl 2 rfl) ?_
                refine lv_bipush (v := (8:Int32)) hx hb dL_month_274 (by decide) ?_
                refine lv_iload hx hb dL_month_276 (lv_at hl 8 rfl) ?_
                refine lv_iadd hx hb dL_month_278 ?_
                obtain ⟨h71, hf⟩ := gi_some hf
                refine g_iald hx hb hK hP 5 0 0 rfl rfl rfl h71 dL_month_279 ?_
                refine lv_icmp_eq (tgt := 285) hx hb dL_month_280 (by decide) (fun c72 => ?_) (fun c72 => ?_)
                · rw [if_pos c72] at hf
                  obtain ⟨x73, ex73, hf⟩ := lt_some hf
                  refine lv_iinc (v := x73) (lv' := [(10, .int x73), (0, .ref (a0 0)), (1, .int p1), (2, .ref (a12 0)), (4, .int p4), (5, .int p5), (6, .int p6), (8, .int p8), (9, .int p9)]) hx hb dL_month_285 hl (k := 8) rfl (by rw [ex73]; rfl) (by decide) rfl (fun ls hl => ?_)
                  refine lv_goto (tgt := 201) hx hb dL_month_288 (by decide) ?_
                  exact ih _ e1 hE (lz_l hf hz) H locs ls hP hD hS (lv_sub hl [1, 2, 3, 4, 5, 6, 7, 8, 0] rfl) K
                · rw [if_neg c72] at hf
                  refine lv_iconst (v := (0:Int32)) hx hb dL_month_283 (by decide) ?_
                  have he := lz_r hf hz
                  have hq := hE _ he.symm
                  subst hq
                  exact g_zret hx hb hr gz0 hlocks hP hS dL_month_284
            · rw [if_neg c66] at hf
              refine lv_iconst (v := (0:Int32)) hx hb dL_month_253 (by decide) ?_
              have he := lz_r hf hz
              have hq := hE _ he.symm
              subst hq
              exact g_zret hx hb hr gz0 hlocks hP hS dL_month_254
set_option maxHeartbeats 4000000 in
set_option maxRecDepth 100000 in
theorem c_L_month (l : Launch) (G : uG) (a0 : Nat → Nat) (a1 : Nat → Nat) (a2 : Nat → Nat) (a3 : Nat → Nat) (a4 : Nat → Nat) (a5 : Nat → Nat) (a6 : Nat → Nat) (a7 : Nat → Nat → Nat) (a8 : Nat → Nat) (a9 : Nat → Nat) (a10 : Nat → Nat) (a11 : Nat → Nat) (a12 : Nat → Nat) (v1 : StV) (v2 : StV) (v3 : RdV) (v7 : PaV) (v12 : ArV) (i1 : Int32) {q : Int32 × (StV × StV × RdV × PaV × ArV)} (hf : f_L_month v1 v2 v3 v7 v12 i1 = some q) : mQ l yL_month wsL_month ({ frames := 5, cells := 0, slots := 0, locals := 116 } : Room) G [.ref (a0 0), .int i1, .ref (a12 0)] [maW a0 (a1 0) (a2 0) (a3 0) (a4 0) (a7 0 0) (a8 0) (a9 0) (a9 1), stW G a1 v1, stW G a2 v2, rdW G a3 v3, paW G a7 v7, arW G a12 v12] [maW a0 (a1 0) (a2 0) (a3 0) (a4 0) (a7 0 0) (a8 0) (a9 0) (a9 1), stW G a1 q.2.1, stW G a2 q.2.2.1, rdW G a3 q.2.2.2.1, paW G a7 q.2.2.2.2.1, arW G a12 q.2.2.2.2.2] (qI G [maW a0 (a1 0) (a2 0) (a3 0) (a4 0) (a7 0 0) (a8 0) (a9 0) (a9 1), stW G a1 q.2.1, stW G a2 q.2.2.1, rdW G a3 q.2.2.2.1, paW G a7 q.2.2.2.2.1, arW G a12 q.2.2.2.2.2] q.1) := by
  unfold f_L_month at hf
  refine m_of (cc := cL_month) (maxL := 11) (ret := (some .boolean)) (by decide) rfl rfl (Nat.le_of_ble_eq_true rfl) ?_
  intro p e s m args below meth c A ls S hK hA hP hD hS hl
  obtain ⟨hx, hb, hml, hown, hts, hr, hlocks⟩ := id S
  have hl : lv_has ls 11 [(0, .ref (a0 0)), (1, .int i1), (2, .ref (a12 0))] := hl
  refine lv_aload_n hx hb dL_month_0 rfl (lv_at hl 0 rfl) ?_
  obtain ⟨q1, hq1, hf⟩ := bd_some hf
  refine g_callVi S (As := []) (gs' := [maW a0 (a1 0) (a2 0) (a3 0) (a4 0) (a7 0 0) (a8 0) (a9 0) (a9 1), stW G a1 v1, stW G a2 q1.2.1, rdW G a3 q1.2.2, paW G a7 v7, arW G a12 v12]) (c_X5_winner l G a0 a1 a2 a3 a4 a5 a6 a7 a8 a9 a10 a11 v1 v2 v3 hq1) (cwV 0 hts gL_month_X5_winner rfl rfl rfl hd_X5_winner ⟨Nat.le_of_ble_eq_true rfl, Nat.le_of_ble_eq_true rfl⟩) hK hP hD hS hA (is := [0, 1, 2, 3]) rfl rfl 0 rfl rfl rfl rfl hl.1 rfl (Nat.le_of_ble_eq_true rfl) dL_month_1 ⟨Nat.le_of_ble_eq_true rfl, Nat.le_of_ble_eq_true rfl⟩ rfl (fun H locs hP hD hS => ?_)
  refine lv_istore_n (lv' := [(3, .int q1.1), (0, .ref (a0 0)), (1, .int i1), (2, .ref (a12 0))]) hx hb dL_month_4 rfl hl (by decide) rfl (fun ls hl => ?_)
  refine lv_aload_n hx hb dL_month_5 rfl (lv_at hl 1 rfl) ?_
  obtain ⟨q2, hq2, hf⟩ := bd_some hf
  refine g_callVi S (As := []) (gs' := [maW a0 (a1 0) (a2 0) (a3 0) (a4 0) (a7 0 0) (a8 0) (a9 0) (a9 1), stW G a1 v1, stW G a2 q2.2.1, rdW G a3 q2.2.2, paW G a7 v7, arW G a12 v12]) (c_X5_pot l G a0 a1 a2 a3 a4 a5 a6 a7 a8 a9 a10 a11 v1 q1.2.1 q1.2.2 hq2) (cwV 0 hts gL_month_X5_pot rfl rfl rfl hd_X5_pot ⟨Nat.le_of_ble_eq_true rfl, Nat.le_of_ble_eq_true rfl⟩) hK hP hD hS hA (is := [0, 1, 2, 3]) rfl rfl 0 rfl rfl rfl rfl hl.1 rfl (Nat.le_of_ble_eq_true rfl) dL_month_6 ⟨Nat.le_of_ble_eq_true rfl, Nat.le_of_ble_eq_true rfl⟩ rfl (fun H locs hP hD hS => ?_)
  refine lv_istore (lv' := [(4, .int q2.1), (3, .int q1.1), (0, .ref (a0 0)), (1, .int i1), (2, .ref (a12 0))]) hx hb dL_month_9 hl (by decide) rfl (fun ls hl => ?_)
  refine lv_aload_n hx hb dL_month_11 rfl (lv_at hl 2 rfl) ?_
  refine lv_iconst (v := (4:Int32)) hx hb dL_month_12 (by decide) ?_
  obtain ⟨q3, hq3, hf⟩ := bd_some hf
  refine g_callVi S (As := [.int (4:Int32)]) (gs' := [maW a0 (a1 0) (a2 0) (a3 0) (a4 0) (a7 0 0) (a8 0) (a9 0) (a9 1), stW G a1 v1, stW G a2 q2.2.1, rdW G a3 q2.2.2, paW G a7 v7, arW G a12 v12]) (c_X5_about l G a0 a1 a2 a3 a4 a5 a6 a7 a8 a9 a10 a11 v1 (4:Int32) hq3) (cwV 1 hts gL_month_X5_about rfl rfl rfl hd_X5_about ⟨Nat.le_of_ble_eq_true rfl, Nat.le_of_ble_eq_true rfl⟩) hK hP hD hS hA (is := [0, 1]) rfl rfl 0 rfl rfl rfl rfl hl.1 rfl (Nat.le_of_ble_eq_true rfl) dL_month_13 ⟨Nat.le_of_ble_eq_true rfl, Nat.le_of_ble_eq_true rfl⟩ rfl (fun H locs hP hD hS => ?_)
  refine lv_istore (lv' := [(5, .int q3.1), (4, .int q2.1), (3, .int q1.1), (0, .ref (a0 0)), (1, .int i1), (2, .ref (a12 0))]) hx hb dL_month_16 hl (by decide) rfl (fun ls hl => ?_)
  refine lv_aload_n hx hb dL_month_18 rfl (lv_at hl 3 rfl) ?_
  refine lv_iload_n hx hb dL_month_19 rfl (lv_at hl 4 rfl) ?_
  refine lv_bipush (v := (10:Int32)) hx hb dL_month_20 (by decide) ?_
  obtain ⟨q4, hq4, hf⟩ := bd_some hf
  refine g_callSi S (As := [.ref (a0 0), .int i1, .int (10:Int32)]) (gs' := [maW a0 (a1 0) (a2 0) (a3 0) (a4 0) (a7 0 0) (a8 0) (a9 0) (a9 1), stW G a1 v1, stW G a2 q2.2.1, rdW G a3 q2.2.2, paW G a7 v7, arW G a12 v12]) (c_L_sum l G a0 a1 a2 a3 a4 a5 a6 a7 a8 a9 a10 a11 v1 i1 (10:Int32) hq4) (va_cwS 3 hts gL_month_L_sum rfl rfl rfl hd_L_sum.2 ⟨Nat.le_of_ble_eq_true rfl, Nat.le_of_ble_eq_true rfl⟩) hK hP hD hS hA (is := [0, 1]) rfl rfl rfl hl.1 rfl (Nat.le_of_ble_eq_true rfl) dL_month_22 ⟨Nat.le_of_ble_eq_true rfl, Nat.le_of_ble_eq_true rfl⟩ rfl (fun H locs hP hD hS => ?_)
  refine lv_istore (lv' := [(6, .int q4.1), (5, .int q3.1), (4, .int q2.1), (3, .int q1.1), (0, .ref (a0 0)), (1, .int i1), (2, .ref (a12 0))]) hx hb dL_month_25 hl (by decide) rfl (fun ls hl => ?_)
  refine lv_aload_n hx hb dL_month_27 rfl (lv_at hl 4 rfl) ?_
  refine lv_iload_n hx hb dL_month_28 rfl (lv_at hl 5 rfl) ?_
  refine lv_bipush (v := (6:Int32)) hx hb dL_month_29 (by decide) ?_
  obtain ⟨q5, hq5, hf⟩ := bd_some hf
  refine g_callSi S (As := [.ref (a0 0), .int i1, .int (6:Int32)]) (gs' := [maW a0 (a1 0) (a2 0) (a3 0) (a4 0) (a7 0 0) (a8 0) (a9 0) (a9 1), stW G a1 v1, stW G a2 q2.2.1, rdW G a3 q2.2.2, paW G a7 v7, arW G a12 v12]) (c_L_sum l G a0 a1 a2 a3 a4 a5 a6 a7 a8 a9 a10 a11 v1 i1 (6:Int32) hq5) (va_cwS 3 hts gL_month_L_sum rfl rfl rfl hd_L_sum.2 ⟨Nat.le_of_ble_eq_true rfl, Nat.le_of_ble_eq_true rfl⟩) hK hP hD hS hA (is := [0, 1]) rfl rfl rfl hl.1 rfl (Nat.le_of_ble_eq_true rfl) dL_month_31 ⟨Nat.le_of_ble_eq_true rfl, Nat.le_of_ble_eq_true rfl⟩ rfl (fun H locs hP hD hS => ?_)
  refine lv_aload_n hx hb dL_month_34 rfl (lv_at hl 4 rfl) ?_
  refine lv_iload_n hx hb dL_month_35 rfl (lv_at hl 5 rfl) ?_
  refine lv_bipush (v := (7:Int32)) hx hb dL_month_36 (by decide) ?_
  obtain ⟨q6, hq6, hf⟩ := bd_some hf
  refine g_callSi S (As := [.ref (a0 0), .int i1, .int (7:Int32)]) (gs' := [maW a0 (a1 0) (a2 0) (a3 0) (a4 0) (a7 0 0) (a8 0) (a9 0) (a9 1), stW G a1 v1, stW G a2 q2.2.1, rdW G a3 q2.2.2, paW G a7 v7, arW G a12 v12]) (c_L_sum l G a0 a1 a2 a3 a4 a5 a6 a7 a8 a9 a10 a11 v1 i1 (7:Int32) hq6) (va_cwS 3 hts gL_month_L_sum rfl rfl rfl hd_L_sum.2 ⟨Nat.le_of_ble_eq_true rfl, Nat.le_of_ble_eq_true rfl⟩) hK hP hD hS hA (is := [0, 1]) rfl rfl rfl hl.1 rfl (Nat.le_of_ble_eq_true rfl) dL_month_38 ⟨Nat.le_of_ble_eq_true rfl, Nat.le_of_ble_eq_true rfl⟩ rfl (fun H locs hP hD hS => ?_)
  refine lv_iadd hx hb dL_month_41 ?_
  obtain ⟨x7, ex7, hf⟩ := lt_some hf
  refine lv_nmi ex7 ?_
  refine lv_istore (lv' := [(7, .int x7), (6, .int q4.1), (5, .int q3.1), (4, .int q2.1), (3, .int q1.1), (0, .ref (a0 0)), (1, .int i1), (2, .ref (a12 0))]) hx hb dL_month_42 hl (by decide) rfl (fun ls hl => ?_)
  refine lv_iconst (v := (0:Int32)) hx hb dL_month_44 (by decide) ?_
  refine lv_istore (lv' := [(8, .int (0:Int32)), (7, .int x7), (6, .int q4.1), (5, .int q3.1), (4, .int q2.1), (3, .int q1.1), (0, .ref (a0 0)), (1, .int i1), (2, .ref (a12 0))]) hx hb dL_month_45 hl (by decide) rfl (fun ls hl => ?_)
  obtain ⟨e17, he17, hf⟩ := bd_some hf
  refine w_L_month_47 (Q := _) S hK hA G a0 a1 a2 a3 a4 a5 a6 a7 a8 a9 a10 a11 a12 v1 v7 i1 q1.1 q2.1 q3.1 q4.1 x7 FU _ e17 he17 _ _ _ hP hD hS (lv_sub hl [6, 7, 8, 5, 4, 3, 2, 1, 0] rfl) (fun H locs ls hP hD hS hl => ?_)
  refine lv_aload_n hx hb dL_month_90 rfl (lv_at hl 0 rfl) ?_
  refine lv_iconst (v := (2:Int32)) hx hb dL_month_91 (by decide) ?_
  obtain ⟨q18, hq18, hf⟩ := bd_some hf
  refine g_callVi S (As := [.int (2:Int32)]) (gs' := [maW a0 (a1 0) (a2 0) (a3 0) (a4 0) (a7 0 0) (a8 0) (a9 0) (a9 1), stW G a1 v1, stW G a2 e17.2.1, rdW G a3 e17.2.2.1, paW G a7 v7, arW G a12 e17.2.2.2]) (c_X5_about l G a0 a1 a2 a3 a4 a5 a6 a7 a8 a9 a10 a11 v1 (2:Int32) hq18) (cwV 1 hts gL_month_X5_about rfl rfl rfl hd_X5_about ⟨Nat.le_of_ble_eq_true rfl, Nat.le_of_ble_eq_true rfl⟩) hK hP hD hS hA (is := [0, 1]) rfl rfl 0 rfl rfl rfl rfl hl.1 rfl (Nat.le_of_ble_eq_true rfl) dL_month_92 ⟨Nat.le_of_ble_eq_true rfl, Nat.le_of_ble_eq_true rfl⟩ rfl (fun H locs hP hD hS => ?_)
  refine lv_istore (lv' := [(8, .int q18.1), (0, .ref (a0 0)), (1, .int i1), (2, .ref (a12 0)), (3, .int q1.1), (4, .int q2.1), (5, .int q3.1), (6, .int q4.1), (7, .int x7)]) hx hb dL_month_95 hl (by decide) rfl (fun ls hl => ?_)
  refine lv_aload_n hx hb dL_month_97 rfl (lv_at hl 1 rfl) ?_
  refine lv_iconst (v := (1:Int32)) hx hb dL_month_98 (by decide) ?_
  obtain ⟨q19, hq19, hf⟩ := bd_some hf
  refine g_callVi S (As := [.int (1:Int32)]) (gs' := [maW a0 (a1 0) (a2 0) (a3 0) (a4 0) (a7 0 0) (a8 0) (a9 0) (a9 1), stW G a1 v1, stW G a2 e17.2.1, rdW G a3 e17.2.2.1, paW G a7 v7, arW G a12 e17.2.2.2]) (c_X5_about l G a0 a1 a2 a3 a4 a5 a6 a7 a8 a9 a10 a11 v1 (1:Int32) hq19) (cwV 1 hts gL_month_X5_about rfl rfl rfl hd_X5_about ⟨Nat.le_of_ble_eq_true rfl, Nat.le_of_ble_eq_true rfl⟩) hK hP hD hS hA (is := [0, 1]) rfl rfl 0 rfl rfl rfl rfl hl.1 rfl (Nat.le_of_ble_eq_true rfl) dL_month_99 ⟨Nat.le_of_ble_eq_true rfl, Nat.le_of_ble_eq_true rfl⟩ rfl (fun H locs hP hD hS => ?_)
  refine lv_if_ne (tgt := 122) hx hb dL_month_102 (by decide) (fun c20 => ?_) (fun c20 => ?_)
  · rw [if_neg c20] at hf
    refine lv_aload_n hx hb dL_month_122 rfl (lv_at hl 1 rfl) ?_
    obtain ⟨q21, hq21, hf⟩ := bd_some hf
    refine g_callVi S (As := []) (gs' := [maW a0 (a1 0) (a2 0) (a3 0) (a4 0) (a7 0 0) (a8 0) (a9 0) (a9 1), stW G a1 q21.2.1, stW G a2 e17.2.1, rdW G a3 q21.2.2.1, paW G a7 q21.2.2.2, arW G a12 e17.2.2.2]) (c_X5_month l G a0 a1 a2 a3 a4 a5 a6 a7 a8 a9 a10 a11 v1 e17.2.2.1 v7 hq21) (cwV 0 hts gL_month_X5_month rfl rfl rfl hd_X5_month ⟨Nat.le_of_ble_eq_true rfl, Nat.le_of_ble_eq_true rfl⟩) hK hP hD hS hA (is := [0, 1, 3, 4]) rfl rfl 0 rfl rfl rfl rfl hl.1 rfl (Nat.le_of_ble_eq_true rfl) dL_month_123 ⟨Nat.le_of_ble_eq_true rfl, Nat.le_of_ble_eq_true rfl⟩ rfl (fun H locs hP hD hS => ?_)
    refine lv_istore (lv' := [(9, .int q21.1), (8, .int q18.1), (0, .ref (a0 0)), (1, .int i1), (2, .ref (a12 0)), (3, .int q1.1), (4, .int q2.1), (5, .int q3.1), (6, .int q4.1), (7, .int x7)]) hx hb dL_month_126 hl (by decide) rfl (fun ls hl => ?_)
    refine lv_iload hx hb dL_month_128 (lv_at hl 0 rfl) ?_
    refine lv_iload_n hx hb dL_month_130 rfl (lv_at hl 5 rfl) ?_
    refine lv_icmp_ne (tgt := 196) hx hb dL_month_131 (by decide) (fun c22 => ?_) (fun c22 => ?_)
    · rw [if_neg c22] at hf
      refine lv_iconst (v := (0:Int32)) hx hb dL_month_196 (by decide) ?_
      cases hf
      exact g_zret hx hb hr gz0 hlocks hP hS dL_month_197
    · rw [if_pos c22] at hf
      refine lv_aload_n hx hb dL_month_134 rfl (lv_at hl 2 rfl) ?_
      refine lv_iconst (v := (2:Int32)) hx hb dL_month_135 (by decide) ?_
      obtain ⟨q23, hq23, hf⟩ := bd_some hf
      refine g_callVi S (As := [.int (2:Int32)]) (gs' := [maW a0 (a1 0) (a2 0) (a3 0) (a4 0) (a7 0 0) (a8 0) (a9 0) (a9 1), stW G a1 q21.2.1, stW G a2 e17.2.1, rdW G a3 q21.2.2.1, paW G a7 q21.2.2.2, arW G a12 e17.2.2.2]) (c_X5_about l G a0 a1 a2 a3 a4 a5 a6 a7 a8 a9 a10 a11 q21.2.1 (2:Int32) hq23) (cwV 1 hts gL_month_X5_about rfl rfl rfl hd_X5_about ⟨Nat.le_of_ble_eq_true rfl, Nat.le_of_ble_eq_true rfl⟩) hK hP hD hS hA (is := [0, 1]) rfl rfl 0 rfl rfl rfl rfl hl.1 rfl (Nat.le_of_ble_eq_true rfl) dL_month_136 ⟨Nat.le_of_ble_eq_true rfl, Nat.le_of_ble_eq_true rfl⟩ rfl (fun H locs hP hD hS => ?_)
      refine lv_iload hx hb dL_month_139 (lv_at hl 1 rfl) ?_
      refine lv_iconst (v := (1:Int32)) hx hb dL_month_141 (by decide) ?_
      refine lv_iadd hx hb dL_month_142 ?_
      refine lv_icmp_ne (tgt := 196) hx hb dL_month_143 (by decide) (fun c24 => ?_) (fun c24 => ?_)
      · rw [if_neg c24] at hf
        refine lv_iconst (v := (0:Int32)) hx hb dL_month_196 (by decide) ?_
        cases hf
        exact g_zret hx hb hr gz0 hlocks hP hS dL_month_197
      · rw [if_pos c24] at hf
        refine lv_aload_n hx hb dL_month_146 rfl (lv_at hl 2 rfl) ?_
        refine lv_iload_n hx hb dL_month_147 rfl (lv_at hl 3 rfl) ?_
        refine lv_bipush (v := (6:Int32)) hx hb dL_month_148 (by decide) ?_
        obtain ⟨q25, hq25, hf⟩ := bd_some hf
        refine g_callSi S (As := [.ref (a0 0), .int i1, .int (6:Int32)]) (gs' := [maW a0 (a1 0) (a2 0) (a3 0) (a4 0) (a7 0 0) (a8 0) (a9 0) (a9 1), stW G a1 q21.2.1, stW G a2 e17.2.1, rdW G a3 q21.2.2.1, paW G a7 q21.2.2.2, arW G a12 e17.2.2.2]) (c_L_sum l G a0 a1 a2 a3 a4 a5 a6 a7 a8 a9 a10 a11 q21.2.1 i1 (6:Int32) hq25) (va_cwS 3 hts gL_month_L_sum rfl rfl rfl hd_L_sum.2 ⟨Nat.le_of_ble_eq_true rfl, Nat.le_of_ble_eq_true rfl⟩) hK hP hD hS hA (is := [0, 1]) rfl rfl rfl hl.1 rfl (Nat.le_of_ble_eq_true rfl) dL_month_150 ⟨Nat.le_of_ble_eq_true rfl, Nat.le_of_ble_eq_true rfl⟩ rfl (fun H locs hP hD hS => ?_)
        refine lv_aload_n hx hb dL_month_153 rfl (lv_at hl 2 rfl) ?_
        refine lv_iload_n hx hb dL_month_154 rfl (lv_at hl 3 rfl) ?_
        refine lv_bipush (v := (7:Int32)) hx hb dL_month_155 (by decide) ?_
        obtain ⟨q26, hq26, hf⟩ := bd_some hf
        refine g_callSi S (As := [.ref (a0 0), .int i1, .int (7:Int32)]) (gs' := [maW a0 (a1 0) (a2 0) (a3 0) (a4 0) (a7 0 0) (a8 0) (a9 0) (a9 1), stW G a1 q21.2.1, stW G a2 e17.2.1, rdW G a3 q21.2.2.1, paW G a7 q21.2.2.2, arW G a12 e17.2.2.2]) (c_L_sum l G a0 a1 a2 a3 a4 a5 a6 a7 a8 a9 a10 a11 q21.2.1 i1 (7:Int32) hq26) (va_cwS 3 hts gL_month_L_sum rfl rfl rfl hd_L_sum.2 ⟨Nat.le_of_ble_eq_true rfl, Nat.le_of_ble_eq_true rfl⟩) hK hP hD hS hA (is := [0, 1]) rfl rfl rfl hl.1 rfl (Nat.le_of_ble_eq_true rfl) dL_month_157 ⟨Nat.le_of_ble_eq_true rfl, Nat.le_of_ble_eq_true rfl⟩ rfl (fun H locs hP hD hS => ?_)
        refine lv_iadd hx hb dL_month_160 ?_
        refine lv_iload hx hb dL_month_161 (lv_at hl 9 rfl) ?_
        refine lv_iload hx hb dL_month_163 (lv_at hl 6 rfl) ?_
        refine lv_iadd hx hb dL_month_165 ?_
        refine lv_icmp_ne (tgt := 196) hx hb dL_month_166 (by decide) (fun c27 => ?_) (fun c27 => ?_)
        · rw [if_neg c27] at hf
          refine lv_iconst (v := (0:Int32)) hx hb dL_month_196 (by decide) ?_
          cases hf
          exact g_zret hx hb hr gz0 hlocks hP hS dL_month_197
        · rw [if_pos c27] at hf
          refine lv_iload hx hb dL_month_169 (lv_at hl 6 rfl) ?_
          refine lv_aload_n hx hb dL_month_171 rfl (lv_at hl 2 rfl) ?_
          refine lv_iconst (v := (3:Int32)) hx hb dL_month_172 (by decide) ?_
          obtain ⟨q28, hq28, hf⟩ := bd_some hf
          refine g_callVi S (As := [.int (3:Int32)]) (gs' := [maW a0 (a1 0) (a2 0) (a3 0) (a4 0) (a7 0 0) (a8 0) (a9 0) (a9 1), stW G a1 q21.2.1, stW G a2 e17.2.1, rdW G a3 q21.2.2.1, paW G a7 q21.2.2.2, arW G a12 e17.2.2.2]) (c_X5_about l G a0 a1 a2 a3 a4 a5 a6 a7 a8 a9 a10 a11 q21.2.1 (3:Int32) hq28) (cwV 1 hts gL_month_X5_about rfl rfl rfl hd_X5_about ⟨Nat.le_of_ble_eq_true rfl, Nat.le_of_ble_eq_true rfl⟩) hK hP hD hS hA (is := [0, 1]) rfl rfl 0 rfl rfl rfl rfl hl.1 rfl (Nat.le_of_ble_eq_true rfl) dL_month_173 ⟨Nat.le_of_ble_eq_true rfl, Nat.le_of_ble_eq_true rfl⟩ rfl (fun H locs hP hD hS => ?_)
          obtain ⟨h29, hf⟩ := gz_some hf
          refine lv_irem hx hb dL_month_176 h29 ?_
          refine lv_if_ne (tgt := 196) hx hb dL_month_177 (by decide) (fun c30 => ?_) (fun c30 => ?_)
          · rw [if_neg c30] at hf
            refine lv_iconst (v := (0:Int32)) hx hb dL_month_196 (by decide) ?_
            cases hf
            exact g_zret hx hb hr gz0 hlocks hP hS dL_month_197
          · rw [if_pos c30] at hf
            refine lv_aload_n hx hb dL_month_180 rfl (lv_at hl 2 rfl) ?_
            refine lv_iload_n hx hb dL_month_181 rfl (lv_at hl 3 rfl) ?_
            refine lv_iconst (v := (2:Int32)) hx hb dL_month_182 (by decide) ?_
            obtain ⟨q31, hq31, hf⟩ := bd_some hf
            refine g_callSi S (As := [.ref (a0 0), .int i1, .int (2:Int32)]) (gs' := [maW a0 (a1 0) (a2 0) (a3 0) (a4 0) (a7 0 0) (a8 0) (a9 0) (a9 1), stW G a1 q21.2.1, stW G a2 e17.2.1, rdW G a3 q21.2.2.1, paW G a7 q21.2.2.2, arW G a12 e17.2.2.2]) (c_L_sum l G a0 a1 a2 a3 a4 a5 a6 a7 a8 a9 a10 a11 q21.2.1 i1 (2:Int32) hq31) (va_cwS 3 hts gL_month_L_sum rfl rfl rfl hd_L_sum.2 ⟨Nat.le_of_ble_eq_true rfl, Nat.le_of_ble_eq_true rfl⟩) hK hP hD hS hA (is := [0, 1]) rfl rfl rfl hl.1 rfl (Nat.le_of_ble_eq_true rfl) dL_month_183 ⟨Nat.le_of_ble_eq_true rfl, Nat.le_of_ble_eq_true rfl⟩ rfl (fun H locs hP hD hS => ?_)
            refine lv_aload_n hx hb dL_month_186 rfl (lv_at hl 2 rfl) ?_
            refine lv_iload_n hx hb dL_month_187 rfl (lv_at hl 3 rfl) ?_
            refine lv_iconst (v := (3:Int32)) hx hb dL_month_188 (by decide) ?_
            obtain ⟨q32, hq32, hf⟩ := bd_some hf
            refine g_callSi S (As := [.ref (a0 0), .int i1, .int (3:Int32)]) (gs' := [maW a0 (a1 0) (a2 0) (a3 0) (a4 0) (a7 0 0) (a8 0) (a9 0) (a9 1), stW G a1 q21.2.1, stW G a2 e17.2.1, rdW G a3 q21.2.2.1, paW G a7 q21.2.2.2, arW G a12 e17.2.2.2]) (c_L_sum l G a0 a1 a2 a3 a4 a5 a6 a7 a8 a9 a10 a11 q21.2.1 i1 (3:Int32) hq32) (va_cwS 3 hts gL_month_L_sum rfl rfl rfl hd_L_sum.2 ⟨Nat.le_of_ble_eq_true rfl, Nat.le_of_ble_eq_true rfl⟩) hK hP hD hS hA (is := [0, 1]) rfl rfl rfl hl.1 rfl (Nat.le_of_ble_eq_true rfl) dL_month_189 ⟨Nat.le_of_ble_eq_true rfl, Nat.le_of_ble_eq_true rfl⟩ rfl (fun H locs hP hD hS => ?_)
            refine lv_iadd hx hb dL_month_192 ?_
            refine lv_if_eq (tgt := 198) hx hb dL_month_193 (by decide) (fun c33 => ?_) (fun c33 => ?_)
            · rw [if_pos c33] at hf
              refine lv_iconst (v := (0:Int32)) hx hb dL_month_198 (by decide) ?_
              refine lv_istore (lv' := [(10, .int (0:Int32)), (9, .int q21.1), (8, .int q18.1), (0, .ref (a0 0)), (1, .int i1), (2, .ref (a12 0)), (3, .int q1.1), (4, .int q2.1), (5, .int q3.1), (6, .int q4.1), (7, .int x7)]) hx hb dL_month_199 hl (by decide) rfl (fun ls hl => ?_)
              obtain ⟨e74, he74, hf⟩ := bd_some hf
              refine w_L_month_201 S hK hA G a0 a1 a2 a3 a4 a5 a6 a7 a8 a9 a10 a11 a12 q21.2.1 q21.2.2.2 e17.2.2.2 i1 q2.1 q3.1 q4.1 q18.1 q21.1 FU _ e74 (fun r hr9 => by subst hr9; exact (Option.some.inj hf)) he74 _ _ _ hP hD hS (lv_sub hl [3, 4, 5, 7, 8, 9, 2, 1, 0] rfl) (fun s75 hs9 H locs ls hP hD hS hl => ?_)
              subst hs9
              have hf := el_h hf
              refine lv_iload hx hb dL_month_291 (lv_at hl 7 rfl) ?_
              refine lv_ldc (v := (-99999:Int32)) hx hb hown (hts _ kL_month_0) dL_month_293 ?_
              refine lv_icmp_ne (tgt := 317) hx hb dL_month_295 (by decide) (fun c77 => ?_) (fun c77 => ?_)
              · rw [if_neg c77] at hf
                refine lv_aload_n hx hb dL_month_317 rfl (lv_at hl 0 rfl) ?_
                refine lv_iload hx hb dL_month_318 (lv_at hl 7 rfl) ?_
                refine lv_iconst (v := (4:Int32)) hx hb dL_month_320 (by decide) ?_
                obtain ⟨q78, hq78, hf⟩ := bd_some hf
                refine g_callVi S (As := [.int q21.1, .int (4:Int32)]) (gs' := [maW a0 (a1 0) (a2 0) (a3 0) (a4 0) (a7 0 0) (a8 0) (a9 0) (a9 1), stW G a1 q21.2.1, stW G a2 s75.2.1, rdW G a3 s75.2.2, paW G a7 q21.2.2.2, arW G a12 e17.2.2.2]) (c_X5_member l G a0 a1 a2 a3 a4 a5 a6 a7 a8 a9 a10 a11 q21.2.1 q21.1 (4:Int32) hq78) (cwV 2 hts gL_month_X5_member rfl rfl rfl hd_X5_member ⟨Nat.le_of_ble_eq_true rfl, Nat.le_of_ble_eq_true rfl⟩) hK hP hD hS hA (is := [0, 1]) rfl rfl 0 rfl rfl rfl rfl hl.1 rfl (Nat.le_of_ble_eq_true rfl) dL_month_321 ⟨Nat.le_of_ble_eq_true rfl, Nat.le_of_ble_eq_true rfl⟩ rfl (fun H locs hP hD hS => ?_)
                refine lv_iconst (v := (1:Int32)) hx hb dL_month_324 (by decide) ?_
                refine lv_icmp_ne (tgt := 384) hx hb dL_month_325 (by decide) (fun c79 => ?_) (fun c79 => ?_)
                · rw [if_neg c79] at hf
                  refine lv_iconst (v := (0:Int32)) hx hb dL_month_384 (by decide) ?_
                  cases hf
                  exact g_zret hx hb hr gz0 hlocks hP hS dL_month_385
                · rw [if_pos c79] at hf
                  refine lv_aload_n hx hb dL_month_328 rfl (lv_at hl 0 rfl) ?_
                  refine lv_iload hx hb dL_month_329 (lv_at hl 7 rfl) ?_
                  refine lv_bipush (v := (8:Int32)) hx hb dL_month_331 (by decide) ?_
                  obtain ⟨q80, hq80, hf⟩ := bd_some hf
                  refine g_callVi S (As := [.int q21.1, .int (8:Int32)]) (gs' := [maW a0 (a1 0) (a2 0) (a3 0) (a4 0) (a7 0 0) (a8 0) (a9 0) (a9 1), stW G a1 q21.2.1, stW G a2 s75.2.1, rdW G a3 s75.2.2, paW G a7 q21.2.2.2, arW G a12 e17.2.2.2]) (c_X5_member l G a0 a1 a2 a3 a4 a5 a6 a7 a8 a9 a10 a11 q21.2.1 q21.1 (8:Int32) hq80) (cwV 2 hts gL_month_X5_member rfl rfl rfl hd_X5_member ⟨Nat.le_of_ble_eq_true rfl, Nat.le_of_ble_eq_true rfl⟩) hK hP hD hS hA (is := [0, 1]) rfl rfl 0 rfl rfl rfl rfl hl.1 rfl (Nat.le_of_ble_eq_true rfl) dL_month_333 ⟨Nat.le_of_ble_eq_true rfl, Nat.le_of_ble_eq_true rfl⟩ rfl (fun H locs hP hD hS => ?_)
                  refine lv_iload hx hb dL_month_336 (lv_at hl 3 rfl) ?_
                  refine lv_icmp_gt (tgt := 384) hx hb dL_month_338 (by decide) (fun c81 => ?_) (fun c81 => ?_)
                  · rw [if_pos c81] at hf
                    refine lv_iconst (v := (0:Int32)) hx hb dL_month_384 (by decide) ?_
                    cases hf
                    exact g_zret hx hb hr gz0 hlocks hP hS dL_month_385
                  · rw [if_neg c81] at hf
                    refine lv_iconst (v := (2:Int32)) hx hb dL_month_341 (by decide) ?_
                    refine lv_aload_n hx hb dL_month_342 rfl (lv_at hl 0 rfl) ?_
                    refine lv_iload hx hb dL_month_343 (lv_at hl 7 rfl) ?_
                    refine lv_bipush (v := (8:Int32)) hx hb dL_month_345 (by decide) ?_
                    obtain ⟨q82, hq82, hf⟩ := bd_some hf
                    refine g_callVi S (As := [.int q21.1, .int (8:Int32)]) (gs' := [maW a0 (a1 0) (a2 0) (a3 0) (a4 0) (a7 0 0) (a8 0) (a9 0) (a9 1), stW G a1 q21.2.1, stW G a2 s75.2.1, rdW G a3 s75.2.2, paW G a7 q21.2.2.2, arW G a12 e17.2.2.2]) (c_X5_member l G a0 a1 a2 a3 a4 a5 a6 a7 a8 a9 a10 a11 q21.2.1 q21.1 (8:Int32) hq82) (cwV 2 hts gL_month_X5_member rfl rfl rfl hd_X5_member ⟨Nat.le_of_ble_eq_true rfl, Nat.le_of_ble_eq_true rfl⟩) hK hP hD hS hA (is := [0, 1]) rfl rfl 0 rfl rfl rfl rfl hl.1 rfl (Nat.le_of_ble_eq_true rfl) dL_month_347 ⟨Nat.le_of_ble_eq_true rfl, Nat.le_of_ble_eq_true rfl⟩ rfl (fun H locs hP hD hS => ?_)
                    refine lv_imul hx hb dL_month_350 ?_
                    refine lv_iload hx hb dL_month_351 (lv_at hl 3 rfl) ?_
                    refine lv_icmp_lt (tgt := 384) hx hb dL_month_353 (by decide) (fun c83 => ?_) (fun c83 => ?_)
                    · rw [if_pos c83] at hf
                      refine lv_iconst (v := (0:Int32)) hx hb dL_month_384 (by decide) ?_
                      cases hf
                      exact g_zret hx hb hr gz0 hlocks hP hS dL_month_385
                    · rw [if_neg c83] at hf
                      refine lv_aload_n hx hb dL_month_356 rfl (lv_at hl 0 rfl) ?_
                      refine lv_iload hx hb dL_month_357 (lv_at hl 7 rfl) ?_
                      obtain ⟨q84, hq84, hf⟩ := bd_some hf
                      refine g_callVi S (As := [.int q21.1]) (gs' := [maW a0 (a1 0) (a2 0) (a3 0) (a4 0) (a7 0 0) (a8 0) (a9 0) (a9 1), stW G a1 q21.2.1, stW G a2 q84.2.1, rdW G a3 q84.2.2, paW G a7 q21.2.2.2, arW G a12 e17.2.2.2]) (c_X5_leastBid l G a0 a1 a2 a3 a4 a5 a6 a7 a8 a9 a10 a11 q21.2.1 s75.2.1 s75.2.2 q21.1 hq84) (cwV 1 hts gL_month_X5_leastBid rfl rfl rfl hd_X5_leastBid ⟨Nat.le_of_ble_eq_true rfl, Nat.le_of_ble_eq_true rfl⟩) hK hP hD hS hA (is := [0, 1, 2, 3]) rfl rfl 0 rfl rfl rfl rfl hl.1 rfl (Nat.le_of_ble_eq_true rfl) dL_month_359 ⟨Nat.le_of_ble_eq_true rfl, Nat.le_of_ble_eq_true rfl⟩ rfl (fun H locs hP hD hS => ?_)
                      refine lv_ldc (v := (-99999:Int32)) hx hb hown (hts _ kL_month_0) dL_month_362 ?_
                      refine lv_icmp_ne (tgt := 384) hx hb dL_month_364 (by decide) (fun c85 => ?_) (fun c85 => ?_)
                      · rw [if_neg c85] at hf
                        refine lv_iconst (v := (0:Int32)) hx hb dL_month_384 (by decide) ?_
                        cases hf
                        exact g_zret hx hb hr gz0 hlocks hP hS dL_month_385
                      · rw [if_pos c85] at hf
                        refine lv_aload_n hx hb dL_month_367 rfl (lv_at hl 0 rfl) ?_
                        refine lv_iload_n hx hb dL_month_368 rfl (lv_at hl 1 rfl) ?_
                        refine lv_bipush (v := (10:Int32)) hx hb dL_month_369 (by decide) ?_
                        obtain ⟨q86, hq86, hf⟩ := bd_some hf
                        refine g_callSi S (As := [.ref (a0 0), .int i1, .int (10:Int32)]) (gs' := [maW a0 (a1 0) (a2 0) (a3 0) (a4 0) (a7 0 0) (a8 0) (a9 0) (a9 1), stW G a1 q21.2.1, stW G a2 q84.2.1, rdW G a3 q84.2.2, paW G a7 q21.2.2.2, arW G a12 e17.2.2.2]) (c_L_sum l G a0 a1 a2 a3 a4 a5 a6 a7 a8 a9 a10 a11 q21.2.1 i1 (10:Int32) hq86) (va_cwS 3 hts gL_month_L_sum rfl rfl rfl hd_L_sum.2 ⟨Nat.le_of_ble_eq_true rfl, Nat.le_of_ble_eq_true rfl⟩) hK hP hD hS hA (is := [0, 1]) rfl rfl rfl hl.1 rfl (Nat.le_of_ble_eq_true rfl) dL_month_371 ⟨Nat.le_of_ble_eq_true rfl, Nat.le_of_ble_eq_true rfl⟩ rfl (fun H locs hP hD hS => ?_)
                        refine lv_iload hx hb dL_month_374 (lv_at hl 5 rfl) ?_
                        refine lv_isub hx hb dL_month_376 ?_
                        refine lv_if_lt (tgt := 384) hx hb dL_month_377 (by decide) (fun c87 => ?_) (fun c87 => ?_)
                        · rw [if_pos c87] at hf
                          refine lv_iconst (v := (0:Int32)) hx hb dL_month_384 (by decide) ?_
                          cases hf
                          exact g_zret hx hb hr gz0 hlocks hP hS dL_month_385
                        · rw [if_neg c87] at hf
                          refine lv_iconst (v := (1:Int32)) hx hb dL_month_380 (by decide) ?_
                          refine lv_goto (tgt := 385) hx hb dL_month_381 (by decide) ?_
                          cases hf
                          exact g_zret hx hb hr gz1 hlocks hP hS dL_month_385
              · rw [if_pos c77] at hf
                refine lv_aload_n hx hb dL_month_298 rfl (lv_at hl 0 rfl) ?_
                refine lv_iconst (v := (4:Int32)) hx hb dL_month_299 (by decide) ?_
                obtain ⟨q88, hq88, hf⟩ := bd_some hf
                refine g_callVi S (As := [.int (4:Int32)]) (gs' := [maW a0 (a1 0) (a2 0) (a3 0) (a4 0) (a7 0 0) (a8 0) (a9 0) (a9 1), stW G a1 q21.2.1, stW G a2 s75.2.1, rdW G a3 s75.2.2, paW G a7 q21.2.2.2, arW G a12 e17.2.2.2]) (c_X5_about l G a0 a1 a2 a3 a4 a5 a6 a7 a8 a9 a10 a11 q21.2.1 (4:Int32) hq88) (cwV 1 hts gL_month_X5_about rfl rfl rfl hd_X5_about ⟨Nat.le_of_ble_eq_true rfl, Nat.le_of_ble_eq_true rfl⟩) hK hP hD hS hA (is := [0, 1]) rfl rfl 0 rfl rfl rfl rfl hl.1 rfl (Nat.le_of_ble_eq_true rfl) dL_month_300 ⟨Nat.le_of_ble_eq_true rfl, Nat.le_of_ble_eq_true rfl⟩ rfl (fun H locs hP hD hS => ?_)
                refine lv_iload hx hb dL_month_303 (lv_at hl 4 rfl) ?_
                refine lv_iload hx hb dL_month_305 (lv_at hl 3 rfl) ?_
                refine lv_iadd hx hb dL_month_307 ?_
                refine lv_icmp_ne (tgt := 315) hx hb dL_month_308 (by decide) (fun c89 => ?_) (fun c89 => ?_)
                · rw [if_neg c89] at hf
                  refine lv_iconst (v := (0:Int32)) hx hb dL_month_315 (by decide) ?_
                  cases hf
                  exact g_zret hx hb hr gz0 hlocks hP hS dL_month_316
                · rw [if_pos c89] at hf
                  refine lv_iconst (v := (1:Int32)) hx hb dL_month_311 (by decide) ?_
                  refine lv_goto (tgt := 316) hx hb dL_month_312 (by decide) ?_
                  cases hf
                  exact g_zret hx hb hr gz1 hlocks hP hS dL_month_316
            · rw [if_neg c33] at hf
              refine lv_iconst (v := (0:Int32)) hx hb dL_month_196 (by decide) ?_
              cases hf
              exact g_zret hx hb hr gz0 hlocks hP hS dL_month_197
  · rw [if_pos c20] at hf
    refine lv_iload_n hx hb dL_month_105 rfl (lv_at hl 4 rfl) ?_
    refine lv_ldc (v := (-99999:Int32)) hx hb hown (hts _ kL_month_0) dL_month_106 ?_
    refine lv_icmp_ne (tgt := 120) hx hb dL_month_108 (by decide) (fun c90 => ?_) (fun c90 => ?_)
    · rw [if_neg c90] at hf
      refine lv_iconst (v := (0:Int32)) hx hb dL_month_120 (by decide) ?_
      cases hf
      exact g_zret hx hb hr gz0 hlocks hP hS dL_month_121
    · rw [if_pos c90] at hf
      refine lv_iload hx hb dL_month_111 (lv_at hl 5 rfl) ?_
      refine lv_if_ne (tgt := 120) hx hb dL_month_113 (by decide) (fun c91 => ?_) (fun c91 => ?_)
      · rw [if_neg c91] at hf
        refine lv_iconst (v := (0:Int32)) hx hb dL_month_120 (by decide) ?_
        cases hf
        exact g_zret hx hb hr gz0 hlocks hP hS dL_month_121
      · rw [if_pos c91] at hf
        refine lv_iconst (v := (1:Int32)) hx hb dL_month_116 (by decide) ?_
        refine lv_goto (tgt := 121) hx hb dL_month_117 (by decide) ?_
        cases hf
        exact g_zret hx hb hr gz1 hlocks hP hS dL_month_121
set_option maxHeartbeats 4000000 in
set_option maxRecDepth 100000 in
theorem w_L_inTheEnd_8 {p : Program} {l : Launch} {e : Env} {s : State} {m : MethodId} {args : Array Value} {below : List Frame} {meth : Method} {c : Code} {A : Nat → Prop} {Q : State → Prop} (S : Ev p s m args meth c cL_inTheEnd 6 (some .boolean) yL_inTheEnd.cls wsL_inTheEnd) {G : uG} (hK : kK G s) (hA : ∀ q, s.heap.size ≤ q → A q) (_ : uG) (a0 : Nat → Nat) (a1 : Nat → Nat) (a2 : Nat → Nat) (a3 : Nat → Nat) (a4 : Nat → Nat) (a5 : Nat → Nat) (a6 : Nat → Nat) (a7 : Nat → Nat → Nat) (a8 : Nat → Nat) (a9 : Nat → Nat) (a10 : Nat → Nat) (a11 : Nat → Nat) (v2 : StV) (p1 : Int32) (p2 : Int32) : ∀ (n : Nat) (z : (Int32 × StV × RdV × PaV)) (e1 : (Int32 × StV × RdV × PaV)), lp (b_L_inTheEnd_8 v2 p1 p2) n z = some e1 → ∀ (H : Heap) (locs : List Loc) (ls : Array Slot), gP G [maW a0 (a1 0) (a2 0) (a3 0) (a4 0) (a7 0 0) (a8 0) (a9 0) (a9 1), stW G a1 z.2.1, stW G a2 v2, rdW G a3 z.2.2.1, paW G a7 z.2.2.2] H → gD A [maW a0 (a1 0) (a2 0) (a3 0) (a4 0) (a7 0 0) (a8 0) (a9 0) (a9 1), stW G a1 z.2.1, stW G a2 v2, rdW G a3 z.2.2.1, paW G a7 z.2.2.2] → va_S A s.heap H locs → lv_has ls 6 [(0, .ref (a0 0)), (1, .int p1), (2, .int p2), (3, .int z.1)] → (∀ (H : Heap) (locs : List Loc) (ls : Array Slot), gP G [maW a0 (a1 0) (a2 0) (a3 0) (a4 0) (a7 0 0) (a8 0) (a9 0) (a9 1), stW G a1 e1.2.1, stW G a2 v2, rdW G a3 e1.2.2.1, paW G a7 e1.2.2.2] H → gD A [maW a0 (a1 0) (a2 0) (a3 0) (a4 0) (a7 0 0) (a8 0) (a9 0) (a9 1), stW G a1 e1.2.1, stW G a2 v2, rdW G a3 e1.2.2.1, paW G a7 e1.2.2.2] → va_S A s.heap H locs → lv_has ls 6 [(0, .ref (a0 0)), (1, .int p1), (2, .int p2), (3, .int e1.1)] → W p l e ({ frames := 5, cells := 0, slots := 0, locals := 115 } : Room) s m args below meth c H locs 0 0 Q (F0 m 42 ls [])) → W p l e ({ frames := 5, cells := 0, slots := 0, locals := 115 } : Room) s m args below meth c H locs 0 0 Q (F0 m 8 ls []) := by
  obtain ⟨hx, hb, hml, hown, hts, hr, hlocks⟩ := id S
  intro n
  induction n with
  | zero => intro z e1 h; cases h
  | succ n ih =>
    intro z e1 hlp H locs ls hP hD hS hl K
    obtain ⟨z9, hf, hz⟩ := lp_s hlp
    unfold b_L_inTheEnd_8 at hf
    refine lv_iload_n hx hb dL_inTheEnd_8 rfl (lv_at hl 3 rfl) ?_
    refine lv_bipush (v := (12:Int32)) hx hb dL_inTheEnd_9 (by decide) ?_
    refine lv_icmp_ge (tgt := 42) hx hb dL_inTheEnd_11 (by decide) (fun c2 => ?_) (fun c2 => ?_)
    · rw [if_pos c2] at hf
      have he := lz_r hf hz
      subst he
      exact K H locs ls hP hD hS (lv_sub hl [0, 1, 2, 3] rfl)
    · rw [if_neg c2] at hf
      refine lv_aload_n hx hb dL_inTheEnd_14 rfl (lv_at hl 0 rfl) ?_
      refine lv_bipush (v := (6:Int32)) hx hb dL_inTheEnd_15 (by decide) ?_
      obtain ⟨q3, hq3, hf⟩ := bd_some hf
      refine g_callVi S (As := [.int (6:Int32)]) (gs' := [maW a0 (a1 0) (a2 0) (a3 0) (a4 0) (a7 0 0) (a8 0) (a9 0) (a9 1), stW G a1 z.2.1, stW G a2 v2, rdW G a3 z.2.2.1, paW G a7 z.2.2.2]) (c_X5_about l G a0 a1 a2 a3 a4 a5 a6 a7 a8 a9 a10 a11 z.2.1 (6:Int32) hq3) (cwV 1 hts gL_inTheEnd_X5_about rfl rfl rfl hd_X5_about ⟨Nat.le_of_ble_eq_true rfl, Nat.le_of_ble_eq_true rfl⟩) hK hP hD hS hA (is := [0, 1]) rfl rfl 0 rfl rfl rfl rfl hl.1 rfl (Nat.le_of_ble_eq_true rfl) dL_inTheEnd_17 ⟨Nat.le_of_ble_eq_true rfl, Nat.le_of_ble_eq_true rfl⟩ rfl (fun H locs hP hD hS => ?_)
      refine lv_if_le (tgt := 42) hx hb dL_inTheEnd_20 (by decide) (fun c4 => ?_) (fun c4 => ?_)
      · rw [if_pos c4] at hf
        have he := lz_r hf hz
        subst he
        exact K H locs ls hP hD hS (lv_sub hl [0, 1, 2, 3] rfl)
      · rw [if_neg c4] at hf
        refine lv_aload_n hx hb dL_inTheEnd_23 rfl (lv_at hl 0 rfl) ?_
        refine lv_iconst (v := (1:Int32)) hx hb dL_inTheEnd_24 (by decide) ?_
        obtain ⟨q5, hq5, hf⟩ := bd_some hf
        refine g_callVi S (As := [.int (1:Int32)]) (gs' := [maW a0 (a1 0) (a2 0) (a3 0) (a4 0) (a7 0 0) (a8 0) (a9 0) (a9 1), stW G a1 z.2.1, stW G a2 v2, rdW G a3 z.2.2.1, paW G a7 z.2.2.2]) (c_X5_about l G a0 a1 a2 a3 a4 a5 a6 a7 a8 a9 a10 a11 z.2.1 (1:Int32) hq5) (cwV 1 hts gL_inTheEnd_X5_about rfl rfl rfl hd_X5_about ⟨Nat.le_of_ble_eq_true rfl, Nat.le_of_ble_eq_true rfl⟩) hK hP hD hS hA (is := [0, 1]) rfl rfl 0 rfl rfl rfl rfl hl.1 rfl (Nat.le_of_ble_eq_true rfl) dL_inTheEnd_25 ⟨Nat.le_of_ble_eq_true rfl, Nat.le_of_ble_eq_true rfl⟩ rfl (fun H locs hP hD hS => ?_)
        refine lv_if_le (tgt := 42) hx hb dL_inTheEnd_28 (by decide) (fun c6 => ?_) (fun c6 => ?_)
        · rw [if_pos c6] at hf
          have he := lz_r hf hz
          subst he
          exact K H locs ls hP hD hS (lv_sub hl [0, 1, 2, 3] rfl)
        · rw [if_neg c6] at hf
          refine lv_aload_n hx hb dL_inTheEnd_31 rfl (lv_at hl 0 rfl) ?_
          obtain ⟨q7, hq7, hf⟩ := bd_some hf
          refine g_callVi S (As := []) (gs' := [maW a0 (a1 0) (a2 0) (a3 0) (a4 0) (a7 0 0) (a8 0) (a9 0) (a9 1), stW G a1 q7.2.1, stW G a2 v2, rdW G a3 q7.2.2.1, paW G a7 q7.2.2.2]) (c_X5_month l G a0 a1 a2 a3 a4 a5 a6 a7 a8 a9 a10 a11 z.2.1 z.2.2.1 z.2.2.2 hq7) (cwV 0 hts gL_inTheEnd_X5_month rfl rfl rfl hd_X5_month ⟨Nat.le_of_ble_eq_true rfl, Nat.le_of_ble_eq_true rfl⟩) hK hP hD hS hA (is := [0, 1, 3, 4]) rfl rfl 0 rfl rfl rfl rfl hl.1 rfl (Nat.le_of_ble_eq_true rfl) dL_inTheEnd_32 ⟨Nat.le_of_ble_eq_true rfl, Nat.le_of_ble_eq_true rfl⟩ rfl (fun H locs hP hD hS => ?_)
          refine lv_pop hx hb dL_inTheEnd_35 rfl ?_
          obtain ⟨x8, ex8, hf⟩ := lt_some hf
          refine lv_iinc (v := x8) (lv' := [(3, .int x8), (0, .ref (a0 0)), (1, .int p1), (2, .int p2)]) hx hb dL_inTheEnd_36 hl (k := 3) rfl (by rw [ex8]; rfl) (by decide) rfl (fun ls hl => ?_)
          refine lv_goto (tgt := 8) hx hb dL_inTheEnd_39 (by decide) ?_
          exact ih _ e1 (lz_l hf hz) H locs ls hP hD hS (lv_sub hl [1, 2, 3, 0] rfl) K
set_option maxHeartbeats 4000000 in
set_option maxRecDepth 100000 in
theorem w_L_inTheEnd_80 {p : Program} {l : Launch} {e : Env} {s : State} {m : MethodId} {args : Array Value} {below : List Frame} {meth : Method} {c : Code} {A : Nat → Prop} {Q : State → Prop} (S : Ev p s m args meth c cL_inTheEnd 6 (some .boolean) yL_inTheEnd.cls wsL_inTheEnd) {G : uG} (hK : kK G s) (hA : ∀ q, s.heap.size ≤ q → A q) (_ : uG) (a0 : Nat → Nat) (a1 : Nat → Nat) (a2 : Nat → Nat) (a3 : Nat → Nat) (a4 : Nat → Nat) (a5 : Nat → Nat) (a6 : Nat → Nat) (a7 : Nat → Nat → Nat) (a8 : Nat → Nat) (a9 : Nat → Nat) (a10 : Nat → Nat) (a11 : Nat → Nat) (v2 : StV) (v3 : RdV) (p3 : Int32) : ∀ (n : Nat) (z : (Int32 × Int32 × StV × PaV)) (e1 : (Int32 × Int32 × StV × PaV)), lp (b_L_inTheEnd_80 v2 v3 p3) n z = some e1 → ∀ (H : Heap) (locs : List Loc) (ls : Array Slot), gP G [maW a0 (a1 0) (a2 0) (a3 0) (a4 0) (a7 0 0) (a8 0) (a9 0) (a9 1), stW G a1 z.2.2.1, stW G a2 v2, rdW G a3 v3, paW G a7 z.2.2.2] H → gD A [maW a0 (a1 0) (a2 0) (a3 0) (a4 0) (a7 0 0) (a8 0) (a9 0) (a9 1), stW G a1 z.2.2.1, stW G a2 v2, rdW G a3 v3, paW G a7 z.2.2.2] → va_S A s.heap H locs → lv_has ls 6 [(0, .ref (a0 0)), (3, .int p3), (4, .int z.1), (5, .int z.2.1)] → (∀ (H : Heap) (locs : List Loc) (ls : Array Slot), gP G [maW a0 (a1 0) (a2 0) (a3 0) (a4 0) (a7 0 0) (a8 0) (a9 0) (a9 1), stW G a1 e1.2.2.1, stW G a2 v2, rdW G a3 v3, paW G a7 e1.2.2.2] H → gD A [maW a0 (a1 0) (a2 0) (a3 0) (a4 0) (a7 0 0) (a8 0) (a9 0) (a9 1), stW G a1 e1.2.2.1, stW G a2 v2, rdW G a3 v3, paW G a7 e1.2.2.2] → va_S A s.heap H locs → lv_has ls 6 [(0, .ref (a0 0)), (3, .int p3), (4, .int e1.1), (5, .int e1.2.1)] → W p l e ({ frames := 5, cells := 0, slots := 0, locals := 115 } : Room) s m args below meth c H locs 0 0 Q (F0 m 111 ls [])) → W p l e ({ frames := 5, cells := 0, slots := 0, locals := 115 } : Room) s m args below meth c H locs 0 0 Q (F0 m 80 ls []) := by
  obtain ⟨hx, hb, hml, hown, hts, hr, hlocks⟩ := id S
  intro n
  induction n with
  | zero => intro z e1 h; cases h
  | succ n ih =>
    intro z e1 hlp H locs ls hP hD hS hl K
    obtain ⟨z9, hf, hz⟩ := lp_s hlp
    unfold b_L_inTheEnd_80 at hf
    refine lv_iload hx hb dL_inTheEnd_80 (lv_at hl 3 rfl) ?_
    refine lv_iload_n hx hb dL_inTheEnd_82 rfl (lv_at hl 1 rfl) ?_
    refine lv_icmp_ge (tgt := 111) hx hb dL_inTheEnd_83 (by decide) (fun c12 => ?_) (fun c12 => ?_)
    · rw [if_pos c12] at hf
      have he := lz_r hf hz
      subst he
      exact K H locs ls hP hD hS (lv_sub hl [0, 1, 2, 3] rfl)
    · rw [if_neg c12] at hf
      refine lv_iload hx hb dL_inTheEnd_86 (lv_at hl 2 rfl) ?_
      refine lv_if_eq (tgt := 111) hx hb dL_inTheEnd_88 (by decide) (fun c13 => ?_) (fun c13 => ?_)
      · rw [if_pos c13] at hf
        have he := lz_r hf hz
        subst he
        exact K H locs ls hP hD hS (lv_sub hl [0, 1, 2, 3] rfl)
      · rw [if_neg c13] at hf
        refine lv_aload_n hx hb dL_inTheEnd_91 rfl (lv_at hl 0 rfl) ?_
        obtain ⟨q14, hq14, hf⟩ := bd_some hf
        refine g_callVi S (As := []) (gs' := [maW a0 (a1 0) (a2 0) (a3 0) (a4 0) (a7 0 0) (a8 0) (a9 0) (a9 1), stW G a1 q14.2.1, stW G a2 v2, rdW G a3 v3, paW G a7 q14.2.2]) (c_X5_undo l G a0 a1 a2 a3 a4 a5 a6 a7 a8 a9 a10 a11 z.2.2.1 z.2.2.2 hq14) (cwV 0 hts gL_inTheEnd_X5_undo rfl rfl rfl hd_X5_undo ⟨Nat.le_of_ble_eq_true rfl, Nat.le_of_ble_eq_true rfl⟩) hK hP hD hS hA (is := [0, 1, 4]) rfl rfl 0 rfl rfl rfl rfl hl.1 rfl (Nat.le_of_ble_eq_true rfl) dL_inTheEnd_92 ⟨Nat.le_of_ble_eq_true rfl, Nat.le_of_ble_eq_true rfl⟩ rfl (fun H locs hP hD hS => ?_)
        refine lv_if_lt (tgt := 102) hx hb dL_inTheEnd_95 (by decide) (fun c15 => ?_) (fun c15 => ?_)
        · rw [if_pos c15] at hf
          refine lv_iconst (v := (0:Int32)) hx hb dL_inTheEnd_102 (by decide) ?_
          refine lv_istore (lv' := [(4, .int (0:Int32)), (0, .ref (a0 0)), (3, .int p3), (5, .int z.2.1)]) hx hb dL_inTheEnd_103 hl (by decide) rfl (fun ls hl => ?_)
          obtain ⟨x16, ex16, hf⟩ := lt_some hf
          refine lv_iinc (v := x16) (lv' := [(5, .int x16), (4, .int (0:Int32)), (0, .ref (a0 0)), (3, .int p3)]) hx hb dL_inTheEnd_105 hl (k := 3) rfl (by rw [ex16]; rfl) (by decide) rfl (fun ls hl => ?_)
          refine lv_goto (tgt := 80) hx hb dL_inTheEnd_108 (by decide) ?_
          exact ih _ e1 (lz_l hf hz) H locs ls hP hD hS (lv_sub hl [2, 3, 1, 0] rfl) K
        · rw [if_neg c15] at hf
          refine lv_iconst (v := (1:Int32)) hx hb dL_inTheEnd_98 (by decide) ?_
          refine lv_goto (tgt := 103) hx hb dL_inTheEnd_99 (by decide) ?_
          refine lv_istore (lv' := [(4, .int (1:Int32)), (0, .ref (a0 0)), (3, .int p3), (5, .int z.2.1)]) hx hb dL_inTheEnd_103 hl (by decide) rfl (fun ls hl => ?_)
          obtain ⟨x17, ex17, hf⟩ := lt_some hf
          refine lv_iinc (v := x17) (lv' := [(5, .int x17), (4, .int (1:Int32)), (0, .ref (a0 0)), (3, .int p3)]) hx hb dL_inTheEnd_105 hl (k := 3) rfl (by rw [ex17]; rfl) (by decide) rfl (fun ls hl => ?_)
          refine lv_goto (tgt := 80) hx hb dL_inTheEnd_108 (by decide) ?_
          exact ih _ e1 (lz_l hf hz) H locs ls hP hD hS (lv_sub hl [2, 3, 1, 0] rfl) K
set_option maxHeartbeats 4000000 in
set_option maxRecDepth 100000 in
theorem c_L_inTheEnd (l : Launch) (G : uG) (a0 : Nat → Nat) (a1 : Nat → Nat) (a2 : Nat → Nat) (a3 : Nat → Nat) (a4 : Nat → Nat) (a5 : Nat → Nat) (a6 : Nat → Nat) (a7 : Nat → Nat → Nat) (a8 : Nat → Nat) (a9 : Nat → Nat) (a10 : Nat → Nat) (a11 : Nat → Nat) (v1 : StV) (v2 : StV) (v3 : RdV) (v7 : PaV) (i1 : Int32) {q : Int32 × (StV × StV × RdV × PaV)} (hf : f_L_inTheEnd v1 v2 v3 v7 i1 = some q) : mQ l yL_inTheEnd wsL_inTheEnd ({ frames := 5, cells := 0, slots := 0, locals := 115 } : Room) G [.ref (a0 0), .int i1] [maW a0 (a1 0) (a2 0) (a3 0) (a4 0) (a7 0 0) (a8 0) (a9 0) (a9 1), stW G a1 v1, stW G a2 v2, rdW G a3 v3, paW G a7 v7] [maW a0 (a1 0) (a2 0) (a3 0) (a4 0) (a7 0 0) (a8 0) (a9 0) (a9 1), stW G a1 q.2.1, stW G a2 q.2.2.1, rdW G a3 q.2.2.2.1, paW G a7 q.2.2.2.2] (qI G [maW a0 (a1 0) (a2 0) (a3 0) (a4 0) (a7 0 0) (a8 0) (a9 0) (a9 1), stW G a1 q.2.1, stW G a2 q.2.2.1, rdW G a3 q.2.2.2.1, paW G a7 q.2.2.2.2] q.1) := by
  unfold f_L_inTheEnd at hf
  refine m_of (cc := cL_inTheEnd) (maxL := 6) (ret := (some .boolean)) (by decide) rfl rfl (Nat.le_of_ble_eq_true rfl) ?_
  intro p e s m args below meth c A ls S hK hA hP hD hS hl
  obtain ⟨hx, hb, hml, hown, hts, hr, hlocks⟩ := id S
  have hl : lv_has ls 6 [(0, .ref (a0 0)), (1, .int i1)] := hl
  refine lv_aload_n hx hb dL_inTheEnd_0 rfl (lv_at hl 0 rfl) ?_
  refine lv_iload_n hx hb dL_inTheEnd_1 rfl (lv_at hl 1 rfl) ?_
  obtain ⟨q1, hq1, hf⟩ := bd_some hf
  refine g_callVi S (As := [.int i1]) (gs' := [maW a0 (a1 0) (a2 0) (a3 0) (a4 0) (a7 0 0) (a8 0) (a9 0) (a9 1), stW G a1 v1, stW G a2 q1.2.1, rdW G a3 q1.2.2, paW G a7 v7]) (c_X5_inTheEnd l G a0 a1 a2 a3 a4 a5 a6 a7 a8 a9 a10 a11 v1 v2 v3 i1 hq1) (cwV 1 hts gL_inTheEnd_X5_inTheEnd rfl rfl rfl hd_X5_inTheEnd ⟨Nat.le_of_ble_eq_true rfl, Nat.le_of_ble_eq_true rfl⟩) hK hP hD hS hA (is := [0, 1, 2, 3]) rfl rfl 0 rfl rfl rfl rfl hl.1 rfl (Nat.le_of_ble_eq_true rfl) dL_inTheEnd_2 ⟨Nat.le_of_ble_eq_true rfl, Nat.le_of_ble_eq_true rfl⟩ rfl (fun H locs hP hD hS => ?_)
  refine lv_istore_n (lv' := [(2, .int q1.1), (0, .ref (a0 0)), (1, .int i1)]) hx hb dL_inTheEnd_5 rfl hl (by decide) rfl (fun ls hl => ?_)
  refine lv_iconst (v := (0:Int32)) hx hb dL_inTheEnd_6 (by decide) ?_
  refine lv_istore_n (lv' := [(3, .int (0:Int32)), (2, .int q1.1), (0, .ref (a0 0)), (1, .int i1)]) hx hb dL_inTheEnd_7 rfl hl (by decide) rfl (fun ls hl => ?_)
  obtain ⟨e9, he9, hf⟩ := bd_some hf
  refine w_L_inTheEnd_8 (Q := _) S hK hA G a0 a1 a2 a3 a4 a5 a6 a7 a8 a9 a10 a11 q1.2.1 i1 q1.1 FU _ e9 he9 _ _ _ hP hD hS (lv_sub hl [2, 3, 1, 0] rfl) (fun H locs ls hP hD hS hl => ?_)
  refine lv_aload_n hx hb dL_inTheEnd_42 rfl (lv_at hl 0 rfl) ?_
  refine lv_iload_n hx hb dL_inTheEnd_43 rfl (lv_at hl 1 rfl) ?_
  obtain ⟨q10, hq10, hf⟩ := bd_some hf
  refine g_callVi S (As := [.int i1]) (gs' := [maW a0 (a1 0) (a2 0) (a3 0) (a4 0) (a7 0 0) (a8 0) (a9 0) (a9 1), stW G a1 e9.2.1, stW G a2 q10.2.1, rdW G a3 q10.2.2, paW G a7 e9.2.2.2]) (c_X5_inTheEnd l G a0 a1 a2 a3 a4 a5 a6 a7 a8 a9 a10 a11 e9.2.1 q1.2.1 e9.2.2.1 i1 hq10) (cwV 1 hts gL_inTheEnd_X5_inTheEnd rfl rfl rfl hd_X5_inTheEnd ⟨Nat.le_of_ble_eq_true rfl, Nat.le_of_ble_eq_true rfl⟩) hK hP hD hS hA (is := [0, 1, 2, 3]) rfl rfl 0 rfl rfl rfl rfl hl.1 rfl (Nat.le_of_ble_eq_true rfl) dL_inTheEnd_44 ⟨Nat.le_of_ble_eq_true rfl, Nat.le_of_ble_eq_true rfl⟩ rfl (fun H locs hP hD hS => ?_)
  refine lv_iload_n hx hb dL_inTheEnd_47 rfl (lv_at hl 2 rfl) ?_
  refine lv_icmp_ne (tgt := 74) hx hb dL_inTheEnd_48 (by decide) (fun c11 => ?_) (fun c11 => ?_)
  · rw [if_neg c11] at hf
    refine lv_iconst (v := (0:Int32)) hx hb dL_inTheEnd_74 (by decide) ?_
    refine lv_istore (lv' := [(4, .int (0:Int32)), (0, .ref (a0 0)), (1, .int i1), (2, .int q1.1), (3, .int e9.1)]) hx hb dL_inTheEnd_75 hl (by decide) rfl (fun ls hl => ?_)
    refine lv_iconst (v := (0:Int32)) hx hb dL_inTheEnd_77 (by decide) ?_
    refine lv_istore (lv' := [(5, .int (0:Int32)), (4, .int (0:Int32)), (0, .ref (a0 0)), (1, .int i1), (2, .int q1.1), (3, .int e9.1)]) hx hb dL_inTheEnd_78 hl (by decide) rfl (fun ls hl => ?_)
    obtain ⟨e18, he18, hf⟩ := bd_some hf
    refine w_L_inTheEnd_80 (Q := _) S hK hA G a0 a1 a2 a3 a4 a5 a6 a7 a8 a9 a10 a11 q10.2.1 q10.2.2 e9.1 FU _ e18 he18 _ _ _ hP hD hS (lv_sub hl [2, 5, 1, 0] rfl) (fun H locs ls hP hD hS hl => ?_)
    refine lv_iload hx hb dL_inTheEnd_111 (lv_at hl 2 rfl) ?_
    refine lv_if_ne (tgt := 122) hx hb dL_inTheEnd_113 (by decide) (fun c19 => ?_) (fun c19 => ?_)
    · rw [if_neg c19] at hf
      refine lv_iconst (v := (1:Int32)) hx hb dL_inTheEnd_122 (by decide) ?_
      refine lv_goto (tgt := 127) hx hb dL_inTheEnd_123 (by decide) ?_
      cases hf
      exact g_zret hx hb hr gz1 hlocks hP hS dL_inTheEnd_127
    · rw [if_pos c19] at hf
      refine lv_iload_n hx hb dL_inTheEnd_116 rfl (lv_at hl 1 rfl) ?_
      refine lv_bipush (v := (12:Int32)) hx hb dL_inTheEnd_117 (by decide) ?_
      refine lv_icmp_ne (tgt := 126) hx hb dL_inTheEnd_119 (by decide) (fun c20 => ?_) (fun c20 => ?_)
      · rw [if_neg c20] at hf
        refine lv_iconst (v := (0:Int32)) hx hb dL_inTheEnd_126 (by decide) ?_
        cases hf
        exact g_zret hx hb hr gz0 hlocks hP hS dL_inTheEnd_127
      · rw [if_pos c20] at hf
        refine lv_iconst (v := (1:Int32)) hx hb dL_inTheEnd_122 (by decide) ?_
        refine lv_goto (tgt := 127) hx hb dL_inTheEnd_123 (by decide) ?_
        cases hf
        exact g_zret hx hb hr gz1 hlocks hP hS dL_inTheEnd_127
  · rw [if_pos c11] at hf
    refine lv_aload_n hx hb dL_inTheEnd_51 rfl (lv_at hl 0 rfl) ?_
    refine lv_bipush (v := (6:Int32)) hx hb dL_inTheEnd_52 (by decide) ?_
    obtain ⟨q21, hq21, hf⟩ := bd_some hf
    refine g_callVi S (As := [.int (6:Int32)]) (gs' := [maW a0 (a1 0) (a2 0) (a3 0) (a4 0) (a7 0 0) (a8 0) (a9 0) (a9 1), stW G a1 e9.2.1, stW G a2 q10.2.1, rdW G a3 q10.2.2, paW G a7 e9.2.2.2]) (c_X5_about l G a0 a1 a2 a3 a4 a5 a6 a7 a8 a9 a10 a11 e9.2.1 (6:Int32) hq21) (cwV 1 hts gL_inTheEnd_X5_about rfl rfl rfl hd_X5_about ⟨Nat.le_of_ble_eq_true rfl, Nat.le_of_ble_eq_true rfl⟩) hK hP hD hS hA (is := [0, 1]) rfl rfl 0 rfl rfl rfl rfl hl.1 rfl (Nat.le_of_ble_eq_true rfl) dL_inTheEnd_54 ⟨Nat.le_of_ble_eq_true rfl, Nat.le_of_ble_eq_true rfl⟩ rfl (fun H locs hP hD hS => ?_)
    refine lv_if_gt (tgt := 70) hx hb dL_inTheEnd_57 (by decide) (fun c22 => ?_) (fun c22 => ?_)
    · rw [if_pos c22] at hf
      refine lv_iconst (v := (1:Int32)) hx hb dL_inTheEnd_70 (by decide) ?_
      refine lv_goto (tgt := 75) hx hb dL_inTheEnd_71 (by decide) ?_
      refine lv_istore (lv' := [(4, .int (1:Int32)), (0, .ref (a0 0)), (1, .int i1), (2, .int q1.1), (3, .int e9.1)]) hx hb dL_inTheEnd_75 hl (by decide) rfl (fun ls hl => ?_)
      refine lv_iconst (v := (0:Int32)) hx hb dL_inTheEnd_77 (by decide) ?_
      refine lv_istore (lv' := [(5, .int (0:Int32)), (4, .int (1:Int32)), (0, .ref (a0 0)), (1, .int i1), (2, .int q1.1), (3, .int e9.1)]) hx hb dL_inTheEnd_78 hl (by decide) rfl (fun ls hl => ?_)
      obtain ⟨e23, he23, hf⟩ := bd_some hf
      refine w_L_inTheEnd_80 (Q := _) S hK hA G a0 a1 a2 a3 a4 a5 a6 a7 a8 a9 a10 a11 q10.2.1 q10.2.2 e9.1 FU _ e23 he23 _ _ _ hP hD hS (lv_sub hl [2, 5, 1, 0] rfl) (fun H locs ls hP hD hS hl => ?_)
      refine lv_iload hx hb dL_inTheEnd_111 (lv_at hl 2 rfl) ?_
      refine lv_if_ne (tgt := 122) hx hb dL_inTheEnd_113 (by decide) (fun c24 => ?_) (fun c24 => ?_)
      · rw [if_neg c24] at hf
        refine lv_iconst (v := (1:Int32)) hx hb dL_inTheEnd_122 (by decide) ?_
        refine lv_goto (tgt := 127) hx hb dL_inTheEnd_123 (by decide) ?_
        cases hf
        exact g_zret hx hb hr gz1 hlocks hP hS dL_inTheEnd_127
      · rw [if_pos c24] at hf
        refine lv_iload_n hx hb dL_inTheEnd_116 rfl (lv_at hl 1 rfl) ?_
        refine lv_bipush (v := (12:Int32)) hx hb dL_inTheEnd_117 (by decide) ?_
        refine lv_icmp_ne (tgt := 126) hx hb dL_inTheEnd_119 (by decide) (fun c25 => ?_) (fun c25 => ?_)
        · rw [if_neg c25] at hf
          refine lv_iconst (v := (0:Int32)) hx hb dL_inTheEnd_126 (by decide) ?_
          cases hf
          exact g_zret hx hb hr gz0 hlocks hP hS dL_inTheEnd_127
        · rw [if_pos c25] at hf
          refine lv_iconst (v := (1:Int32)) hx hb dL_inTheEnd_122 (by decide) ?_
          refine lv_goto (tgt := 127) hx hb dL_inTheEnd_123 (by decide) ?_
          cases hf
          exact g_zret hx hb hr gz1 hlocks hP hS dL_inTheEnd_127
    · rw [if_neg c22] at hf
      refine lv_aload_n hx hb dL_inTheEnd_60 rfl (lv_at hl 0 rfl) ?_
      refine lv_iload_n hx hb dL_inTheEnd_61 rfl (lv_at hl 1 rfl) ?_
      refine lv_iconst (v := (0:Int32)) hx hb dL_inTheEnd_62 (by decide) ?_
      obtain ⟨q26, hq26, hf⟩ := bd_some hf
      refine g_callVi S (As := [.int i1, .int (0:Int32)]) (gs' := [maW a0 (a1 0) (a2 0) (a3 0) (a4 0) (a7 0 0) (a8 0) (a9 0) (a9 1), stW G a1 e9.2.1, stW G a2 q10.2.1, rdW G a3 q10.2.2, paW G a7 e9.2.2.2]) (c_X5_member l G a0 a1 a2 a3 a4 a5 a6 a7 a8 a9 a10 a11 e9.2.1 i1 (0:Int32) hq26) (cwV 2 hts gL_inTheEnd_X5_member rfl rfl rfl hd_X5_member ⟨Nat.le_of_ble_eq_true rfl, Nat.le_of_ble_eq_true rfl⟩) hK hP hD hS hA (is := [0, 1]) rfl rfl 0 rfl rfl rfl rfl hl.1 rfl (Nat.le_of_ble_eq_true rfl) dL_inTheEnd_63 ⟨Nat.le_of_ble_eq_true rfl, Nat.le_of_ble_eq_true rfl⟩ rfl (fun H locs hP hD hS => ?_)
      refine lv_iload_n hx hb dL_inTheEnd_66 rfl (lv_at hl 2 rfl) ?_
      refine lv_icmp_ne (tgt := 74) hx hb dL_inTheEnd_67 (by decide) (fun c27 => ?_) (fun c27 => ?_)
      · rw [if_neg c27] at hf
        refine lv_iconst (v := (0:Int32)) hx hb dL_inTheEnd_74 (by decide) ?_
        refine lv_istore (lv' := [(4, .int (0:Int32)), (0, .ref (a0 0)), (1, .int i1), (2, .int q1.1), (3, .int e9.1)]) hx hb dL_inTheEnd_75 hl (by decide) rfl (fun ls hl => ?_)
        refine lv_iconst (v := (0:Int32)) hx hb dL_inTheEnd_77 (by decide) ?_
        refine lv_istore (lv' := [(5, .int (0:Int32)), (4, .int (0:Int32)), (0, .ref (a0 0)), (1, .int i1), (2, .int q1.1), (3, .int e9.1)]) hx hb dL_inTheEnd_78 hl (by decide) rfl (fun ls hl => ?_)
        obtain ⟨e28, he28, hf⟩ := bd_some hf
        refine w_L_inTheEnd_80 (Q := _) S hK hA G a0 a1 a2 a3 a4 a5 a6 a7 a8 a9 a10 a11 q10.2.1 q10.2.2 e9.1 FU _ e28 he28 _ _ _ hP hD hS (lv_sub hl [2, 5, 1, 0] rfl) (fun H locs ls hP hD hS hl => ?_)
        refine lv_iload hx hb dL_inTheEnd_111 (lv_at hl 2 rfl) ?_
        refine lv_if_ne (tgt := 122) hx hb dL_inTheEnd_113 (by decide) (fun c29 => ?_) (fun c29 => ?_)
        · rw [if_neg c29] at hf
          refine lv_iconst (v := (1:Int32)) hx hb dL_inTheEnd_122 (by decide) ?_
          refine lv_goto (tgt := 127) hx hb dL_inTheEnd_123 (by decide) ?_
          cases hf
          exact g_zret hx hb hr gz1 hlocks hP hS dL_inTheEnd_127
        · rw [if_pos c29] at hf
          refine lv_iload_n hx hb dL_inTheEnd_116 rfl (lv_at hl 1 rfl) ?_
          refine lv_bipush (v := (12:Int32)) hx hb dL_inTheEnd_117 (by decide) ?_
          refine lv_icmp_ne (tgt := 126) hx hb dL_inTheEnd_119 (by decide) (fun c30 => ?_) (fun c30 => ?_)
          · rw [if_neg c30] at hf
            refine lv_iconst (v := (0:Int32)) hx hb dL_inTheEnd_126 (by decide) ?_
            cases hf
            exact g_zret hx hb hr gz0 hlocks hP hS dL_inTheEnd_127
          · rw [if_pos c30] at hf
            refine lv_iconst (v := (1:Int32)) hx hb dL_inTheEnd_122 (by decide) ?_
            refine lv_goto (tgt := 127) hx hb dL_inTheEnd_123 (by decide) ?_
            cases hf
            exact g_zret hx hb hr gz1 hlocks hP hS dL_inTheEnd_127
      · rw [if_pos c27] at hf
        refine lv_iconst (v := (1:Int32)) hx hb dL_inTheEnd_70 (by decide) ?_
        refine lv_goto (tgt := 75) hx hb dL_inTheEnd_71 (by decide) ?_
        refine lv_istore (lv' := [(4, .int (1:Int32)), (0, .ref (a0 0)), (1, .int i1), (2, .int q1.1), (3, .int e9.1)]) hx hb dL_inTheEnd_75 hl (by decide) rfl (fun ls hl => ?_)
        refine lv_iconst (v := (0:Int32)) hx hb dL_inTheEnd_77 (by decide) ?_
        refine lv_istore (lv' := [(5, .int (0:Int32)), (4, .int (1:Int32)), (0, .ref (a0 0)), (1, .int i1), (2, .int q1.1), (3, .int e9.1)]) hx hb dL_inTheEnd_78 hl (by decide) rfl (fun ls hl => ?_)
        obtain ⟨e31, he31, hf⟩ := bd_some hf
        refine w_L_inTheEnd_80 (Q := _) S hK hA G a0 a1 a2 a3 a4 a5 a6 a7 a8 a9 a10 a11 q10.2.1 q10.2.2 e9.1 FU _ e31 he31 _ _ _ hP hD hS (lv_sub hl [2, 5, 1, 0] rfl) (fun H locs ls hP hD hS hl => ?_)
        refine lv_iload hx hb dL_inTheEnd_111 (lv_at hl 2 rfl) ?_
        refine lv_if_ne (tgt := 122) hx hb dL_inTheEnd_113 (by decide) (fun c32 => ?_) (fun c32 => ?_)
        · rw [if_neg c32] at hf
          refine lv_iconst (v := (1:Int32)) hx hb dL_inTheEnd_122 (by decide) ?_
          refine lv_goto (tgt := 127) hx hb dL_inTheEnd_123 (by decide) ?_
          cases hf
          exact g_zret hx hb hr gz1 hlocks hP hS dL_inTheEnd_127
        · rw [if_pos c32] at hf
          refine lv_iload_n hx hb dL_inTheEnd_116 rfl (lv_at hl 1 rfl) ?_
          refine lv_bipush (v := (12:Int32)) hx hb dL_inTheEnd_117 (by decide) ?_
          refine lv_icmp_ne (tgt := 126) hx hb dL_inTheEnd_119 (by decide) (fun c33 => ?_) (fun c33 => ?_)
          · rw [if_neg c33] at hf
            refine lv_iconst (v := (0:Int32)) hx hb dL_inTheEnd_126 (by decide) ?_
            cases hf
            exact g_zret hx hb hr gz0 hlocks hP hS dL_inTheEnd_127
          · rw [if_pos c33] at hf
            refine lv_iconst (v := (1:Int32)) hx hb dL_inTheEnd_122 (by decide) ?_
            refine lv_goto (tgt := 127) hx hb dL_inTheEnd_123 (by decide) ?_
            cases hf
            exact g_zret hx hb hr gz1 hlocks hP hS dL_inTheEnd_127
set_option maxHeartbeats 4000000 in
set_option maxRecDepth 100000 in
theorem c_L_leave (l : Launch) (G : uG) (a0 : Nat → Nat) (a1 : Nat → Nat) (a2 : Nat → Nat) (a3 : Nat → Nat) (a4 : Nat → Nat) (a5 : Nat → Nat) (a6 : Nat → Nat) (a7 : Nat → Nat → Nat) (a8 : Nat → Nat) (a9 : Nat → Nat) (a10 : Nat → Nat) (a11 : Nat → Nat) (v1 : StV) (v7 : PaV) (i1 : Int32) {q : Int32 × (StV × PaV)} (hf : f_L_leave v1 v7 i1 = some q) : mQ l yL_leave wsL_leave ({ frames := 4, cells := 0, slots := 0, locals := 86 } : Room) G [.ref (a0 0), .int i1] [maW a0 (a1 0) (a2 0) (a3 0) (a4 0) (a7 0 0) (a8 0) (a9 0) (a9 1), stW G a1 v1, paW G a7 v7] [maW a0 (a1 0) (a2 0) (a3 0) (a4 0) (a7 0 0) (a8 0) (a9 0) (a9 1), stW G a1 q.2.1, paW G a7 q.2.2] (qI G [maW a0 (a1 0) (a2 0) (a3 0) (a4 0) (a7 0 0) (a8 0) (a9 0) (a9 1), stW G a1 q.2.1, paW G a7 q.2.2] q.1) := by
  unfold f_L_leave at hf
  refine m_of (cc := cL_leave) (maxL := 7) (ret := (some .boolean)) (by decide) rfl rfl (Nat.le_of_ble_eq_true rfl) ?_
  intro p e s m args below meth c A ls S hK hA hP hD hS hl
  obtain ⟨hx, hb, hml, hown, hts, hr, hlocks⟩ := id S
  have hl : lv_has ls 7 [(0, .ref (a0 0)), (1, .int i1)] := hl
  refine lv_aload_n hx hb dL_leave_0 rfl (lv_at hl 0 rfl) ?_
  refine lv_iload_n hx hb dL_leave_1 rfl (lv_at hl 1 rfl) ?_
  refine lv_iconst (v := (4:Int32)) hx hb dL_leave_2 (by decide) ?_
  obtain ⟨q1, hq1, hf⟩ := bd_some hf
  refine g_callVi S (As := [.int i1, .int (4:Int32)]) (gs' := [maW a0 (a1 0) (a2 0) (a3 0) (a4 0) (a7 0 0) (a8 0) (a9 0) (a9 1), stW G a1 v1, paW G a7 v7]) (c_X5_member l G a0 a1 a2 a3 a4 a5 a6 a7 a8 a9 a10 a11 v1 i1 (4:Int32) hq1) (cwV 2 hts gL_leave_X5_member rfl rfl rfl hd_X5_member ⟨Nat.le_of_ble_eq_true rfl, Nat.le_of_ble_eq_true rfl⟩) hK hP hD hS hA (is := [0, 1]) rfl rfl 0 rfl rfl rfl rfl hl.1 rfl (Nat.le_of_ble_eq_true rfl) dL_leave_3 ⟨Nat.le_of_ble_eq_true rfl, Nat.le_of_ble_eq_true rfl⟩ rfl (fun H locs hP hD hS => ?_)
  refine lv_iconst (v := (1:Int32)) hx hb dL_leave_6 (by decide) ?_
  refine lv_icmp_ne (tgt := 14) hx hb dL_leave_7 (by decide) (fun c2 => ?_) (fun c2 => ?_)
  · rw [if_neg c2] at hf
    refine lv_iconst (v := (0:Int32)) hx hb dL_leave_14 (by decide) ?_
    refine lv_istore_n (lv' := [(2, .int (0:Int32)), (0, .ref (a0 0)), (1, .int i1)]) hx hb dL_leave_15 rfl hl (by decide) rfl (fun ls hl => ?_)
    refine lv_aload_n hx hb dL_leave_16 rfl (lv_at hl 1 rfl) ?_
    refine lv_iload_n hx hb dL_leave_17 rfl (lv_at hl 2 rfl) ?_
    refine lv_bipush (v := (6:Int32)) hx hb dL_leave_18 (by decide) ?_
    obtain ⟨q3, hq3, hf⟩ := bd_some hf
    refine g_callVi S (As := [.int i1, .int (6:Int32)]) (gs' := [maW a0 (a1 0) (a2 0) (a3 0) (a4 0) (a7 0 0) (a8 0) (a9 0) (a9 1), stW G a1 v1, paW G a7 v7]) (c_X5_member l G a0 a1 a2 a3 a4 a5 a6 a7 a8 a9 a10 a11 v1 i1 (6:Int32) hq3) (cwV 2 hts gL_leave_X5_member rfl rfl rfl hd_X5_member ⟨Nat.le_of_ble_eq_true rfl, Nat.le_of_ble_eq_true rfl⟩) hK hP hD hS hA (is := [0, 1]) rfl rfl 0 rfl rfl rfl rfl hl.1 rfl (Nat.le_of_ble_eq_true rfl) dL_leave_20 ⟨Nat.le_of_ble_eq_true rfl, Nat.le_of_ble_eq_true rfl⟩ rfl (fun H locs hP hD hS => ?_)
    refine lv_iconst (v := (2:Int32)) hx hb dL_leave_23 (by decide) ?_
    obtain ⟨h4, hf⟩ := gz_some hf
    refine lv_idiv hx hb dL_leave_24 h4 ?_
    obtain ⟨x5, ex5, hf⟩ := lt_some hf
    refine lv_nmi ex5 ?_
    refine lv_istore_n (lv' := [(3, .int x5), (2, .int (0:Int32)), (0, .ref (a0 0)), (1, .int i1)]) hx hb dL_leave_25 rfl hl (by decide) rfl (fun ls hl => ?_)
    refine lv_aload_n hx hb dL_leave_26 rfl (lv_at hl 2 rfl) ?_
    refine lv_iconst (v := (4:Int32)) hx hb dL_leave_27 (by decide) ?_
    obtain ⟨q6, hq6, hf⟩ := bd_some hf
    refine g_callVi S (As := [.int (4:Int32)]) (gs' := [maW a0 (a1 0) (a2 0) (a3 0) (a4 0) (a7 0 0) (a8 0) (a9 0) (a9 1), stW G a1 v1, paW G a7 v7]) (c_X5_about l G a0 a1 a2 a3 a4 a5 a6 a7 a8 a9 a10 a11 v1 (4:Int32) hq6) (cwV 1 hts gL_leave_X5_about rfl rfl rfl hd_X5_about ⟨Nat.le_of_ble_eq_true rfl, Nat.le_of_ble_eq_true rfl⟩) hK hP hD hS hA (is := [0, 1]) rfl rfl 0 rfl rfl rfl rfl hl.1 rfl (Nat.le_of_ble_eq_true rfl) dL_leave_28 ⟨Nat.le_of_ble_eq_true rfl, Nat.le_of_ble_eq_true rfl⟩ rfl (fun H locs hP hD hS => ?_)
    refine lv_istore (lv' := [(4, .int q6.1), (3, .int x5), (2, .int (0:Int32)), (0, .ref (a0 0)), (1, .int i1)]) hx hb dL_leave_31 hl (by decide) rfl (fun ls hl => ?_)
    refine lv_aload_n hx hb dL_leave_33 rfl (lv_at hl 3 rfl) ?_
    refine lv_iload_n hx hb dL_leave_34 rfl (lv_at hl 4 rfl) ?_
    refine lv_iconst (v := (0:Int32)) hx hb dL_leave_35 (by decide) ?_
    obtain ⟨q7, hq7, hf⟩ := bd_some hf
    refine g_callVi S (As := [.int i1, .int (0:Int32)]) (gs' := [maW a0 (a1 0) (a2 0) (a3 0) (a4 0) (a7 0 0) (a8 0) (a9 0) (a9 1), stW G a1 v1, paW G a7 v7]) (c_X5_member l G a0 a1 a2 a3 a4 a5 a6 a7 a8 a9 a10 a11 v1 i1 (0:Int32) hq7) (cwV 2 hts gL_leave_X5_member rfl rfl rfl hd_X5_member ⟨Nat.le_of_ble_eq_true rfl, Nat.le_of_ble_eq_true rfl⟩) hK hP hD hS hA (is := [0, 1]) rfl rfl 0 rfl rfl rfl rfl hl.1 rfl (Nat.le_of_ble_eq_true rfl) dL_leave_36 ⟨Nat.le_of_ble_eq_true rfl, Nat.le_of_ble_eq_true rfl⟩ rfl (fun H locs hP hD hS => ?_)
    refine lv_istore (lv' := [(5, .int q7.1), (4, .int q6.1), (3, .int x5), (2, .int (0:Int32)), (0, .ref (a0 0)), (1, .int i1)]) hx hb dL_leave_39 hl (by decide) rfl (fun ls hl => ?_)
    refine lv_iload_n hx hb dL_leave_41 rfl (lv_at hl 3 rfl) ?_
    refine lv_if_eq (tgt := 61) hx hb dL_leave_42 (by decide) (fun c8 => ?_) (fun c8 => ?_)
    · rw [if_pos c8] at hf
      refine lv_iload_n hx hb dL_leave_61 rfl (lv_at hl 2 rfl) ?_
      refine lv_iload hx hb dL_leave_62 (lv_at hl 1 rfl) ?_
      refine lv_icmp_ge (tgt := 71) hx hb dL_leave_64 (by decide) (fun c9 => ?_) (fun c9 => ?_)
      · rw [if_pos c9] at hf
        refine lv_iload hx hb dL_leave_71 (lv_at hl 1 rfl) ?_
        refine lv_istore (lv' := [(6, .int q6.1), (5, .int q7.1), (4, .int q6.1), (3, .int x5), (2, .int (0:Int32)), (0, .ref (a0 0)), (1, .int i1)]) hx hb dL_leave_73 hl (by decide) rfl (fun ls hl => ?_)
        refine lv_aload_n hx hb dL_leave_75 rfl (lv_at hl 5 rfl) ?_
        refine lv_iload_n hx hb dL_leave_76 rfl (lv_at hl 6 rfl) ?_
        refine lv_iconst (v := (5:Int32)) hx hb dL_leave_77 (by decide) ?_
        obtain ⟨q10, hq10, hf⟩ := bd_some hf
        refine g_callVi S (As := [.int i1, .int (5:Int32)]) (gs' := [maW a0 (a1 0) (a2 0) (a3 0) (a4 0) (a7 0 0) (a8 0) (a9 0) (a9 1), stW G a1 v1, paW G a7 v7]) (c_X5_member l G a0 a1 a2 a3 a4 a5 a6 a7 a8 a9 a10 a11 v1 i1 (5:Int32) hq10) (cwV 2 hts gL_leave_X5_member rfl rfl rfl hd_X5_member ⟨Nat.le_of_ble_eq_true rfl, Nat.le_of_ble_eq_true rfl⟩) hK hP hD hS hA (is := [0, 1]) rfl rfl 0 rfl rfl rfl rfl hl.1 rfl (Nat.le_of_ble_eq_true rfl) dL_leave_78 ⟨Nat.le_of_ble_eq_true rfl, Nat.le_of_ble_eq_true rfl⟩ rfl (fun H locs hP hD hS => ?_)
        refine lv_if_eq (tgt := 92) hx hb dL_leave_81 (by decide) (fun c11 => ?_) (fun c11 => ?_)
        · rw [if_pos c11] at hf
          refine lv_iconst (v := (1:Int32)) hx hb dL_leave_92 (by decide) ?_
          cases hf
          exact g_zret hx hb hr gz1 hlocks hP hS dL_leave_93
        · rw [if_neg c11] at hf
          refine lv_iload hx hb dL_leave_84 (lv_at hl 1 rfl) ?_
          refine lv_iload hx hb dL_leave_86 (lv_at hl 0 rfl) ?_
          refine lv_iadd hx hb dL_leave_88 ?_
          refine lv_if_ge (tgt := 94) hx hb dL_leave_89 (by decide) (fun c12 => ?_) (fun c12 => ?_)
          · rw [if_pos c12] at hf
            refine lv_aload_n hx hb dL_leave_94 rfl (lv_at hl 5 rfl) ?_
            refine lv_iload_n hx hb dL_leave_95 rfl (lv_at hl 6 rfl) ?_
            obtain ⟨q13, hq13, hf⟩ := bd_some hf
            refine g_callVi S (As := [.int i1]) (gs' := [maW a0 (a1 0) (a2 0) (a3 0) (a4 0) (a7 0 0) (a8 0) (a9 0) (a9 1), stW G a1 q13.2.1, paW G a7 q13.2.2]) (c_X5_leave l G a0 a1 a2 a3 a4 a5 a6 a7 a8 a9 a10 a11 v1 v7 i1 hq13) (cwV 1 hts gL_leave_X5_leave rfl rfl rfl hd_X5_leave ⟨Nat.le_of_ble_eq_true rfl, Nat.le_of_ble_eq_true rfl⟩) hK hP hD hS hA (is := [0, 1, 2]) rfl rfl 0 rfl rfl rfl rfl hl.1 rfl (Nat.le_of_ble_eq_true rfl) dL_leave_96 ⟨Nat.le_of_ble_eq_true rfl, Nat.le_of_ble_eq_true rfl⟩ rfl (fun H locs hP hD hS => ?_)
            refine lv_iload hx hb dL_leave_99 (lv_at hl 0 rfl) ?_
            refine lv_icmp_ne (tgt := 144) hx hb dL_leave_101 (by decide) (fun c14 => ?_) (fun c14 => ?_)
            · rw [if_neg c14] at hf
              refine lv_iconst (v := (0:Int32)) hx hb dL_leave_144 (by decide) ?_
              cases hf
              exact g_zret hx hb hr gz0 hlocks hP hS dL_leave_145
            · rw [if_pos c14] at hf
              refine lv_aload_n hx hb dL_leave_104 rfl (lv_at hl 5 rfl) ?_
              refine lv_iload_n hx hb dL_leave_105 rfl (lv_at hl 6 rfl) ?_
              refine lv_iconst (v := (0:Int32)) hx hb dL_leave_106 (by decide) ?_
              obtain ⟨q15, hq15, hf⟩ := bd_some hf
              refine g_callVi S (As := [.int i1, .int (0:Int32)]) (gs' := [maW a0 (a1 0) (a2 0) (a3 0) (a4 0) (a7 0 0) (a8 0) (a9 0) (a9 1), stW G a1 q13.2.1, paW G a7 q13.2.2]) (c_X5_member l G a0 a1 a2 a3 a4 a5 a6 a7 a8 a9 a10 a11 q13.2.1 i1 (0:Int32) hq15) (cwV 2 hts gL_leave_X5_member rfl rfl rfl hd_X5_member ⟨Nat.le_of_ble_eq_true rfl, Nat.le_of_ble_eq_true rfl⟩) hK hP hD hS hA (is := [0, 1]) rfl rfl 0 rfl rfl rfl rfl hl.1 rfl (Nat.le_of_ble_eq_true rfl) dL_leave_107 ⟨Nat.le_of_ble_eq_true rfl, Nat.le_of_ble_eq_true rfl⟩ rfl (fun H locs hP hD hS => ?_)
              refine lv_iload hx hb dL_leave_110 (lv_at hl 1 rfl) ?_
              refine lv_iload hx hb dL_leave_112 (lv_at hl 0 rfl) ?_
              refine lv_iadd hx hb dL_leave_114 ?_
              refine lv_icmp_ne (tgt := 144) hx hb dL_leave_115 (by decide) (fun c16 => ?_) (fun c16 => ?_)
              · rw [if_neg c16] at hf
                refine lv_iconst (v := (0:Int32)) hx hb dL_leave_144 (by decide) ?_
                cases hf
                exact g_zret hx hb hr gz0 hlocks hP hS dL_leave_145
              · rw [if_pos c16] at hf
                refine lv_aload_n hx hb dL_leave_118 rfl (lv_at hl 5 rfl) ?_
                refine lv_iconst (v := (4:Int32)) hx hb dL_leave_119 (by decide) ?_
                obtain ⟨q17, hq17, hf⟩ := bd_some hf
                refine g_callVi S (As := [.int (4:Int32)]) (gs' := [maW a0 (a1 0) (a2 0) (a3 0) (a4 0) (a7 0 0) (a8 0) (a9 0) (a9 1), stW G a1 q13.2.1, paW G a7 q13.2.2]) (c_X5_about l G a0 a1 a2 a3 a4 a5 a6 a7 a8 a9 a10 a11 q13.2.1 (4:Int32) hq17) (cwV 1 hts gL_leave_X5_about rfl rfl rfl hd_X5_about ⟨Nat.le_of_ble_eq_true rfl, Nat.le_of_ble_eq_true rfl⟩) hK hP hD hS hA (is := [0, 1]) rfl rfl 0 rfl rfl rfl rfl hl.1 rfl (Nat.le_of_ble_eq_true rfl) dL_leave_120 ⟨Nat.le_of_ble_eq_true rfl, Nat.le_of_ble_eq_true rfl⟩ rfl (fun H locs hP hD hS => ?_)
                refine lv_iload hx hb dL_leave_123 (lv_at hl 2 rfl) ?_
                refine lv_iload hx hb dL_leave_125 (lv_at hl 0 rfl) ?_
                refine lv_isub hx hb dL_leave_127 ?_
                refine lv_icmp_ne (tgt := 144) hx hb dL_leave_128 (by decide) (fun c18 => ?_) (fun c18 => ?_)
                · rw [if_neg c18] at hf
                  refine lv_iconst (v := (0:Int32)) hx hb dL_leave_144 (by decide) ?_
                  cases hf
                  exact g_zret hx hb hr gz0 hlocks hP hS dL_leave_145
                · rw [if_pos c18] at hf
                  refine lv_aload_n hx hb dL_leave_131 rfl (lv_at hl 5 rfl) ?_
                  refine lv_iload_n hx hb dL_leave_132 rfl (lv_at hl 6 rfl) ?_
                  refine lv_iconst (v := (5:Int32)) hx hb dL_leave_133 (by decide) ?_
                  obtain ⟨q19, hq19, hf⟩ := bd_some hf
                  refine g_callVi S (As := [.int i1, .int (5:Int32)]) (gs' := [maW a0 (a1 0) (a2 0) (a3 0) (a4 0) (a7 0 0) (a8 0) (a9 0) (a9 1), stW G a1 q13.2.1, paW G a7 q13.2.2]) (c_X5_member l G a0 a1 a2 a3 a4 a5 a6 a7 a8 a9 a10 a11 q13.2.1 i1 (5:Int32) hq19) (cwV 2 hts gL_leave_X5_member rfl rfl rfl hd_X5_member ⟨Nat.le_of_ble_eq_true rfl, Nat.le_of_ble_eq_true rfl⟩) hK hP hD hS hA (is := [0, 1]) rfl rfl 0 rfl rfl rfl rfl hl.1 rfl (Nat.le_of_ble_eq_true rfl) dL_leave_134 ⟨Nat.le_of_ble_eq_true rfl, Nat.le_of_ble_eq_true rfl⟩ rfl (fun H locs hP hD hS => ?_)
                  refine lv_if_ne (tgt := 144) hx hb dL_leave_137 (by decide) (fun c20 => ?_) (fun c20 => ?_)
                  · rw [if_neg c20] at hf
                    refine lv_iconst (v := (0:Int32)) hx hb dL_leave_144 (by decide) ?_
                    cases hf
                    exact g_zret hx hb hr gz0 hlocks hP hS dL_leave_145
                  · rw [if_pos c20] at hf
                    refine lv_iconst (v := (1:Int32)) hx hb dL_leave_140 (by decide) ?_
                    refine lv_goto (tgt := 145) hx hb dL_leave_141 (by decide) ?_
                    cases hf
                    exact g_zret hx hb hr gz1 hlocks hP hS dL_leave_145
          · rw [if_neg c12] at hf
            refine lv_iconst (v := (1:Int32)) hx hb dL_leave_92 (by decide) ?_
            cases hf
            exact g_zret hx hb hr gz1 hlocks hP hS dL_leave_93
      · rw [if_neg c9] at hf
        refine lv_iload_n hx hb dL_leave_67 rfl (lv_at hl 2 rfl) ?_
        refine lv_goto (tgt := 73) hx hb dL_leave_68 (by decide) ?_
        refine lv_istore (lv' := [(6, .int x5), (5, .int q7.1), (4, .int q6.1), (3, .int x5), (2, .int (0:Int32)), (0, .ref (a0 0)), (1, .int i1)]) hx hb dL_leave_73 hl (by decide) rfl (fun ls hl => ?_)
        refine lv_aload_n hx hb dL_leave_75 rfl (lv_at hl 5 rfl) ?_
        refine lv_iload_n hx hb dL_leave_76 rfl (lv_at hl 6 rfl) ?_
        refine lv_iconst (v := (5:Int32)) hx hb dL_leave_77 (by decide) ?_
        obtain ⟨q21, hq21, hf⟩ := bd_some hf
        refine g_callVi S (As := [.int i1, .int (5:Int32)]) (gs' := [maW a0 (a1 0) (a2 0) (a3 0) (a4 0) (a7 0 0) (a8 0) (a9 0) (a9 1), stW G a1 v1, paW G a7 v7]) (c_X5_member l G a0 a1 a2 a3 a4 a5 a6 a7 a8 a9 a10 a11 v1 i1 (5:Int32) hq21) (cwV 2 hts gL_leave_X5_member rfl rfl rfl hd_X5_member ⟨Nat.le_of_ble_eq_true rfl, Nat.le_of_ble_eq_true rfl⟩) hK hP hD hS hA (is := [0, 1]) rfl rfl 0 rfl rfl rfl rfl hl.1 rfl (Nat.le_of_ble_eq_true rfl) dL_leave_78 ⟨Nat.le_of_ble_eq_true rfl, Nat.le_of_ble_eq_true rfl⟩ rfl (fun H locs hP hD hS => ?_)
        refine lv_if_eq (tgt := 92) hx hb dL_leave_81 (by decide) (fun c22 => ?_) (fun c22 => ?_)
        · rw [if_pos c22] at hf
          refine lv_iconst (v := (1:Int32)) hx hb dL_leave_92 (by decide) ?_
          cases hf
          exact g_zret hx hb hr gz1 hlocks hP hS dL_leave_93
        · rw [if_neg c22] at hf
          refine lv_iload hx hb dL_leave_84 (lv_at hl 1 rfl) ?_
          refine lv_iload hx hb dL_leave_86 (lv_at hl 0 rfl) ?_
          refine lv_iadd hx hb dL_leave_88 ?_
          refine lv_if_ge (tgt := 94) hx hb dL_leave_89 (by decide) (fun c23 => ?_) (fun c23 => ?_)
          · rw [if_pos c23] at hf
            refine lv_aload_n hx hb dL_leave_94 rfl (lv_at hl 5 rfl) ?_
            refine lv_iload_n hx hb dL_leave_95 rfl (lv_at hl 6 rfl) ?_
            obtain ⟨q24, hq24, hf⟩ := bd_some hf
            refine g_callVi S (As := [.int i1]) (gs' := [maW a0 (a1 0) (a2 0) (a3 0) (a4 0) (a7 0 0) (a8 0) (a9 0) (a9 1), stW G a1 q24.2.1, paW G a7 q24.2.2]) (c_X5_leave l G a0 a1 a2 a3 a4 a5 a6 a7 a8 a9 a10 a11 v1 v7 i1 hq24) (cwV 1 hts gL_leave_X5_leave rfl rfl rfl hd_X5_leave ⟨Nat.le_of_ble_eq_true rfl, Nat.le_of_ble_eq_true rfl⟩) hK hP hD hS hA (is := [0, 1, 2]) rfl rfl 0 rfl rfl rfl rfl hl.1 rfl (Nat.le_of_ble_eq_true rfl) dL_leave_96 ⟨Nat.le_of_ble_eq_true rfl, Nat.le_of_ble_eq_true rfl⟩ rfl (fun H locs hP hD hS => ?_)
            refine lv_iload hx hb dL_leave_99 (lv_at hl 0 rfl) ?_
            refine lv_icmp_ne (tgt := 144) hx hb dL_leave_101 (by decide) (fun c25 => ?_) (fun c25 => ?_)
            · rw [if_neg c25] at hf
              refine lv_iconst (v := (0:Int32)) hx hb dL_leave_144 (by decide) ?_
              cases hf
              exact g_zret hx hb hr gz0 hlocks hP hS dL_leave_145
            · rw [if_pos c25] at hf
              refine lv_aload_n hx hb dL_leave_104 rfl (lv_at hl 5 rfl) ?_
              refine lv_iload_n hx hb dL_leave_105 rfl (lv_at hl 6 rfl) ?_
              refine lv_iconst (v := (0:Int32)) hx hb dL_leave_106 (by decide) ?_
              obtain ⟨q26, hq26, hf⟩ := bd_some hf
              refine g_callVi S (As := [.int i1, .int (0:Int32)]) (gs' := [maW a0 (a1 0) (a2 0) (a3 0) (a4 0) (a7 0 0) (a8 0) (a9 0) (a9 1), stW G a1 q24.2.1, paW G a7 q24.2.2]) (c_X5_member l G a0 a1 a2 a3 a4 a5 a6 a7 a8 a9 a10 a11 q24.2.1 i1 (0:Int32) hq26) (cwV 2 hts gL_leave_X5_member rfl rfl rfl hd_X5_member ⟨Nat.le_of_ble_eq_true rfl, Nat.le_of_ble_eq_true rfl⟩) hK hP hD hS hA (is := [0, 1]) rfl rfl 0 rfl rfl rfl rfl hl.1 rfl (Nat.le_of_ble_eq_true rfl) dL_leave_107 ⟨Nat.le_of_ble_eq_true rfl, Nat.le_of_ble_eq_true rfl⟩ rfl (fun H locs hP hD hS => ?_)
              refine lv_iload hx hb dL_leave_110 (lv_at hl 1 rfl) ?_
              refine lv_iload hx hb dL_leave_112 (lv_at hl 0 rfl) ?_
              refine lv_iadd hx hb dL_leave_114 ?_
              refine lv_icmp_ne (tgt := 144) hx hb dL_leave_115 (by decide) (fun c27 => ?_) (fun c27 => ?_)
              · rw [if_neg c27] at hf
                refine lv_iconst (v := (0:Int32)) hx hb dL_leave_144 (by decide) ?_
                cases hf
                exact g_zret hx hb hr gz0 hlocks hP hS dL_leave_145
              · rw [if_pos c27] at hf
                refine lv_aload_n hx hb dL_leave_118 rfl (lv_at hl 5 rfl) ?_
                refine lv_iconst (v := (4:Int32)) hx hb dL_leave_119 (by decide) ?_
                obtain ⟨q28, hq28, hf⟩ := bd_some hf
                refine g_callVi S (As := [.int (4:Int32)]) (gs' := [maW a0 (a1 0) (a2 0) (a3 0) (a4 0) (a7 0 0) (a8 0) (a9 0) (a9 1), stW G a1 q24.2.1, paW G a7 q24.2.2]) (c_X5_about l G a0 a1 a2 a3 a4 a5 a6 a7 a8 a9 a10 a11 q24.2.1 (4:Int32) hq28) (cwV 1 hts gL_leave_X5_about rfl rfl rfl hd_X5_about ⟨Nat.le_of_ble_eq_true rfl, Nat.le_of_ble_eq_true rfl⟩) hK hP hD hS hA (is := [0, 1]) rfl rfl 0 rfl rfl rfl rfl hl.1 rfl (Nat.le_of_ble_eq_true rfl) dL_leave_120 ⟨Nat.le_of_ble_eq_true rfl, Nat.le_of_ble_eq_true rfl⟩ rfl (fun H locs hP hD hS => ?_)
                refine lv_iload hx hb dL_leave_123 (lv_at hl 2 rfl) ?_
                refine lv_iload hx hb dL_leave_125 (lv_at hl 0 rfl) ?_
                refine lv_isub hx hb dL_leave_127 ?_
                refine lv_icmp_ne (tgt := 144) hx hb dL_leave_128 (by decide) (fun c29 => ?_) (fun c29 => ?_)
                · rw [if_neg c29] at hf
                  refine lv_iconst (v := (0:Int32)) hx hb dL_leave_144 (by decide) ?_
                  cases hf
                  exact g_zret hx hb hr gz0 hlocks hP hS dL_leave_145
                · rw [if_pos c29] at hf
                  refine lv_aload_n hx hb dL_leave_131 rfl (lv_at hl 5 rfl) ?_
                  refine lv_iload_n hx hb dL_leave_132 rfl (lv_at hl 6 rfl) ?_
                  refine lv_iconst (v := (5:Int32)) hx hb dL_leave_133 (by decide) ?_
                  obtain ⟨q30, hq30, hf⟩ := bd_some hf
                  refine g_callVi S (As := [.int i1, .int (5:Int32)]) (gs' := [maW a0 (a1 0) (a2 0) (a3 0) (a4 0) (a7 0 0) (a8 0) (a9 0) (a9 1), stW G a1 q24.2.1, paW G a7 q24.2.2]) (c_X5_member l G a0 a1 a2 a3 a4 a5 a6 a7 a8 a9 a10 a11 q24.2.1 i1 (5:Int32) hq30) (cwV 2 hts gL_leave_X5_member rfl rfl rfl hd_X5_member ⟨Nat.le_of_ble_eq_true rfl, Nat.le_of_ble_eq_true rfl⟩) hK hP hD hS hA (is := [0, 1]) rfl rfl 0 rfl rfl rfl rfl hl.1 rfl (Nat.le_of_ble_eq_true rfl) dL_leave_134 ⟨Nat.le_of_ble_eq_true rfl, Nat.le_of_ble_eq_true rfl⟩ rfl (fun H locs hP hD hS => ?_)
                  refine lv_if_ne (tgt := 144) hx hb dL_leave_137 (by decide) (fun c31 => ?_) (fun c31 => ?_)
                  · rw [if_neg c31] at hf
                    refine lv_iconst (v := (0:Int32)) hx hb dL_leave_144 (by decide) ?_
                    cases hf
                    exact g_zret hx hb hr gz0 hlocks hP hS dL_leave_145
                  · rw [if_pos c31] at hf
                    refine lv_iconst (v := (1:Int32)) hx hb dL_leave_140 (by decide) ?_
                    refine lv_goto (tgt := 145) hx hb dL_leave_141 (by decide) ?_
                    cases hf
                    exact g_zret hx hb hr gz1 hlocks hP hS dL_leave_145
          · rw [if_neg c23] at hf
            refine lv_iconst (v := (1:Int32)) hx hb dL_leave_92 (by decide) ?_
            cases hf
            exact g_zret hx hb hr gz1 hlocks hP hS dL_leave_93
    · rw [if_neg c8] at hf
      refine lv_aload_n hx hb dL_leave_45 rfl (lv_at hl 4 rfl) ?_
      refine lv_iconst (v := (3:Int32)) hx hb dL_leave_46 (by decide) ?_
      obtain ⟨q32, hq32, hf⟩ := bd_some hf
      refine g_callVi S (As := [.int (3:Int32)]) (gs' := [maW a0 (a1 0) (a2 0) (a3 0) (a4 0) (a7 0 0) (a8 0) (a9 0) (a9 1), stW G a1 v1, paW G a7 v7]) (c_X5_about l G a0 a1 a2 a3 a4 a5 a6 a7 a8 a9 a10 a11 v1 (3:Int32) hq32) (cwV 1 hts gL_leave_X5_about rfl rfl rfl hd_X5_about ⟨Nat.le_of_ble_eq_true rfl, Nat.le_of_ble_eq_true rfl⟩) hK hP hD hS hA (is := [0, 1]) rfl rfl 0 rfl rfl rfl rfl hl.1 rfl (Nat.le_of_ble_eq_true rfl) dL_leave_47 ⟨Nat.le_of_ble_eq_true rfl, Nat.le_of_ble_eq_true rfl⟩ rfl (fun H locs hP hD hS => ?_)
      refine lv_ineg hx hb dL_leave_50 ?_
      refine lv_aload_n hx hb dL_leave_51 rfl (lv_at hl 4 rfl) ?_
      refine lv_bipush (v := (6:Int32)) hx hb dL_leave_52 (by decide) ?_
      obtain ⟨q33, hq33, hf⟩ := bd_some hf
      refine g_callVi S (As := [.int (6:Int32)]) (gs' := [maW a0 (a1 0) (a2 0) (a3 0) (a4 0) (a7 0 0) (a8 0) (a9 0) (a9 1), stW G a1 v1, paW G a7 v7]) (c_X5_about l G a0 a1 a2 a3 a4 a5 a6 a7 a8 a9 a10 a11 v1 (6:Int32) hq33) (cwV 1 hts gL_leave_X5_about rfl rfl rfl hd_X5_about ⟨Nat.le_of_ble_eq_true rfl, Nat.le_of_ble_eq_true rfl⟩) hK hP hD hS hA (is := [0, 1]) rfl rfl 0 rfl rfl rfl rfl hl.1 rfl (Nat.le_of_ble_eq_true rfl) dL_leave_54 ⟨Nat.le_of_ble_eq_true rfl, Nat.le_of_ble_eq_true rfl⟩ rfl (fun H locs hP hD hS => ?_)
      refine lv_imul hx hb dL_leave_57 ?_
      refine lv_goto (tgt := 73) hx hb dL_leave_58 (by decide) ?_
      obtain ⟨x34, ex34, hf⟩ := lt_some hf
      refine lv_nmi ex34 ?_
      refine lv_istore (lv' := [(6, .int x34), (5, .int q7.1), (4, .int q6.1), (3, .int x5), (2, .int (0:Int32)), (0, .ref (a0 0)), (1, .int i1)]) hx hb dL_leave_73 hl (by decide) rfl (fun ls hl => ?_)
      refine lv_aload_n hx hb dL_leave_75 rfl (lv_at hl 5 rfl) ?_
      refine lv_iload_n hx hb dL_leave_76 rfl (lv_at hl 6 rfl) ?_
      refine lv_iconst (v := (5:Int32)) hx hb dL_leave_77 (by decide) ?_
      obtain ⟨q35, hq35, hf⟩ := bd_some hf
      refine g_callVi S (As := [.int i1, .int (5:Int32)]) (gs' := [maW a0 (a1 0) (a2 0) (a3 0) (a4 0) (a7 0 0) (a8 0) (a9 0) (a9 1), stW G a1 v1, paW G a7 v7]) (c_X5_member l G a0 a1 a2 a3 a4 a5 a6 a7 a8 a9 a10 a11 v1 i1 (5:Int32) hq35) (cwV 2 hts gL_leave_X5_member rfl rfl rfl hd_X5_member ⟨Nat.le_of_ble_eq_true rfl, Nat.le_of_ble_eq_true rfl⟩) hK hP hD hS hA (is := [0, 1]) rfl rfl 0 rfl rfl rfl rfl hl.1 rfl (Nat.le_of_ble_eq_true rfl) dL_leave_78 ⟨Nat.le_of_ble_eq_true rfl, Nat.le_of_ble_eq_true rfl⟩ rfl (fun H locs hP hD hS => ?_)
      refine lv_if_eq (tgt := 92) hx hb dL_leave_81 (by decide) (fun c36 => ?_) (fun c36 => ?_)
      · rw [if_pos c36] at hf
        refine lv_iconst (v := (1:Int32)) hx hb dL_leave_92 (by decide) ?_
        cases hf
        exact g_zret hx hb hr gz1 hlocks hP hS dL_leave_93
      · rw [if_neg c36] at hf
        refine lv_iload hx hb dL_leave_84 (lv_at hl 1 rfl) ?_
        refine lv_iload hx hb dL_leave_86 (lv_at hl 0 rfl) ?_
        refine lv_iadd hx hb dL_leave_88 ?_
        refine lv_if_ge (tgt := 94) hx hb dL_leave_89 (by decide) (fun c37 => ?_) (fun c37 => ?_)
        · rw [if_pos c37] at hf
          refine lv_aload_n hx hb dL_leave_94 rfl (lv_at hl 5 rfl) ?_
          refine lv_iload_n hx hb dL_leave_95 rfl (lv_at hl 6 rfl) ?_
          obtain ⟨q38, hq38, hf⟩ := bd_some hf
          refine g_callVi S (As := [.int i1]) (gs' := [maW a0 (a1 0) (a2 0) (a3 0) (a4 0) (a7 0 0) (a8 0) (a9 0) (a9 1), stW G a1 q38.2.1, paW G a7 q38.2.2]) (c_X5_leave l G a0 a1 a2 a3 a4 a5 a6 a7 a8 a9 a10 a11 v1 v7 i1 hq38) (cwV 1 hts gL_leave_X5_leave rfl rfl rfl hd_X5_leave ⟨Nat.le_of_ble_eq_true rfl, Nat.le_of_ble_eq_true rfl⟩) hK hP hD hS hA (is := [0, 1, 2]) rfl rfl 0 rfl rfl rfl rfl hl.1 rfl (Nat.le_of_ble_eq_true rfl) dL_leave_96 ⟨Nat.le_of_ble_eq_true rfl, Nat.le_of_ble_eq_true rfl⟩ rfl (fun H locs hP hD hS => ?_)
          refine lv_iload hx hb dL_leave_99 (lv_at hl 0 rfl) ?_
          refine lv_icmp_ne (tgt := 144) hx hb dL_leave_101 (by decide) (fun c39 => ?_) (fun c39 => ?_)
          · rw [if_neg c39] at hf
            refine lv_iconst (v := (0:Int32)) hx hb dL_leave_144 (by decide) ?_
            cases hf
            exact g_zret hx hb hr gz0 hlocks hP hS dL_leave_145
          · rw [if_pos c39] at hf
            refine lv_aload_n hx hb dL_leave_104 rfl (lv_at hl 5 rfl) ?_
            refine lv_iload_n hx hb dL_leave_105 rfl (lv_at hl 6 rfl) ?_
            refine lv_iconst (v := (0:Int32)) hx hb dL_leave_106 (by decide) ?_
            obtain ⟨q40, hq40, hf⟩ := bd_some hf
            refine g_callVi S (As := [.int i1, .int (0:Int32)]) (gs' := [maW a0 (a1 0) (a2 0) (a3 0) (a4 0) (a7 0 0) (a8 0) (a9 0) (a9 1), stW G a1 q38.2.1, paW G a7 q38.2.2]) (c_X5_member l G a0 a1 a2 a3 a4 a5 a6 a7 a8 a9 a10 a11 q38.2.1 i1 (0:Int32) hq40) (cwV 2 hts gL_leave_X5_member rfl rfl rfl hd_X5_member ⟨Nat.le_of_ble_eq_true rfl, Nat.le_of_ble_eq_true rfl⟩) hK hP hD hS hA (is := [0, 1]) rfl rfl 0 rfl rfl rfl rfl hl.1 rfl (Nat.le_of_ble_eq_true rfl) dL_leave_107 ⟨Nat.le_of_ble_eq_true rfl, Nat.le_of_ble_eq_true rfl⟩ rfl (fun H locs hP hD hS => ?_)
            refine lv_iload hx hb dL_leave_110 (lv_at hl 1 rfl) ?_
            refine lv_iload hx hb dL_leave_112 (lv_at hl 0 rfl) ?_
            refine lv_iadd hx hb dL_leave_114 ?_
            refine lv_icmp_ne (tgt := 144) hx hb dL_leave_115 (by decide) (fun c41 => ?_) (fun c41 => ?_)
            · rw [if_neg c41] at hf
              refine lv_iconst (v := (0:Int32)) hx hb dL_leave_144 (by decide) ?_
              cases hf
              exact g_zret hx hb hr gz0 hlocks hP hS dL_leave_145
            · rw [if_pos c41] at hf
              refine lv_aload_n hx hb dL_leave_118 rfl (lv_at hl 5 rfl) ?_
              refine lv_iconst (v := (4:Int32)) hx hb dL_leave_119 (by decide) ?_
              obtain ⟨q42, hq42, hf⟩ := bd_some hf
              refine g_callVi S (As := [.int (4:Int32)]) (gs' := [maW a0 (a1 0) (a2 0) (a3 0) (a4 0) (a7 0 0) (a8 0) (a9 0) (a9 1), stW G a1 q38.2.1, paW G a7 q38.2.2]) (c_X5_about l G a0 a1 a2 a3 a4 a5 a6 a7 a8 a9 a10 a11 q38.2.1 (4:Int32) hq42) (cwV 1 hts gL_leave_X5_about rfl rfl rfl hd_X5_about ⟨Nat.le_of_ble_eq_true rfl, Nat.le_of_ble_eq_true rfl⟩) hK hP hD hS hA (is := [0, 1]) rfl rfl 0 rfl rfl rfl rfl hl.1 rfl (Nat.le_of_ble_eq_true rfl) dL_leave_120 ⟨Nat.le_of_ble_eq_true rfl, Nat.le_of_ble_eq_true rfl⟩ rfl (fun H locs hP hD hS => ?_)
              refine lv_iload hx hb dL_leave_123 (lv_at hl 2 rfl) ?_
              refine lv_iload hx hb dL_leave_125 (lv_at hl 0 rfl) ?_
              refine lv_isub hx hb dL_leave_127 ?_
              refine lv_icmp_ne (tgt := 144) hx hb dL_leave_128 (by decide) (fun c43 => ?_) (fun c43 => ?_)
              · rw [if_neg c43] at hf
                refine lv_iconst (v := (0:Int32)) hx hb dL_leave_144 (by decide) ?_
                cases hf
                exact g_zret hx hb hr gz0 hlocks hP hS dL_leave_145
              · rw [if_pos c43] at hf
                refine lv_aload_n hx hb dL_leave_131 rfl (lv_at hl 5 rfl) ?_
                refine lv_iload_n hx hb dL_leave_132 rfl (lv_at hl 6 rfl) ?_
                refine lv_iconst (v := (5:Int32)) hx hb dL_leave_133 (by decide) ?_
                obtain ⟨q44, hq44, hf⟩ := bd_some hf
                refine g_callVi S (As := [.int i1, .int (5:Int32)]) (gs' := [maW a0 (a1 0) (a2 0) (a3 0) (a4 0) (a7 0 0) (a8 0) (a9 0) (a9 1), stW G a1 q38.2.1, paW G a7 q38.2.2]) (c_X5_member l G a0 a1 a2 a3 a4 a5 a6 a7 a8 a9 a10 a11 q38.2.1 i1 (5:Int32) hq44) (cwV 2 hts gL_leave_X5_member rfl rfl rfl hd_X5_member ⟨Nat.le_of_ble_eq_true rfl, Nat.le_of_ble_eq_true rfl⟩) hK hP hD hS hA (is := [0, 1]) rfl rfl 0 rfl rfl rfl rfl hl.1 rfl (Nat.le_of_ble_eq_true rfl) dL_leave_134 ⟨Nat.le_of_ble_eq_true rfl, Nat.le_of_ble_eq_true rfl⟩ rfl (fun H locs hP hD hS => ?_)
                refine lv_if_ne (tgt := 144) hx hb dL_leave_137 (by decide) (fun c45 => ?_) (fun c45 => ?_)
                · rw [if_neg c45] at hf
                  refine lv_iconst (v := (0:Int32)) hx hb dL_leave_144 (by decide) ?_
                  cases hf
                  exact g_zret hx hb hr gz0 hlocks hP hS dL_leave_145
                · rw [if_pos c45] at hf
                  refine lv_iconst (v := (1:Int32)) hx hb dL_leave_140 (by decide) ?_
                  refine lv_goto (tgt := 145) hx hb dL_leave_141 (by decide) ?_
                  cases hf
                  exact g_zret hx hb hr gz1 hlocks hP hS dL_leave_145
        · rw [if_neg c37] at hf
          refine lv_iconst (v := (1:Int32)) hx hb dL_leave_92 (by decide) ?_
          cases hf
          exact g_zret hx hb hr gz1 hlocks hP hS dL_leave_93
  · rw [if_pos c2] at hf
    refine lv_iconst (v := (1:Int32)) hx hb dL_leave_10 (by decide) ?_
    refine lv_goto (tgt := 15) hx hb dL_leave_11 (by decide) ?_
    refine lv_istore_n (lv' := [(2, .int (1:Int32)), (0, .ref (a0 0)), (1, .int i1)]) hx hb dL_leave_15 rfl hl (by decide) rfl (fun ls hl => ?_)
    refine lv_aload_n hx hb dL_leave_16 rfl (lv_at hl 1 rfl) ?_
    refine lv_iload_n hx hb dL_leave_17 rfl (lv_at hl 2 rfl) ?_
    refine lv_bipush (v := (6:Int32)) hx hb dL_leave_18 (by decide) ?_
    obtain ⟨q46, hq46, hf⟩ := bd_some hf
    refine g_callVi S (As := [.int i1, .int (6:Int32)]) (gs' := [maW a0 (a1 0) (a2 0) (a3 0) (a4 0) (a7 0 0) (a8 0) (a9 0) (a9 1), stW G a1 v1, paW G a7 v7]) (c_X5_member l G a0 a1 a2 a3 a4 a5 a6 a7 a8 a9 a10 a11 v1 i1 (6:Int32) hq46) (cwV 2 hts gL_leave_X5_member rfl rfl rfl hd_X5_member ⟨Nat.le_of_ble_eq_true rfl, Nat.le_of_ble_eq_true rfl⟩) hK hP hD hS hA (is := [0, 1]) rfl rfl 0 rfl rfl rfl rfl hl.1 rfl (Nat.le_of_ble_eq_true rfl) dL_leave_20 ⟨Nat.le_of_ble_eq_true rfl, Nat.le_of_ble_eq_true rfl⟩ rfl (fun H locs hP hD hS => ?_)
    refine lv_iconst (v := (2:Int32)) hx hb dL_leave_23 (by decide) ?_
    obtain ⟨h47, hf⟩ := gz_some hf
    refine lv_idiv hx hb dL_leave_24 h47 ?_
    obtain ⟨x48, ex48, hf⟩ := lt_some hf
    refine lv_nmi ex48 ?_
    refine lv_istore_n (lv' := [(3, .int x48), (2, .int (1:Int32)), (0, .ref (a0 0)), (1, .int i1)]) hx hb dL_leave_25 rfl hl (by decide) rfl (fun ls hl => ?_)
    refine lv_aload_n hx hb dL_leave_26 rfl (lv_at hl 2 rfl) ?_
    refine lv_iconst (v := (4:Int32)) hx hb dL_leave_27 (by decide) ?_
    obtain ⟨q49, hq49, hf⟩ := bd_some hf
    refine g_callVi S (As := [.int (4:Int32)]) (gs' := [maW a0 (a1 0) (a2 0) (a3 0) (a4 0) (a7 0 0) (a8 0) (a9 0) (a9 1), stW G a1 v1, paW G a7 v7]) (c_X5_about l G a0 a1 a2 a3 a4 a5 a6 a7 a8 a9 a10 a11 v1 (4:Int32) hq49) (cwV 1 hts gL_leave_X5_about rfl rfl rfl hd_X5_about ⟨Nat.le_of_ble_eq_true rfl, Nat.le_of_ble_eq_true rfl⟩) hK hP hD hS hA (is := [0, 1]) rfl rfl 0 rfl rfl rfl rfl hl.1 rfl (Nat.le_of_ble_eq_true rfl) dL_leave_28 ⟨Nat.le_of_ble_eq_true rfl, Nat.le_of_ble_eq_true rfl⟩ rfl (fun H locs hP hD hS => ?_)
    refine lv_istore (lv' := [(4, .int q49.1), (3, .int x48), (2, .int (1:Int32)), (0, .ref (a0 0)), (1, .int i1)]) hx hb dL_leave_31 hl (by decide) rfl (fun ls hl => ?_)
    refine lv_aload_n hx hb dL_leave_33 rfl (lv_at hl 3 rfl) ?_
    refine lv_iload_n hx hb dL_leave_34 rfl (lv_at hl 4 rfl) ?_
    refine lv_iconst (v := (0:Int32)) hx hb dL_leave_35 (by decide) ?_
    obtain ⟨q50, hq50, hf⟩ := bd_some hf
    refine g_callVi S (As := [.int i1, .int (0:Int32)]) (gs' := [maW a0 (a1 0) (a2 0) (a3 0) (a4 0) (a7 0 0) (a8 0) (a9 0) (a9 1), stW G a1 v1, paW G a7 v7]) (c_X5_member l G a0 a1 a2 a3 a4 a5 a6 a7 a8 a9 a10 a11 v1 i1 (0:Int32) hq50) (cwV 2 hts gL_leave_X5_member rfl rfl rfl hd_X5_member ⟨Nat.le_of_ble_eq_true rfl, Nat.le_of_ble_eq_true rfl⟩) hK hP hD hS hA (is := [0, 1]) rfl rfl 0 rfl rfl rfl rfl hl.1 rfl (Nat.le_of_ble_eq_true rfl) dL_leave_36 ⟨Nat.le_of_ble_eq_true rfl, Nat.le_of_ble_eq_true rfl⟩ rfl (fun H locs hP hD hS => ?_)
    refine lv_istore (lv' := [(5, .int q50.1), (4, .int q49.1), (3, .int x48), (2, .int (1:Int32)), (0, .ref (a0 0)), (1, .int i1)]) hx hb dL_leave_39 hl (by decide) rfl (fun ls hl => ?_)
    refine lv_iload_n hx hb dL_leave_41 rfl (lv_at hl 3 rfl) ?_
    refine lv_if_eq (tgt := 61) hx hb dL_leave_42 (by decide) (fun c51 => ?_) (fun c51 => ?_)
    · rw [if_pos c51] at hf
      refine lv_iload_n hx hb dL_leave_61 rfl (lv_at hl 2 rfl) ?_
      refine lv_iload hx hb dL_leave_62 (lv_at hl 1 rfl) ?_
      refine lv_icmp_ge (tgt := 71) hx hb dL_leave_64 (by decide) (fun c52 => ?_) (fun c52 => ?_)
      · rw [if_pos c52] at hf
        refine lv_iload hx hb dL_leave_71 (lv_at hl 1 rfl) ?_
        refine lv_istore (lv' := [(6, .int q49.1), (5, .int q50.1), (4, .int q49.1), (3, .int x48), (2, .int (1:Int32)), (0, .ref (a0 0)), (1, .int i1)]) hx hb dL_leave_73 hl (by decide) rfl (fun ls hl => ?_)
        refine lv_aload_n hx hb dL_leave_75 rfl (lv_at hl 5 rfl) ?_
        refine lv_iload_n hx hb dL_leave_76 rfl (lv_at hl 6 rfl) ?_
        refine lv_iconst (v := (5:Int32)) hx hb dL_leave_77 (by decide) ?_
        obtain ⟨q53, hq53, hf⟩ := bd_some hf
        refine g_callVi S (As := [.int i1, .int (5:Int32)]) (gs' := [maW a0 (a1 0) (a2 0) (a3 0) (a4 0) (a7 0 0) (a8 0) (a9 0) (a9 1), stW G a1 v1, paW G a7 v7]) (c_X5_member l G a0 a1 a2 a3 a4 a5 a6 a7 a8 a9 a10 a11 v1 i1 (5:Int32) hq53) (cwV 2 hts gL_leave_X5_member rfl rfl rfl hd_X5_member ⟨Nat.le_of_ble_eq_true rfl, Nat.le_of_ble_eq_true rfl⟩) hK hP hD hS hA (is := [0, 1]) rfl rfl 0 rfl rfl rfl rfl hl.1 rfl (Nat.le_of_ble_eq_true rfl) dL_leave_78 ⟨Nat.le_of_ble_eq_true rfl, Nat.le_of_ble_eq_true rfl⟩ rfl (fun H locs hP hD hS => ?_)
        refine lv_if_eq (tgt := 92) hx hb dL_leave_81 (by decide) (fun c54 => ?_) (fun c54 => ?_)
        · rw [if_pos c54] at hf
          refine lv_iconst (v := (1:Int32)) hx hb dL_leave_92 (by decide) ?_
          cases hf
          exact g_zret hx hb hr gz1 hlocks hP hS dL_leave_93
        · rw [if_neg c54] at hf
          refine lv_iload hx hb dL_leave_84 (lv_at hl 1 rfl) ?_
          refine lv_iload hx hb dL_leave_86 (lv_at hl 0 rfl) ?_
          refine lv_iadd hx hb dL_leave_88 ?_
          refine lv_if_ge (tgt := 94) hx hb dL_leave_89 (by decide) (fun c55 => ?_) (fun c55 => ?_)
          · rw [if_pos c55] at hf
            refine lv_aload_n hx hb dL_leave_94 rfl (lv_at hl 5 rfl) ?_
            refine lv_iload_n hx hb dL_leave_95 rfl (lv_at hl 6 rfl) ?_
            obtain ⟨q56, hq56, hf⟩ := bd_some hf
            refine g_callVi S (As := [.int i1]) (gs' := [maW a0 (a1 0) (a2 0) (a3 0) (a4 0) (a7 0 0) (a8 0) (a9 0) (a9 1), stW G a1 q56.2.1, paW G a7 q56.2.2]) (c_X5_leave l G a0 a1 a2 a3 a4 a5 a6 a7 a8 a9 a10 a11 v1 v7 i1 hq56) (cwV 1 hts gL_leave_X5_leave rfl rfl rfl hd_X5_leave ⟨Nat.le_of_ble_eq_true rfl, Nat.le_of_ble_eq_true rfl⟩) hK hP hD hS hA (is := [0, 1, 2]) rfl rfl 0 rfl rfl rfl rfl hl.1 rfl (Nat.le_of_ble_eq_true rfl) dL_leave_96 ⟨Nat.le_of_ble_eq_true rfl, Nat.le_of_ble_eq_true rfl⟩ rfl (fun H locs hP hD hS => ?_)
            refine lv_iload hx hb dL_leave_99 (lv_at hl 0 rfl) ?_
            refine lv_icmp_ne (tgt := 144) hx hb dL_leave_101 (by decide) (fun c57 => ?_) (fun c57 => ?_)
            · rw [if_neg c57] at hf
              refine lv_iconst (v := (0:Int32)) hx hb dL_leave_144 (by decide) ?_
              cases hf
              exact g_zret hx hb hr gz0 hlocks hP hS dL_leave_145
            · rw [if_pos c57] at hf
              refine lv_aload_n hx hb dL_leave_104 rfl (lv_at hl 5 rfl) ?_
              refine lv_iload_n hx hb dL_leave_105 rfl (lv_at hl 6 rfl) ?_
              refine lv_iconst (v := (0:Int32)) hx hb dL_leave_106 (by decide) ?_
              obtain ⟨q58, hq58, hf⟩ := bd_some hf
              refine g_callVi S (As := [.int i1, .int (0:Int32)]) (gs' := [maW a0 (a1 0) (a2 0) (a3 0) (a4 0) (a7 0 0) (a8 0) (a9 0) (a9 1), stW G a1 q56.2.1, paW G a7 q56.2.2]) (c_X5_member l G a0 a1 a2 a3 a4 a5 a6 a7 a8 a9 a10 a11 q56.2.1 i1 (0:Int32) hq58) (cwV 2 hts gL_leave_X5_member rfl rfl rfl hd_X5_member ⟨Nat.le_of_ble_eq_true rfl, Nat.le_of_ble_eq_true rfl⟩) hK hP hD hS hA (is := [0, 1]) rfl rfl 0 rfl rfl rfl rfl hl.1 rfl (Nat.le_of_ble_eq_true rfl) dL_leave_107 ⟨Nat.le_of_ble_eq_true rfl, Nat.le_of_ble_eq_true rfl⟩ rfl (fun H locs hP hD hS => ?_)
              refine lv_iload hx hb dL_leave_110 (lv_at hl 1 rfl) ?_
              refine lv_iload hx hb dL_leave_112 (lv_at hl 0 rfl) ?_
              refine lv_iadd hx hb dL_leave_114 ?_
              refine lv_icmp_ne (tgt := 144) hx hb dL_leave_115 (by decide) (fun c59 => ?_) (fun c59 => ?_)
              · rw [if_neg c59] at hf
                refine lv_iconst (v := (0:Int32)) hx hb dL_leave_144 (by decide) ?_
                cases hf
                exact g_zret hx hb hr gz0 hlocks hP hS dL_leave_145
              · rw [if_pos c59] at hf
                refine lv_aload_n hx hb dL_leave_118 rfl (lv_at hl 5 rfl) ?_
                refine lv_iconst (v := (4:Int32)) hx hb dL_leave_119 (by decide) ?_
                obtain ⟨q60, hq60, hf⟩ := bd_some hf
                refine g_callVi S (As := [.int (4:Int32)]) (gs' := [maW a0 (a1 0) (a2 0) (a3 0) (a4 0) (a7 0 0) (a8 0) (a9 0) (a9 1), stW G a1 q56.2.1, paW G a7 q56.2.2]) (c_X5_about l G a0 a1 a2 a3 a4 a5 a6 a7 a8 a9 a10 a11 q56.2.1 (4:Int32) hq60) (cwV 1 hts gL_leave_X5_about rfl rfl rfl hd_X5_about ⟨Nat.le_of_ble_eq_true rfl, Nat.le_of_ble_eq_true rfl⟩) hK hP hD hS hA (is := [0, 1]) rfl rfl 0 rfl rfl rfl rfl hl.1 rfl (Nat.le_of_ble_eq_true rfl) dL_leave_120 ⟨Nat.le_of_ble_eq_true rfl, Nat.le_of_ble_eq_true rfl⟩ rfl (fun H locs hP hD hS => ?_)
                refine lv_iload hx hb dL_leave_123 (lv_at hl 2 rfl) ?_
                refine lv_iload hx hb dL_leave_125 (lv_at hl 0 rfl) ?_
                refine lv_isub hx hb dL_leave_127 ?_
                refine lv_icmp_ne (tgt := 144) hx hb dL_leave_128 (by decide) (fun c61 => ?_) (fun c61 => ?_)
                · rw [if_neg c61] at hf
                  refine lv_iconst (v := (0:Int32)) hx hb dL_leave_144 (by decide) ?_
                  cases hf
                  exact g_zret hx hb hr gz0 hlocks hP hS dL_leave_145
                · rw [if_pos c61] at hf
                  refine lv_aload_n hx hb dL_leave_131 rfl (lv_at hl 5 rfl) ?_
                  refine lv_iload_n hx hb dL_leave_132 rfl (lv_at hl 6 rfl) ?_
                  refine lv_iconst (v := (5:Int32)) hx hb dL_leave_133 (by decide) ?_
                  obtain ⟨q62, hq62, hf⟩ := bd_some hf
                  refine g_callVi S (As := [.int i1, .int (5:Int32)]) (gs' := [maW a0 (a1 0) (a2 0) (a3 0) (a4 0) (a7 0 0) (a8 0) (a9 0) (a9 1), stW G a1 q56.2.1, paW G a7 q56.2.2]) (c_X5_member l G a0 a1 a2 a3 a4 a5 a6 a7 a8 a9 a10 a11 q56.2.1 i1 (5:Int32) hq62) (cwV 2 hts gL_leave_X5_member rfl rfl rfl hd_X5_member ⟨Nat.le_of_ble_eq_true rfl, Nat.le_of_ble_eq_true rfl⟩) hK hP hD hS hA (is := [0, 1]) rfl rfl 0 rfl rfl rfl rfl hl.1 rfl (Nat.le_of_ble_eq_true rfl) dL_leave_134 ⟨Nat.le_of_ble_eq_true rfl, Nat.le_of_ble_eq_true rfl⟩ rfl (fun H locs hP hD hS => ?_)
                  refine lv_if_ne (tgt := 144) hx hb dL_leave_137 (by decide) (fun c63 => ?_) (fun c63 => ?_)
                  · rw [if_neg c63] at hf
                    refine lv_iconst (v := (0:Int32)) hx hb dL_leave_144 (by decide) ?_
                    cases hf
                    exact g_zret hx hb hr gz0 hlocks hP hS dL_leave_145
                  · rw [if_pos c63] at hf
                    refine lv_iconst (v := (1:Int32)) hx hb dL_leave_140 (by decide) ?_
                    refine lv_goto (tgt := 145) hx hb dL_leave_141 (by decide) ?_
                    cases hf
                    exact g_zret hx hb hr gz1 hlocks hP hS dL_leave_145
          · rw [if_neg c55] at hf
            refine lv_iconst (v := (1:Int32)) hx hb dL_leave_92 (by decide) ?_
            cases hf
            exact g_zret hx hb hr gz1 hlocks hP hS dL_leave_93
      · rw [if_neg c52] at hf
        refine lv_iload_n hx hb dL_leave_67 rfl (lv_at hl 2 rfl) ?_
        refine lv_goto (tgt := 73) hx hb dL_leave_68 (by decide) ?_
        refine lv_istore (lv' := [(6, .int x48), (5, .int q50.1), (4, .int q49.1), (3, .int x48), (2, .int (1:Int32)), (0, .ref (a0 0)), (1, .int i1)]) hx hb dL_leave_73 hl (by decide) rfl (fun ls hl => ?_)
        refine lv_aload_n hx hb dL_leave_75 rfl (lv_at hl 5 rfl) ?_
        refine lv_iload_n hx hb dL_leave_76 rfl (lv_at hl 6 rfl) ?_
        refine lv_iconst (v := (5:Int32)) hx hb dL_leave_77 (by decide) ?_
        obtain ⟨q64, hq64, hf⟩ := bd_some hf
        refine g_callVi S (As := [.int i1, .int (5:Int32)]) (gs' := [maW a0 (a1 0) (a2 0) (a3 0) (a4 0) (a7 0 0) (a8 0) (a9 0) (a9 1), stW G a1 v1, paW G a7 v7]) (c_X5_member l G a0 a1 a2 a3 a4 a5 a6 a7 a8 a9 a10 a11 v1 i1 (5:Int32) hq64) (cwV 2 hts gL_leave_X5_member rfl rfl rfl hd_X5_member ⟨Nat.le_of_ble_eq_true rfl, Nat.le_of_ble_eq_true rfl⟩) hK hP hD hS hA (is := [0, 1]) rfl rfl 0 rfl rfl rfl rfl hl.1 rfl (Nat.le_of_ble_eq_true rfl) dL_leave_78 ⟨Nat.le_of_ble_eq_true rfl, Nat.le_of_ble_eq_true rfl⟩ rfl (fun H locs hP hD hS => ?_)
        refine lv_if_eq (tgt := 92) hx hb dL_leave_81 (by decide) (fun c65 => ?_) (fun c65 => ?_)
        · rw [if_pos c65] at hf
          refine lv_iconst (v := (1:Int32)) hx hb dL_leave_92 (by decide) ?_
          cases hf
          exact g_zret hx hb hr gz1 hlocks hP hS dL_leave_93
        · rw [if_neg c65] at hf
          refine lv_iload hx hb dL_leave_84 (lv_at hl 1 rfl) ?_
          refine lv_iload hx hb dL_leave_86 (lv_at hl 0 rfl) ?_
          refine lv_iadd hx hb dL_leave_88 ?_
          refine lv_if_ge (tgt := 94) hx hb dL_leave_89 (by decide) (fun c66 => ?_) (fun c66 => ?_)
          · rw [if_pos c66] at hf
            refine lv_aload_n hx hb dL_leave_94 rfl (lv_at hl 5 rfl) ?_
            refine lv_iload_n hx hb dL_leave_95 rfl (lv_at hl 6 rfl) ?_
            obtain ⟨q67, hq67, hf⟩ := bd_some hf
            refine g_callVi S (As := [.int i1]) (gs' := [maW a0 (a1 0) (a2 0) (a3 0) (a4 0) (a7 0 0) (a8 0) (a9 0) (a9 1), stW G a1 q67.2.1, paW G a7 q67.2.2]) (c_X5_leave l G a0 a1 a2 a3 a4 a5 a6 a7 a8 a9 a10 a11 v1 v7 i1 hq67) (cwV 1 hts gL_leave_X5_leave rfl rfl rfl hd_X5_leave ⟨Nat.le_of_ble_eq_true rfl, Nat.le_of_ble_eq_true rfl⟩) hK hP hD hS hA (is := [0, 1, 2]) rfl rfl 0 rfl rfl rfl rfl hl.1 rfl (Nat.le_of_ble_eq_true rfl) dL_leave_96 ⟨Nat.le_of_ble_eq_true rfl, Nat.le_of_ble_eq_true rfl⟩ rfl (fun H locs hP hD hS => ?_)
            refine lv_iload hx hb dL_leave_99 (lv_at hl 0 rfl) ?_
            refine lv_icmp_ne (tgt := 144) hx hb dL_leave_101 (by decide) (fun c68 => ?_) (fun c68 => ?_)
            · rw [if_neg c68] at hf
              refine lv_iconst (v := (0:Int32)) hx hb dL_leave_144 (by decide) ?_
              cases hf
              exact g_zret hx hb hr gz0 hlocks hP hS dL_leave_145
            · rw [if_pos c68] at hf
              refine lv_aload_n hx hb dL_leave_104 rfl (lv_at hl 5 rfl) ?_
              refine lv_iload_n hx hb dL_leave_105 rfl (lv_at hl 6 rfl) ?_
              refine lv_iconst (v := (0:Int32)) hx hb dL_leave_106 (by decide) ?_
              obtain ⟨q69, hq69, hf⟩ := bd_some hf
              refine g_callVi S (As := [.int i1, .int (0:Int32)]) (gs' := [maW a0 (a1 0) (a2 0) (a3 0) (a4 0) (a7 0 0) (a8 0) (a9 0) (a9 1), stW G a1 q67.2.1, paW G a7 q67.2.2]) (c_X5_member l G a0 a1 a2 a3 a4 a5 a6 a7 a8 a9 a10 a11 q67.2.1 i1 (0:Int32) hq69) (cwV 2 hts gL_leave_X5_member rfl rfl rfl hd_X5_member ⟨Nat.le_of_ble_eq_true rfl, Nat.le_of_ble_eq_true rfl⟩) hK hP hD hS hA (is := [0, 1]) rfl rfl 0 rfl rfl rfl rfl hl.1 rfl (Nat.le_of_ble_eq_true rfl) dL_leave_107 ⟨Nat.le_of_ble_eq_true rfl, Nat.le_of_ble_eq_true rfl⟩ rfl (fun H locs hP hD hS => ?_)
              refine lv_iload hx hb dL_leave_110 (lv_at hl 1 rfl) ?_
              refine lv_iload hx hb dL_leave_112 (lv_at hl 0 rfl) ?_
              refine lv_iadd hx hb dL_leave_114 ?_
              refine lv_icmp_ne (tgt := 144) hx hb dL_leave_115 (by decide) (fun c70 => ?_) (fun c70 => ?_)
              · rw [if_neg c70] at hf
                refine lv_iconst (v := (0:Int32)) hx hb dL_leave_144 (by decide) ?_
                cases hf
                exact g_zret hx hb hr gz0 hlocks hP hS dL_leave_145
              · rw [if_pos c70] at hf
                refine lv_aload_n hx hb dL_leave_118 rfl (lv_at hl 5 rfl) ?_
                refine lv_iconst (v := (4:Int32)) hx hb dL_leave_119 (by decide) ?_
                obtain ⟨q71, hq71, hf⟩ := bd_some hf
                refine g_callVi S (As := [.int (4:Int32)]) (gs' := [maW a0 (a1 0) (a2 0) (a3 0) (a4 0) (a7 0 0) (a8 0) (a9 0) (a9 1), stW G a1 q67.2.1, paW G a7 q67.2.2]) (c_X5_about l G a0 a1 a2 a3 a4 a5 a6 a7 a8 a9 a10 a11 q67.2.1 (4:Int32) hq71) (cwV 1 hts gL_leave_X5_about rfl rfl rfl hd_X5_about ⟨Nat.le_of_ble_eq_true rfl, Nat.le_of_ble_eq_true rfl⟩) hK hP hD hS hA (is := [0, 1]) rfl rfl 0 rfl rfl rfl rfl hl.1 rfl (Nat.le_of_ble_eq_true rfl) dL_leave_120 ⟨Nat.le_of_ble_eq_true rfl, Nat.le_of_ble_eq_true rfl⟩ rfl (fun H locs hP hD hS => ?_)
                refine lv_iload hx hb dL_leave_123 (lv_at hl 2 rfl) ?_
                refine lv_iload hx hb dL_leave_125 (lv_at hl 0 rfl) ?_
                refine lv_isub hx hb dL_leave_127 ?_
                refine lv_icmp_ne (tgt := 144) hx hb dL_leave_128 (by decide) (fun c72 => ?_) (fun c72 => ?_)
                · rw [if_neg c72] at hf
                  refine lv_iconst (v := (0:Int32)) hx hb dL_leave_144 (by decide) ?_
                  cases hf
                  exact g_zret hx hb hr gz0 hlocks hP hS dL_leave_145
                · rw [if_pos c72] at hf
                  refine lv_aload_n hx hb dL_leave_131 rfl (lv_at hl 5 rfl) ?_
                  refine lv_iload_n hx hb dL_leave_132 rfl (lv_at hl 6 rfl) ?_
                  refine lv_iconst (v := (5:Int32)) hx hb dL_leave_133 (by decide) ?_
                  obtain ⟨q73, hq73, hf⟩ := bd_some hf
                  refine g_callVi S (As := [.int i1, .int (5:Int32)]) (gs' := [maW a0 (a1 0) (a2 0) (a3 0) (a4 0) (a7 0 0) (a8 0) (a9 0) (a9 1), stW G a1 q67.2.1, paW G a7 q67.2.2]) (c_X5_member l G a0 a1 a2 a3 a4 a5 a6 a7 a8 a9 a10 a11 q67.2.1 i1 (5:Int32) hq73) (cwV 2 hts gL_leave_X5_member rfl rfl rfl hd_X5_member ⟨Nat.le_of_ble_eq_true rfl, Nat.le_of_ble_eq_true rfl⟩) hK hP hD hS hA (is := [0, 1]) rfl rfl 0 rfl rfl rfl rfl hl.1 rfl (Nat.le_of_ble_eq_true rfl) dL_leave_134 ⟨Nat.le_of_ble_eq_true rfl, Nat.le_of_ble_eq_true rfl⟩ rfl (fun H locs hP hD hS => ?_)
                  refine lv_if_ne (tgt := 144) hx hb dL_leave_137 (by decide) (fun c74 => ?_) (fun c74 => ?_)
                  · rw [if_neg c74] at hf
                    refine lv_iconst (v := (0:Int32)) hx hb dL_leave_144 (by decide) ?_
                    cases hf
                    exact g_zret hx hb hr gz0 hlocks hP hS dL_leave_145
                  · rw [if_pos c74] at hf
                    refine lv_iconst (v := (1:Int32)) hx hb dL_leave_140 (by decide) ?_
                    refine lv_goto (tgt := 145) hx hb dL_leave_141 (by decide) ?_
                    cases hf
                    exact g_zret hx hb hr gz1 hlocks hP hS dL_leave_145
          · rw [if_neg c66] at hf
            refine lv_iconst (v := (1:Int32)) hx hb dL_leave_92 (by decide) ?_
            cases hf
            exact g_zret hx hb hr gz1 hlocks hP hS dL_leave_93
    · rw [if_neg c51] at hf
      refine lv_aload_n hx hb dL_leave_45 rfl (lv_at hl 4 rfl) ?_
      refine lv_iconst (v := (3:Int32)) hx hb dL_leave_46 (by decide) ?_
      obtain ⟨q75, hq75, hf⟩ := bd_some hf
      refine g_callVi S (As := [.int (3:Int32)]) (gs' := [maW a0 (a1 0) (a2 0) (a3 0) (a4 0) (a7 0 0) (a8 0) (a9 0) (a9 1), stW G a1 v1, paW G a7 v7]) (c_X5_about l G a0 a1 a2 a3 a4 a5 a6 a7 a8 a9 a10 a11 v1 (3:Int32) hq75) (cwV 1 hts gL_leave_X5_about rfl rfl rfl hd_X5_about ⟨Nat.le_of_ble_eq_true rfl, Nat.le_of_ble_eq_true rfl⟩) hK hP hD hS hA (is := [0, 1]) rfl rfl 0 rfl rfl rfl rfl hl.1 rfl (Nat.le_of_ble_eq_true rfl) dL_leave_47 ⟨Nat.le_of_ble_eq_true rfl, Nat.le_of_ble_eq_true rfl⟩ rfl (fun H locs hP hD hS => ?_)
      refine lv_ineg hx hb dL_leave_50 ?_
      refine lv_aload_n hx hb dL_leave_51 rfl (lv_at hl 4 rfl) ?_
      refine lv_bipush (v := (6:Int32)) hx hb dL_leave_52 (by decide) ?_
      obtain ⟨q76, hq76, hf⟩ := bd_some hf
      refine g_callVi S (As := [.int (6:Int32)]) (gs' := [maW a0 (a1 0) (a2 0) (a3 0) (a4 0) (a7 0 0) (a8 0) (a9 0) (a9 1), stW G a1 v1, paW G a7 v7]) (c_X5_about l G a0 a1 a2 a3 a4 a5 a6 a7 a8 a9 a10 a11 v1 (6:Int32) hq76) (cwV 1 hts gL_leave_X5_about rfl rfl rfl hd_X5_about ⟨Nat.le_of_ble_eq_true rfl, Nat.le_of_ble_eq_true rfl⟩) hK hP hD hS hA (is := [0, 1]) rfl rfl 0 rfl rfl rfl rfl hl.1 rfl (Nat.le_of_ble_eq_true rfl) dL_leave_54 ⟨Nat.le_of_ble_eq_true rfl, Nat.le_of_ble_eq_true rfl⟩ rfl (fun H locs hP hD hS => ?_)
      refine lv_imul hx hb dL_leave_57 ?_
      refine lv_goto (tgt := 73) hx hb dL_leave_58 (by decide) ?_
      obtain ⟨x77, ex77, hf⟩ := lt_some hf
      refine lv_nmi ex77 ?_
      refine lv_istore (lv' := [(6, .int x77), (5, .int q50.1), (4, .int q49.1), (3, .int x48), (2, .int (1:Int32)), (0, .ref (a0 0)), (1, .int i1)]) hx hb dL_leave_73 hl (by decide) rfl (fun ls hl => ?_)
      refine lv_aload_n hx hb dL_leave_75 rfl (lv_at hl 5 rfl) ?_
      refine lv_iload_n hx hb dL_leave_76 rfl (lv_at hl 6 rfl) ?_
      refine lv_iconst (v := (5:Int32)) hx hb dL_leave_77 (by decide) ?_
      obtain ⟨q78, hq78, hf⟩ := bd_some hf
      refine g_callVi S (As := [.int i1, .int (5:Int32)]) (gs' := [maW a0 (a1 0) (a2 0) (a3 0) (a4 0) (a7 0 0) (a8 0) (a9 0) (a9 1), stW G a1 v1, paW G a7 v7]) (c_X5_member l G a0 a1 a2 a3 a4 a5 a6 a7 a8 a9 a10 a11 v1 i1 (5:Int32) hq78) (cwV 2 hts gL_leave_X5_member rfl rfl rfl hd_X5_member ⟨Nat.le_of_ble_eq_true rfl, Nat.le_of_ble_eq_true rfl⟩) hK hP hD hS hA (is := [0, 1]) rfl rfl 0 rfl rfl rfl rfl hl.1 rfl (Nat.le_of_ble_eq_true rfl) dL_leave_78 ⟨Nat.le_of_ble_eq_true rfl, Nat.le_of_ble_eq_true rfl⟩ rfl (fun H locs hP hD hS => ?_)
      refine lv_if_eq (tgt := 92) hx hb dL_leave_81 (by decide) (fun c79 => ?_) (fun c79 => ?_)
      · rw [if_pos c79] at hf
        refine lv_iconst (v := (1:Int32)) hx hb dL_leave_92 (by decide) ?_
        cases hf
        exact g_zret hx hb hr gz1 hlocks hP hS dL_leave_93
      · rw [if_neg c79] at hf
        refine lv_iload hx hb dL_leave_84 (lv_at hl 1 rfl) ?_
        refine lv_iload hx hb dL_leave_86 (lv_at hl 0 rfl) ?_
        refine lv_iadd hx hb dL_leave_88 ?_
        refine lv_if_ge (tgt := 94) hx hb dL_leave_89 (by decide) (fun c80 => ?_) (fun c80 => ?_)
        · rw [if_pos c80] at hf
          refine lv_aload_n hx hb dL_leave_94 rfl (lv_at hl 5 rfl) ?_
          refine lv_iload_n hx hb dL_leave_95 rfl (lv_at hl 6 rfl) ?_
          obtain ⟨q81, hq81, hf⟩ := bd_some hf
          refine g_callVi S (As := [.int i1]) (gs' := [maW a0 (a1 0) (a2 0) (a3 0) (a4 0) (a7 0 0) (a8 0) (a9 0) (a9 1), stW G a1 q81.2.1, paW G a7 q81.2.2]) (c_X5_leave l G a0 a1 a2 a3 a4 a5 a6 a7 a8 a9 a10 a11 v1 v7 i1 hq81) (cwV 1 hts gL_leave_X5_leave rfl rfl rfl hd_X5_leave ⟨Nat.le_of_ble_eq_true rfl, Nat.le_of_ble_eq_true rfl⟩) hK hP hD hS hA (is := [0, 1, 2]) rfl rfl 0 rfl rfl rfl rfl hl.1 rfl (Nat.le_of_ble_eq_true rfl) dL_leave_96 ⟨Nat.le_of_ble_eq_true rfl, Nat.le_of_ble_eq_true rfl⟩ rfl (fun H locs hP hD hS => ?_)
          refine lv_iload hx hb dL_leave_99 (lv_at hl 0 rfl) ?_
          refine lv_icmp_ne (tgt := 144) hx hb dL_leave_101 (by decide) (fun c82 => ?_) (fun c82 => ?_)
          · rw [if_neg c82] at hf
            refine lv_iconst (v := (0:Int32)) hx hb dL_leave_144 (by decide) ?_
            cases hf
            exact g_zret hx hb hr gz0 hlocks hP hS dL_leave_145
          · rw [if_pos c82] at hf
            refine lv_aload_n hx hb dL_leave_104 rfl (lv_at hl 5 rfl) ?_
            refine lv_iload_n hx hb dL_leave_105 rfl (lv_at hl 6 rfl) ?_
            refine lv_iconst (v := (0:Int32)) hx hb dL_leave_106 (by decide) ?_
            obtain ⟨q83, hq83, hf⟩ := bd_some hf
            refine g_callVi S (As := [.int i1, .int (0:Int32)]) (gs' := [maW a0 (a1 0) (a2 0) (a3 0) (a4 0) (a7 0 0) (a8 0) (a9 0) (a9 1), stW G a1 q81.2.1, paW G a7 q81.2.2]) (c_X5_member l G a0 a1 a2 a3 a4 a5 a6 a7 a8 a9 a10 a11 q81.2.1 i1 (0:Int32) hq83) (cwV 2 hts gL_leave_X5_member rfl rfl rfl hd_X5_member ⟨Nat.le_of_ble_eq_true rfl, Nat.le_of_ble_eq_true rfl⟩) hK hP hD hS hA (is := [0, 1]) rfl rfl 0 rfl rfl rfl rfl hl.1 rfl (Nat.le_of_ble_eq_true rfl) dL_leave_107 ⟨Nat.le_of_ble_eq_true rfl, Nat.le_of_ble_eq_true rfl⟩ rfl (fun H locs hP hD hS => ?_)
            refine lv_iload hx hb dL_leave_110 (lv_at hl 1 rfl) ?_
            refine lv_iload hx hb dL_leave_112 (lv_at hl 0 rfl) ?_
            refine lv_iadd hx hb dL_leave_114 ?_
            refine lv_icmp_ne (tgt := 144) hx hb dL_leave_115 (by decide) (fun c84 => ?_) (fun c84 => ?_)
            · rw [if_neg c84] at hf
              refine lv_iconst (v := (0:Int32)) hx hb dL_leave_144 (by decide) ?_
              cases hf
              exact g_zret hx hb hr gz0 hlocks hP hS dL_leave_145
            · rw [if_pos c84] at hf
              refine lv_aload_n hx hb dL_leave_118 rfl (lv_at hl 5 rfl) ?_
              refine lv_iconst (v := (4:Int32)) hx hb dL_leave_119 (by decide) ?_
              obtain ⟨q85, hq85, hf⟩ := bd_some hf
              refine g_callVi S (As := [.int (4:Int32)]) (gs' := [maW a0 (a1 0) (a2 0) (a3 0) (a4 0) (a7 0 0) (a8 0) (a9 0) (a9 1), stW G a1 q81.2.1, paW G a7 q81.2.2]) (c_X5_about l G a0 a1 a2 a3 a4 a5 a6 a7 a8 a9 a10 a11 q81.2.1 (4:Int32) hq85) (cwV 1 hts gL_leave_X5_about rfl rfl rfl hd_X5_about ⟨Nat.le_of_ble_eq_true rfl, Nat.le_of_ble_eq_true rfl⟩) hK hP hD hS hA (is := [0, 1]) rfl rfl 0 rfl rfl rfl rfl hl.1 rfl (Nat.le_of_ble_eq_true rfl) dL_leave_120 ⟨Nat.le_of_ble_eq_true rfl, Nat.le_of_ble_eq_true rfl⟩ rfl (fun H locs hP hD hS => ?_)
              refine lv_iload hx hb dL_leave_123 (lv_at hl 2 rfl) ?_
              refine lv_iload hx hb dL_leave_125 (lv_at hl 0 rfl) ?_
              refine lv_isub hx hb dL_leave_127 ?_
              refine lv_icmp_ne (tgt := 144) hx hb dL_leave_128 (by decide) (fun c86 => ?_) (fun c86 => ?_)
              · rw [if_neg c86] at hf
                refine lv_iconst (v := (0:Int32)) hx hb dL_leave_144 (by decide) ?_
                cases hf
                exact g_zret hx hb hr gz0 hlocks hP hS dL_leave_145
              · rw [if_pos c86] at hf
                refine lv_aload_n hx hb dL_leave_131 rfl (lv_at hl 5 rfl) ?_
                refine lv_iload_n hx hb dL_leave_132 rfl (lv_at hl 6 rfl) ?_
                refine lv_iconst (v := (5:Int32)) hx hb dL_leave_133 (by decide) ?_
                obtain ⟨q87, hq87, hf⟩ := bd_some hf
                refine g_callVi S (As := [.int i1, .int (5:Int32)]) (gs' := [maW a0 (a1 0) (a2 0) (a3 0) (a4 0) (a7 0 0) (a8 0) (a9 0) (a9 1), stW G a1 q81.2.1, paW G a7 q81.2.2]) (c_X5_member l G a0 a1 a2 a3 a4 a5 a6 a7 a8 a9 a10 a11 q81.2.1 i1 (5:Int32) hq87) (cwV 2 hts gL_leave_X5_member rfl rfl rfl hd_X5_member ⟨Nat.le_of_ble_eq_true rfl, Nat.le_of_ble_eq_true rfl⟩) hK hP hD hS hA (is := [0, 1]) rfl rfl 0 rfl rfl rfl rfl hl.1 rfl (Nat.le_of_ble_eq_true rfl) dL_leave_134 ⟨Nat.le_of_ble_eq_true rfl, Nat.le_of_ble_eq_true rfl⟩ rfl (fun H locs hP hD hS => ?_)
                refine lv_if_ne (tgt := 144) hx hb dL_leave_137 (by decide) (fun c88 => ?_) (fun c88 => ?_)
                · rw [if_neg c88] at hf
                  refine lv_iconst (v := (0:Int32)) hx hb dL_leave_144 (by decide) ?_
                  cases hf
                  exact g_zret hx hb hr gz0 hlocks hP hS dL_leave_145
                · rw [if_pos c88] at hf
                  refine lv_iconst (v := (1:Int32)) hx hb dL_leave_140 (by decide) ?_
                  refine lv_goto (tgt := 145) hx hb dL_leave_141 (by decide) ?_
                  cases hf
                  exact g_zret hx hb hr gz1 hlocks hP hS dL_leave_145
        · rw [if_neg c80] at hf
          refine lv_iconst (v := (1:Int32)) hx hb dL_leave_92 (by decide) ?_
          cases hf
          exact g_zret hx hb hr gz1 hlocks hP hS dL_leave_93
set_option maxHeartbeats 4000000 in
set_option maxRecDepth 100000 in
theorem c_L_repay (l : Launch) (G : uG) (a0 : Nat → Nat) (a1 : Nat → Nat) (a2 : Nat → Nat) (a3 : Nat → Nat) (a4 : Nat → Nat) (a5 : Nat → Nat) (a6 : Nat → Nat) (a7 : Nat → Nat → Nat) (a8 : Nat → Nat) (a9 : Nat → Nat) (a10 : Nat → Nat) (a11 : Nat → Nat) (v1 : StV) (v7 : PaV) (i1 : Int32) (i2 : Int32) {q : Int32 × (StV × PaV)} (hf : f_L_repay v1 v7 i1 i2 = some q) : mQ l yL_repay wsL_repay ({ frames := 4, cells := 0, slots := 0, locals := 87 } : Room) G [.ref (a0 0), .int i1, .int i2] [maW a0 (a1 0) (a2 0) (a3 0) (a4 0) (a7 0 0) (a8 0) (a9 0) (a9 1), stW G a1 v1, paW G a7 v7] [maW a0 (a1 0) (a2 0) (a3 0) (a4 0) (a7 0 0) (a8 0) (a9 0) (a9 1), stW G a1 q.2.1, paW G a7 q.2.2] (qI G [maW a0 (a1 0) (a2 0) (a3 0) (a4 0) (a7 0 0) (a8 0) (a9 0) (a9 1), stW G a1 q.2.1, paW G a7 q.2.2] q.1) := by
  unfold f_L_repay at hf
  refine m_of (cc := cL_repay) (maxL := 7) (ret := (some .boolean)) (by decide) rfl rfl (Nat.le_of_ble_eq_true rfl) ?_
  intro p e s m args below meth c A ls S hK hA hP hD hS hl
  obtain ⟨hx, hb, hml, hown, hts, hr, hlocks⟩ := id S
  have hl : lv_has ls 7 [(0, .ref (a0 0)), (1, .int i1), (2, .int i2)] := hl
  refine lv_aload_n hx hb dL_repay_0 rfl (lv_at hl 0 rfl) ?_
  refine lv_iload_n hx hb dL_repay_1 rfl (lv_at hl 1 rfl) ?_
  refine lv_iload_n hx hb dL_repay_2 rfl (lv_at hl 2 rfl) ?_
  obtain ⟨q1, hq1, hf⟩ := bd_some hf
  refine g_callVi S (As := [.int i1, .int i2]) (gs' := [maW a0 (a1 0) (a2 0) (a3 0) (a4 0) (a7 0 0) (a8 0) (a9 0) (a9 1), stW G a1 v1, paW G a7 v7]) (c_X5_owes l G a0 a1 a2 a3 a4 a5 a6 a7 a8 a9 a10 a11 v1 i1 i2 hq1) (cwV 2 hts gL_repay_X5_owes rfl rfl rfl hd_X5_owes ⟨Nat.le_of_ble_eq_true rfl, Nat.le_of_ble_eq_true rfl⟩) hK hP hD hS hA (is := [0, 1]) rfl rfl 0 rfl rfl rfl rfl hl.1 rfl (Nat.le_of_ble_eq_true rfl) dL_repay_3 ⟨Nat.le_of_ble_eq_true rfl, Nat.le_of_ble_eq_true rfl⟩ rfl (fun H locs hP hD hS => ?_)
  refine lv_istore_n (lv' := [(3, .int q1.1), (0, .ref (a0 0)), (1, .int i1), (2, .int i2)]) hx hb dL_repay_6 rfl hl (by decide) rfl (fun ls hl => ?_)
  refine lv_aload_n hx hb dL_repay_7 rfl (lv_at hl 1 rfl) ?_
  refine lv_iload_n hx hb dL_repay_8 rfl (lv_at hl 2 rfl) ?_
  refine lv_iconst (v := (0:Int32)) hx hb dL_repay_9 (by decide) ?_
  obtain ⟨q2, hq2, hf⟩ := bd_some hf
  refine g_callVi S (As := [.int i1, .int (0:Int32)]) (gs' := [maW a0 (a1 0) (a2 0) (a3 0) (a4 0) (a7 0 0) (a8 0) (a9 0) (a9 1), stW G a1 v1, paW G a7 v7]) (c_X5_member l G a0 a1 a2 a3 a4 a5 a6 a7 a8 a9 a10 a11 v1 i1 (0:Int32) hq2) (cwV 2 hts gL_repay_X5_member rfl rfl rfl hd_X5_member ⟨Nat.le_of_ble_eq_true rfl, Nat.le_of_ble_eq_true rfl⟩) hK hP hD hS hA (is := [0, 1]) rfl rfl 0 rfl rfl rfl rfl hl.1 rfl (Nat.le_of_ble_eq_true rfl) dL_repay_10 ⟨Nat.le_of_ble_eq_true rfl, Nat.le_of_ble_eq_true rfl⟩ rfl (fun H locs hP hD hS => ?_)
  refine lv_istore (lv' := [(4, .int q2.1), (3, .int q1.1), (0, .ref (a0 0)), (1, .int i1), (2, .int i2)]) hx hb dL_repay_13 hl (by decide) rfl (fun ls hl => ?_)
  refine lv_aload_n hx hb dL_repay_15 rfl (lv_at hl 2 rfl) ?_
  refine lv_iload_n hx hb dL_repay_16 rfl (lv_at hl 4 rfl) ?_
  refine lv_iconst (v := (0:Int32)) hx hb dL_repay_17 (by decide) ?_
  obtain ⟨q3, hq3, hf⟩ := bd_some hf
  refine g_callVi S (As := [.int i2, .int (0:Int32)]) (gs' := [maW a0 (a1 0) (a2 0) (a3 0) (a4 0) (a7 0 0) (a8 0) (a9 0) (a9 1), stW G a1 v1, paW G a7 v7]) (c_X5_member l G a0 a1 a2 a3 a4 a5 a6 a7 a8 a9 a10 a11 v1 i2 (0:Int32) hq3) (cwV 2 hts gL_repay_X5_member rfl rfl rfl hd_X5_member ⟨Nat.le_of_ble_eq_true rfl, Nat.le_of_ble_eq_true rfl⟩) hK hP hD hS hA (is := [0, 1]) rfl rfl 0 rfl rfl rfl rfl hl.1 rfl (Nat.le_of_ble_eq_true rfl) dL_repay_18 ⟨Nat.le_of_ble_eq_true rfl, Nat.le_of_ble_eq_true rfl⟩ rfl (fun H locs hP hD hS => ?_)
  refine lv_istore (lv' := [(5, .int q3.1), (4, .int q2.1), (3, .int q1.1), (0, .ref (a0 0)), (1, .int i1), (2, .int i2)]) hx hb dL_repay_21 hl (by decide) rfl (fun ls hl => ?_)
  refine lv_iload_n hx hb dL_repay_23 rfl (lv_at hl 2 rfl) ?_
  refine lv_iload hx hb dL_repay_24 (lv_at hl 1 rfl) ?_
  refine lv_icmp_ge (tgt := 33) hx hb dL_repay_26 (by decide) (fun c4 => ?_) (fun c4 => ?_)
  · rw [if_pos c4] at hf
    refine lv_iload hx hb dL_repay_33 (lv_at hl 1 rfl) ?_
    refine lv_istore (lv' := [(6, .int q2.1), (5, .int q3.1), (4, .int q2.1), (3, .int q1.1), (0, .ref (a0 0)), (1, .int i1), (2, .int i2)]) hx hb dL_repay_35 hl (by decide) rfl (fun ls hl => ?_)
    refine lv_aload_n hx hb dL_repay_37 rfl (lv_at hl 4 rfl) ?_
    refine lv_iload_n hx hb dL_repay_38 rfl (lv_at hl 5 rfl) ?_
    refine lv_iload_n hx hb dL_repay_39 rfl (lv_at hl 6 rfl) ?_
    obtain ⟨q5, hq5, hf⟩ := bd_some hf
    refine g_callVi S (As := [.int i1, .int i2]) (gs' := [maW a0 (a1 0) (a2 0) (a3 0) (a4 0) (a7 0 0) (a8 0) (a9 0) (a9 1), stW G a1 q5.2.1, paW G a7 q5.2.2]) (c_X5_repay l G a0 a1 a2 a3 a4 a5 a6 a7 a8 a9 a10 a11 v1 v7 i1 i2 hq5) (cwV 2 hts gL_repay_X5_repay rfl rfl rfl hd_X5_repay ⟨Nat.le_of_ble_eq_true rfl, Nat.le_of_ble_eq_true rfl⟩) hK hP hD hS hA (is := [0, 1, 2]) rfl rfl 0 rfl rfl rfl rfl hl.1 rfl (Nat.le_of_ble_eq_true rfl) dL_repay_40 ⟨Nat.le_of_ble_eq_true rfl, Nat.le_of_ble_eq_true rfl⟩ rfl (fun H locs hP hD hS => ?_)
    refine lv_iload hx hb dL_repay_43 (lv_at hl 0 rfl) ?_
    refine lv_icmp_ne (tgt := 93) hx hb dL_repay_45 (by decide) (fun c6 => ?_) (fun c6 => ?_)
    · rw [if_neg c6] at hf
      refine lv_iconst (v := (0:Int32)) hx hb dL_repay_93 (by decide) ?_
      cases hf
      exact g_zret hx hb hr gz0 hlocks hP hS dL_repay_94
    · rw [if_pos c6] at hf
      refine lv_aload_n hx hb dL_repay_48 rfl (lv_at hl 4 rfl) ?_
      refine lv_iload_n hx hb dL_repay_49 rfl (lv_at hl 5 rfl) ?_
      refine lv_iload_n hx hb dL_repay_50 rfl (lv_at hl 6 rfl) ?_
      obtain ⟨q7, hq7, hf⟩ := bd_some hf
      refine g_callVi S (As := [.int i1, .int i2]) (gs' := [maW a0 (a1 0) (a2 0) (a3 0) (a4 0) (a7 0 0) (a8 0) (a9 0) (a9 1), stW G a1 q5.2.1, paW G a7 q5.2.2]) (c_X5_owes l G a0 a1 a2 a3 a4 a5 a6 a7 a8 a9 a10 a11 q5.2.1 i1 i2 hq7) (cwV 2 hts gL_repay_X5_owes rfl rfl rfl hd_X5_owes ⟨Nat.le_of_ble_eq_true rfl, Nat.le_of_ble_eq_true rfl⟩) hK hP hD hS hA (is := [0, 1]) rfl rfl 0 rfl rfl rfl rfl hl.1 rfl (Nat.le_of_ble_eq_true rfl) dL_repay_51 ⟨Nat.le_of_ble_eq_true rfl, Nat.le_of_ble_eq_true rfl⟩ rfl (fun H locs hP hD hS => ?_)
      refine lv_iload_n hx hb dL_repay_54 rfl (lv_at hl 3 rfl) ?_
      refine lv_iload hx hb dL_repay_55 (lv_at hl 0 rfl) ?_
      refine lv_isub hx hb dL_repay_57 ?_
      refine lv_icmp_ne (tgt := 93) hx hb dL_repay_58 (by decide) (fun c8 => ?_) (fun c8 => ?_)
      · rw [if_neg c8] at hf
        refine lv_iconst (v := (0:Int32)) hx hb dL_repay_93 (by decide) ?_
        cases hf
        exact g_zret hx hb hr gz0 hlocks hP hS dL_repay_94
      · rw [if_pos c8] at hf
        refine lv_aload_n hx hb dL_repay_61 rfl (lv_at hl 4 rfl) ?_
        refine lv_iload_n hx hb dL_repay_62 rfl (lv_at hl 5 rfl) ?_
        refine lv_iconst (v := (0:Int32)) hx hb dL_repay_63 (by decide) ?_
        obtain ⟨q9, hq9, hf⟩ := bd_some hf
        refine g_callVi S (As := [.int i1, .int (0:Int32)]) (gs' := [maW a0 (a1 0) (a2 0) (a3 0) (a4 0) (a7 0 0) (a8 0) (a9 0) (a9 1), stW G a1 q5.2.1, paW G a7 q5.2.2]) (c_X5_member l G a0 a1 a2 a3 a4 a5 a6 a7 a8 a9 a10 a11 q5.2.1 i1 (0:Int32) hq9) (cwV 2 hts gL_repay_X5_member rfl rfl rfl hd_X5_member ⟨Nat.le_of_ble_eq_true rfl, Nat.le_of_ble_eq_true rfl⟩) hK hP hD hS hA (is := [0, 1]) rfl rfl 0 rfl rfl rfl rfl hl.1 rfl (Nat.le_of_ble_eq_true rfl) dL_repay_64 ⟨Nat.le_of_ble_eq_true rfl, Nat.le_of_ble_eq_true rfl⟩ rfl (fun H locs hP hD hS => ?_)
        refine lv_iload hx hb dL_repay_67 (lv_at hl 2 rfl) ?_
        refine lv_iload hx hb dL_repay_69 (lv_at hl 0 rfl) ?_
        refine lv_isub hx hb dL_repay_71 ?_
        refine lv_icmp_ne (tgt := 93) hx hb dL_repay_72 (by decide) (fun c10 => ?_) (fun c10 => ?_)
        · rw [if_neg c10] at hf
          refine lv_iconst (v := (0:Int32)) hx hb dL_repay_93 (by decide) ?_
          cases hf
          exact g_zret hx hb hr gz0 hlocks hP hS dL_repay_94
        · rw [if_pos c10] at hf
          refine lv_aload_n hx hb dL_repay_75 rfl (lv_at hl 4 rfl) ?_
          refine lv_iload_n hx hb dL_repay_76 rfl (lv_at hl 6 rfl) ?_
          refine lv_iconst (v := (0:Int32)) hx hb dL_repay_77 (by decide) ?_
          obtain ⟨q11, hq11, hf⟩ := bd_some hf
          refine g_callVi S (As := [.int i2, .int (0:Int32)]) (gs' := [maW a0 (a1 0) (a2 0) (a3 0) (a4 0) (a7 0 0) (a8 0) (a9 0) (a9 1), stW G a1 q5.2.1, paW G a7 q5.2.2]) (c_X5_member l G a0 a1 a2 a3 a4 a5 a6 a7 a8 a9 a10 a11 q5.2.1 i2 (0:Int32) hq11) (cwV 2 hts gL_repay_X5_member rfl rfl rfl hd_X5_member ⟨Nat.le_of_ble_eq_true rfl, Nat.le_of_ble_eq_true rfl⟩) hK hP hD hS hA (is := [0, 1]) rfl rfl 0 rfl rfl rfl rfl hl.1 rfl (Nat.le_of_ble_eq_true rfl) dL_repay_78 ⟨Nat.le_of_ble_eq_true rfl, Nat.le_of_ble_eq_true rfl⟩ rfl (fun H locs hP hD hS => ?_)
          refine lv_iload hx hb dL_repay_81 (lv_at hl 1 rfl) ?_
          refine lv_iload hx hb dL_repay_83 (lv_at hl 0 rfl) ?_
          refine lv_iadd hx hb dL_repay_85 ?_
          refine lv_icmp_ne (tgt := 93) hx hb dL_repay_86 (by decide) (fun c12 => ?_) (fun c12 => ?_)
          · rw [if_neg c12] at hf
            refine lv_iconst (v := (0:Int32)) hx hb dL_repay_93 (by decide) ?_
            cases hf
            exact g_zret hx hb hr gz0 hlocks hP hS dL_repay_94
          · rw [if_pos c12] at hf
            refine lv_iconst (v := (1:Int32)) hx hb dL_repay_89 (by decide) ?_
            refine lv_goto (tgt := 94) hx hb dL_repay_90 (by decide) ?_
            cases hf
            exact g_zret hx hb hr gz1 hlocks hP hS dL_repay_94
  · rw [if_neg c4] at hf
    refine lv_iload_n hx hb dL_repay_29 rfl (lv_at hl 2 rfl) ?_
    refine lv_goto (tgt := 35) hx hb dL_repay_30 (by decide) ?_
    refine lv_istore (lv' := [(6, .int q1.1), (5, .int q3.1), (4, .int q2.1), (3, .int q1.1), (0, .ref (a0 0)), (1, .int i1), (2, .int i2)]) hx hb dL_repay_35 hl (by decide) rfl (fun ls hl => ?_)
    refine lv_aload_n hx hb dL_repay_37 rfl (lv_at hl 4 rfl) ?_
    refine lv_iload_n hx hb dL_repay_38 rfl (lv_at hl 5 rfl) ?_
    refine lv_iload_n hx hb dL_repay_39 rfl (lv_at hl 6 rfl) ?_
    obtain ⟨q13, hq13, hf⟩ := bd_some hf
    refine g_callVi S (As := [.int i1, .int i2]) (gs' := [maW a0 (a1 0) (a2 0) (a3 0) (a4 0) (a7 0 0) (a8 0) (a9 0) (a9 1), stW G a1 q13.2.1, paW G a7 q13.2.2]) (c_X5_repay l G a0 a1 a2 a3 a4 a5 a6 a7 a8 a9 a10 a11 v1 v7 i1 i2 hq13) (cwV 2 hts gL_repay_X5_repay rfl rfl rfl hd_X5_repay ⟨Nat.le_of_ble_eq_true rfl, Nat.le_of_ble_eq_true rfl⟩) hK hP hD hS hA (is := [0, 1, 2]) rfl rfl 0 rfl rfl rfl rfl hl.1 rfl (Nat.le_of_ble_eq_true rfl) dL_repay_40 ⟨Nat.le_of_ble_eq_true rfl, Nat.le_of_ble_eq_true rfl⟩ rfl (fun H locs hP hD hS => ?_)
    refine lv_iload hx hb dL_repay_43 (lv_at hl 0 rfl) ?_
    refine lv_icmp_ne (tgt := 93) hx hb dL_repay_45 (by decide) (fun c14 => ?_) (fun c14 => ?_)
    · rw [if_neg c14] at hf
      refine lv_iconst (v := (0:Int32)) hx hb dL_repay_93 (by decide) ?_
      cases hf
      exact g_zret hx hb hr gz0 hlocks hP hS dL_repay_94
    · rw [if_pos c14] at hf
      refine lv_aload_n hx hb dL_repay_48 rfl (lv_at hl 4 rfl) ?_
      refine lv_iload_n hx hb dL_repay_49 rfl (lv_at hl 5 rfl) ?_
      refine lv_iload_n hx hb dL_repay_50 rfl (lv_at hl 6 rfl) ?_
      obtain ⟨q15, hq15, hf⟩ := bd_some hf
      refine g_callVi S (As := [.int i1, .int i2]) (gs' := [maW a0 (a1 0) (a2 0) (a3 0) (a4 0) (a7 0 0) (a8 0) (a9 0) (a9 1), stW G a1 q13.2.1, paW G a7 q13.2.2]) (c_X5_owes l G a0 a1 a2 a3 a4 a5 a6 a7 a8 a9 a10 a11 q13.2.1 i1 i2 hq15) (cwV 2 hts gL_repay_X5_owes rfl rfl rfl hd_X5_owes ⟨Nat.le_of_ble_eq_true rfl, Nat.le_of_ble_eq_true rfl⟩) hK hP hD hS hA (is := [0, 1]) rfl rfl 0 rfl rfl rfl rfl hl.1 rfl (Nat.le_of_ble_eq_true rfl) dL_repay_51 ⟨Nat.le_of_ble_eq_true rfl, Nat.le_of_ble_eq_true rfl⟩ rfl (fun H locs hP hD hS => ?_)
      refine lv_iload_n hx hb dL_repay_54 rfl (lv_at hl 3 rfl) ?_
      refine lv_iload hx hb dL_repay_55 (lv_at hl 0 rfl) ?_
      refine lv_isub hx hb dL_repay_57 ?_
      refine lv_icmp_ne (tgt := 93) hx hb dL_repay_58 (by decide) (fun c16 => ?_) (fun c16 => ?_)
      · rw [if_neg c16] at hf
        refine lv_iconst (v := (0:Int32)) hx hb dL_repay_93 (by decide) ?_
        cases hf
        exact g_zret hx hb hr gz0 hlocks hP hS dL_repay_94
      · rw [if_pos c16] at hf
        refine lv_aload_n hx hb dL_repay_61 rfl (lv_at hl 4 rfl) ?_
        refine lv_iload_n hx hb dL_repay_62 rfl (lv_at hl 5 rfl) ?_
        refine lv_iconst (v := (0:Int32)) hx hb dL_repay_63 (by decide) ?_
        obtain ⟨q17, hq17, hf⟩ := bd_some hf
        refine g_callVi S (As := [.int i1, .int (0:Int32)]) (gs' := [maW a0 (a1 0) (a2 0) (a3 0) (a4 0) (a7 0 0) (a8 0) (a9 0) (a9 1), stW G a1 q13.2.1, paW G a7 q13.2.2]) (c_X5_member l G a0 a1 a2 a3 a4 a5 a6 a7 a8 a9 a10 a11 q13.2.1 i1 (0:Int32) hq17) (cwV 2 hts gL_repay_X5_member rfl rfl rfl hd_X5_member ⟨Nat.le_of_ble_eq_true rfl, Nat.le_of_ble_eq_true rfl⟩) hK hP hD hS hA (is := [0, 1]) rfl rfl 0 rfl rfl rfl rfl hl.1 rfl (Nat.le_of_ble_eq_true rfl) dL_repay_64 ⟨Nat.le_of_ble_eq_true rfl, Nat.le_of_ble_eq_true rfl⟩ rfl (fun H locs hP hD hS => ?_)
        refine lv_iload hx hb dL_repay_67 (lv_at hl 2 rfl) ?_
        refine lv_iload hx hb dL_repay_69 (lv_at hl 0 rfl) ?_
        refine lv_isub hx hb dL_repay_71 ?_
        refine lv_icmp_ne (tgt := 93) hx hb dL_repay_72 (by decide) (fun c18 => ?_) (fun c18 => ?_)
        · rw [if_neg c18] at hf
          refine lv_iconst (v := (0:Int32)) hx hb dL_repay_93 (by decide) ?_
          cases hf
          exact g_zret hx hb hr gz0 hlocks hP hS dL_repay_94
        · rw [if_pos c18] at hf
          refine lv_aload_n hx hb dL_repay_75 rfl (lv_at hl 4 rfl) ?_
          refine lv_iload_n hx hb dL_repay_76 rfl (lv_at hl 6 rfl) ?_
          refine lv_iconst (v := (0:Int32)) hx hb dL_repay_77 (by decide) ?_
          obtain ⟨q19, hq19, hf⟩ := bd_some hf
          refine g_callVi S (As := [.int i2, .int (0:Int32)]) (gs' := [maW a0 (a1 0) (a2 0) (a3 0) (a4 0) (a7 0 0) (a8 0) (a9 0) (a9 1), stW G a1 q13.2.1, paW G a7 q13.2.2]) (c_X5_member l G a0 a1 a2 a3 a4 a5 a6 a7 a8 a9 a10 a11 q13.2.1 i2 (0:Int32) hq19) (cwV 2 hts gL_repay_X5_member rfl rfl rfl hd_X5_member ⟨Nat.le_of_ble_eq_true rfl, Nat.le_of_ble_eq_true rfl⟩) hK hP hD hS hA (is := [0, 1]) rfl rfl 0 rfl rfl rfl rfl hl.1 rfl (Nat.le_of_ble_eq_true rfl) dL_repay_78 ⟨Nat.le_of_ble_eq_true rfl, Nat.le_of_ble_eq_true rfl⟩ rfl (fun H locs hP hD hS => ?_)
          refine lv_iload hx hb dL_repay_81 (lv_at hl 1 rfl) ?_
          refine lv_iload hx hb dL_repay_83 (lv_at hl 0 rfl) ?_
          refine lv_iadd hx hb dL_repay_85 ?_
          refine lv_icmp_ne (tgt := 93) hx hb dL_repay_86 (by decide) (fun c20 => ?_) (fun c20 => ?_)
          · rw [if_neg c20] at hf
            refine lv_iconst (v := (0:Int32)) hx hb dL_repay_93 (by decide) ?_
            cases hf
            exact g_zret hx hb hr gz0 hlocks hP hS dL_repay_94
          · rw [if_pos c20] at hf
            refine lv_iconst (v := (1:Int32)) hx hb dL_repay_89 (by decide) ?_
            refine lv_goto (tgt := 94) hx hb dL_repay_90 (by decide) ?_
            cases hf
            exact g_zret hx hb hr gz1 hlocks hP hS dL_repay_94
