theorem hd_X1_pass : yX1_pass.cls = RX1 ∧ yX1_pass.cls ≠ "java/lang/invoke/MethodHandle" ∧ yX1_pass.cls ≠ "java/lang/invoke/VarHandle" ∧ (parseMethodDescriptor yX1_pass.desc).map (fun d => d.parameters.length) = some 1 := by decide +kernel
theorem hd_X2_bidOf : yX2_bidOf.cls = RX2 ∧ yX2_bidOf.cls ≠ "java/lang/invoke/MethodHandle" ∧ yX2_bidOf.cls ≠ "java/lang/invoke/VarHandle" ∧ (parseMethodDescriptor yX2_bidOf.desc).map (fun d => d.parameters.length) = some 2 := by decide +kernel
theorem hd_X2_gift : yX2_gift.cls = RX2 ∧ yX2_gift.cls ≠ "java/lang/invoke/MethodHandle" ∧ yX2_gift.cls ≠ "java/lang/invoke/VarHandle" ∧ (parseMethodDescriptor yX2_gift.desc).map (fun d => d.parameters.length) = some 2 := by decide +kernel
theorem hd_X2_going : yX2_going.cls = RX2 ∧ yX2_going.cls ≠ "java/lang/invoke/MethodHandle" ∧ yX2_going.cls ≠ "java/lang/invoke/VarHandle" ∧ (parseMethodDescriptor yX2_going.desc).map (fun d => d.parameters.length) = some 1 := by decide +kernel
theorem hd_X2_guarantorOf : yX2_guarantorOf.cls = RX2 ∧ yX2_guarantorOf.cls ≠ "java/lang/invoke/MethodHandle" ∧ yX2_guarantorOf.cls ≠ "java/lang/invoke/VarHandle" ∧ (parseMethodDescriptor yX2_guarantorOf.desc).map (fun d => d.parameters.length) = some 2 := by decide +kernel
theorem hd_X2_markOf : yX2_markOf.cls = RX2 ∧ yX2_markOf.cls ≠ "java/lang/invoke/MethodHandle" ∧ yX2_markOf.cls ≠ "java/lang/invoke/VarHandle" ∧ (parseMethodDescriptor yX2_markOf.desc).map (fun d => d.parameters.length) = some 2 := by decide +kernel
theorem hd_X2_monthsPass : yX2_monthsPass.cls = RX2 ∧ yX2_monthsPass.cls ≠ "java/lang/invoke/MethodHandle" ∧ yX2_monthsPass.cls ≠ "java/lang/invoke/VarHandle" ∧ (parseMethodDescriptor yX2_monthsPass.desc).map (fun d => d.parameters.length) = some 1 := by decide +kernel
theorem hd_X2_owesAtMost : yX2_owesAtMost.cls = RX2 ∧ yX2_owesAtMost.cls ≠ "java/lang/invoke/MethodHandle" ∧ yX2_owesAtMost.cls ≠ "java/lang/invoke/VarHandle" ∧ (parseMethodDescriptor yX2_owesAtMost.desc).map (fun d => d.parameters.length) = some 3 := by decide +kernel
theorem hd_X3_go : yX3_go.cls = RX3 ∧ yX3_go.cls ≠ "java/lang/invoke/MethodHandle" ∧ yX3_go.cls ≠ "java/lang/invoke/VarHandle" ∧ (parseMethodDescriptor yX3_go.desc).map (fun d => d.parameters.length) = some 1 := by decide +kernel
theorem hd_X3_mayBid : yX3_mayBid.cls = RX3 ∧ yX3_mayBid.cls ≠ "java/lang/invoke/MethodHandle" ∧ yX3_mayBid.cls ≠ "java/lang/invoke/VarHandle" ∧ (parseMethodDescriptor yX3_mayBid.desc).map (fun d => d.parameters.length) = some 1 := by decide +kernel
theorem hd_X3_mayGo : yX3_mayGo.cls = RX3 ∧ yX3_mayGo.cls ≠ "java/lang/invoke/MethodHandle" ∧ yX3_mayGo.cls ≠ "java/lang/invoke/VarHandle" ∧ (parseMethodDescriptor yX3_mayGo.desc).map (fun d => d.parameters.length) = some 1 := by decide +kernel
theorem hd_X3_mayPass : yX3_mayPass.cls = RX3 ∧ yX3_mayPass.cls ≠ "java/lang/invoke/MethodHandle" ∧ yX3_mayPass.cls ≠ "java/lang/invoke/VarHandle" ∧ (parseMethodDescriptor yX3_mayPass.desc).map (fun d => d.parameters.length) = some 0 := by decide +kernel
theorem hd_X3_mayReceive : yX3_mayReceive.cls = RX3 ∧ yX3_mayReceive.cls ≠ "java/lang/invoke/MethodHandle" ∧ yX3_mayReceive.cls ≠ "java/lang/invoke/VarHandle" ∧ (parseMethodDescriptor yX3_mayReceive.desc).map (fun d => d.parameters.length) = some 1 := by decide +kernel
theorem hd_X3_receive : yX3_receive.cls = RX3 ∧ yX3_receive.cls ≠ "java/lang/invoke/MethodHandle" ∧ yX3_receive.cls ≠ "java/lang/invoke/VarHandle" ∧ (parseMethodDescriptor yX3_receive.desc).map (fun d => d.parameters.length) = some 2 := by decide +kernel
theorem kX2_monthsPass_0 : Cond.fieldLink RX2 10 "SavingsCircle$Script" "state" "LSavingsCircle$State;" ∈ wsX2_monthsPass := (List.mem_cons_of_mem _ (List.mem_append_left _ (List.mem_append_left _ (List.mem_append_left _ (List.mem_append_left _ (List.mem_of_getElem? (i := 0) rfl))))))
theorem kX2_monthsPass_1 : Cond.fieldLink RX2 19 "SavingsCircle$Script" "round" "LSavingsCircle$Round;" ∈ wsX2_monthsPass := (List.mem_cons_of_mem _ (List.mem_append_left _ (List.mem_append_left _ (List.mem_append_left _ (List.mem_append_left _ (List.mem_of_getElem? (i := 1) rfl))))))
theorem iwX2_monthsPass_X2 : ∀ w ∈ wsX20, w ∈ wsX2_monthsPass := fun w h => (List.mem_cons_of_mem _ (List.mem_append_left _ (List.mem_append_left _ (List.mem_append_right _ h))))
set_option maxHeartbeats 4000000 in
set_option maxRecDepth 100000 in
theorem w_X2_monthsPass_2 {p : Program} {l : Launch} {e : Env} {s : State} {m : MethodId} {args : Array Value} {below : List Frame} {meth : Method} {c : Code} {A : Nat → Prop} {q : Int32 × (StV × RdV)} (S : Ev p s m args meth c cX2_monthsPass 3 (some .boolean) yX2_monthsPass.cls wsX2_monthsPass) {G : uG} (hK : kK G s) (hA : ∀ q, s.heap.size ≤ q → A q) (_ : uG) (a0 : Nat → Nat) (a1 : Nat → Nat) (a2 : Nat → Nat) (p1 : Int32) : ∀ (n : Nat) (z : (Int32 × StV × RdV)) (e1 : ((Int32 × StV × RdV) ⊕ (Int32 × (StV × RdV)))) (_ : ∀ r, e1 = Sum.inr r → r = q), lp (b_X2_monthsPass_2 p1) n z = some e1 → ∀ (H : Heap) (locs : List Loc) (ls : Array Slot), gP G [scW a0 (a1 0) (a2 0), stW G a1 z.2.1, rdW G a2 z.2.2] H → gD A [scW a0 (a1 0) (a2 0), stW G a1 z.2.1, rdW G a2 z.2.2] → va_S A s.heap H locs → lv_has ls 3 [(0, .ref (a0 0)), (1, .int p1), (2, .int z.1)] → (∀ (s1 : (Int32 × StV × RdV)), e1 = .inl s1 → ∀ (H : Heap) (locs : List Loc) (ls : Array Slot), gP G [scW a0 (a1 0) (a2 0), stW G a1 s1.2.1, rdW G a2 s1.2.2] H → gD A [scW a0 (a1 0) (a2 0), stW G a1 s1.2.1, rdW G a2 s1.2.2] → va_S A s.heap H locs → lv_has ls 3 [(0, .ref (a0 0)), (1, .int p1), (2, .int s1.1)] → W p l e ({ frames := 4, cells := 0, slots := 0, locals := 93 } : Room) s m args below meth c H locs 0 0 (MQ below (qI G [scW a0 (a1 0) (a2 0), stW G a1 q.2.1, rdW G a2 q.2.2] q.1 A) args s 0 0 A) (F0 m 37 ls [])) → W p l e ({ frames := 4, cells := 0, slots := 0, locals := 93 } : Room) s m args below meth c H locs 0 0 (MQ below (qI G [scW a0 (a1 0) (a2 0), stW G a1 q.2.1, rdW G a2 q.2.2] q.1 A) args s 0 0 A) (F0 m 2 ls []) := by
  obtain ⟨hx, hb, hml, hown, hts, hr, hlocks⟩ := id S
  intro n
  induction n with
  | zero => intro z e1 hE h; cases h
  | succ n ih =>
    intro z e1 hE hlp H locs ls hP hD hS hl K
    obtain ⟨z9, hf, hz⟩ := lp_s hlp
    unfold b_X2_monthsPass_2 at hf
    refine lv_iload_n hx hb dX2_monthsPass_2 rfl (lv_at hl 2 rfl) ?_
    refine lv_iload_n hx hb dX2_monthsPass_3 rfl (lv_at hl 1 rfl) ?_
    refine lv_icmp_ge (tgt := 37) hx hb dX2_monthsPass_4 (by decide) (fun c1 => ?_) (fun c1 => ?_)
    · rw [if_pos c1] at hf
      have he := lz_r hf hz
      exact K _ he.symm H locs ls hP hD hS (lv_sub hl [0, 1, 2] rfl)
    · rw [if_neg c1] at hf
      refine lv_aload_n hx hb dX2_monthsPass_7 rfl (lv_at hl 0 rfl) ?_
      refine g_get (C := RX2) (T := TX2) (N := 2) hx hb hts iwX2_monthsPass_X2 hown hK hP 0 0 rfl rfl rfl 0 (Nat.le_of_ble_eq_true rfl) (hts _ kX2_monthsPass_0) (fun _ h9 => h9) rfl dX2_monthsPass_8 ?_
      obtain ⟨q2, hq2, hf⟩ := bd_some hf
      refine g_callVi S (As := []) (gs' := [scW a0 (a1 0) (a2 0), stW G a1 z.2.1, rdW G a2 z.2.2]) (c_X3_mayPass l G a1 z.2.1 hq2) (cwV 0 hts gX2_monthsPass_X3_mayPass rfl rfl rfl hd_X3_mayPass ⟨Nat.le_of_ble_eq_true rfl, Nat.le_of_ble_eq_true rfl⟩) hK hP hD hS hA (is := [1]) rfl rfl 1 rfl rfl rfl rfl hl.1 rfl (Nat.le_of_ble_eq_true rfl) dX2_monthsPass_11 ⟨Nat.le_of_ble_eq_true rfl, Nat.le_of_ble_eq_true rfl⟩ rfl (fun H locs hP hD hS => ?_)
      refine lv_if_ne (tgt := 19) hx hb dX2_monthsPass_14 (by decide) (fun c3 => ?_) (fun c3 => ?_)
      · rw [if_neg c3] at hf
        refine lv_aload_n hx hb dX2_monthsPass_19 rfl (lv_at hl 0 rfl) ?_
        refine g_get (C := RX2) (T := TX2) (N := 2) hx hb hts iwX2_monthsPass_X2 hown hK hP 0 0 rfl rfl rfl 1 (Nat.le_of_ble_eq_true rfl) (hts _ kX2_monthsPass_1) (fun _ h9 => h9) rfl dX2_monthsPass_20 ?_
        refine lv_aload_n hx hb dX2_monthsPass_23 rfl (lv_at hl 0 rfl) ?_
        refine g_get (C := RX2) (T := TX2) (N := 2) hx hb hts iwX2_monthsPass_X2 hown hK hP 0 0 rfl rfl rfl 0 (Nat.le_of_ble_eq_true rfl) (hts _ kX2_monthsPass_0) (fun _ h9 => h9) rfl dX2_monthsPass_24 ?_
        obtain ⟨q4, hq4, hf⟩ := bd_some hf
        refine g_callVi S (As := [.ref (a1 0)]) (gs' := [scW a0 (a1 0) (a2 0), stW G a1 q4.2.2, rdW G a2 q4.2.1]) (c_X1_pass l G a2 a1 z.2.2 z.2.1 hq4) (cwV 1 hts gX2_monthsPass_X1_pass rfl rfl rfl hd_X1_pass ⟨Nat.le_of_ble_eq_true rfl, Nat.le_of_ble_eq_true rfl⟩) hK hP hD hS hA (is := [2, 1]) rfl rfl 2 rfl rfl rfl rfl hl.1 rfl (Nat.le_of_ble_eq_true rfl) dX2_monthsPass_27 ⟨Nat.le_of_ble_eq_true rfl, Nat.le_of_ble_eq_true rfl⟩ rfl (fun H locs hP hD hS => ?_)
        refine lv_pop hx hb dX2_monthsPass_30 rfl ?_
        obtain ⟨x5, ex5, hf⟩ := lt_some hf
        refine lv_iinc (v := x5) (lv' := [(2, .int x5), (0, .ref (a0 0)), (1, .int p1)]) hx hb dX2_monthsPass_31 hl (k := 2) rfl (by rw [ex5]; rfl) (by decide) rfl (fun ls hl => ?_)
        refine lv_goto (tgt := 2) hx hb dX2_monthsPass_34 (by decide) ?_
        exact ih _ e1 hE (lz_l hf hz) H locs ls hP hD hS (lv_sub hl [1, 2, 0] rfl) K
      · rw [if_pos c3] at hf
        refine lv_iconst (v := (0:Int32)) hx hb dX2_monthsPass_17 (by decide) ?_
        have he := lz_r hf hz
        have hq := hE _ he.symm
        subst hq
        exact g_zret hx hb hr gz0 hlocks hP hS dX2_monthsPass_18
set_option maxHeartbeats 4000000 in
set_option maxRecDepth 100000 in
theorem c_X2_monthsPass (l : Launch) (G : uG) (a0 : Nat → Nat) (a1 : Nat → Nat) (a2 : Nat → Nat) (v1 : StV) (v2 : RdV) (i1 : Int32) {q : Int32 × (StV × RdV)} (hf : f_X2_monthsPass v1 v2 i1 = some q) : mQ l yX2_monthsPass wsX2_monthsPass ({ frames := 4, cells := 0, slots := 0, locals := 93 } : Room) G [.ref (a0 0), .int i1] [scW a0 (a1 0) (a2 0), stW G a1 v1, rdW G a2 v2] [scW a0 (a1 0) (a2 0), stW G a1 q.2.1, rdW G a2 q.2.2] (qI G [scW a0 (a1 0) (a2 0), stW G a1 q.2.1, rdW G a2 q.2.2] q.1) := by
  unfold f_X2_monthsPass at hf
  refine m_of (cc := cX2_monthsPass) (maxL := 3) (ret := (some .boolean)) (by decide) rfl rfl (Nat.le_of_ble_eq_true rfl) ?_
  intro p e s m args below meth c A ls S hK hA hP hD hS hl
  obtain ⟨hx, hb, hml, hown, hts, hr, hlocks⟩ := id S
  have hl : lv_has ls 3 [(0, .ref (a0 0)), (1, .int i1)] := hl
  refine lv_iconst (v := (0:Int32)) hx hb dX2_monthsPass_0 (by decide) ?_
  refine lv_istore_n (lv' := [(2, .int (0:Int32)), (0, .ref (a0 0)), (1, .int i1)]) hx hb dX2_monthsPass_1 rfl hl (by decide) rfl (fun ls hl => ?_)
  obtain ⟨e6, he6, hf⟩ := bd_some hf
  refine w_X2_monthsPass_2 S hK hA G a0 a1 a2 i1 FU _ e6 (fun r hr9 => by subst hr9; exact (Option.some.inj hf)) he6 _ _ _ hP hD hS (lv_sub hl [1, 2, 0] rfl) (fun s7 hs9 H locs ls hP hD hS hl => ?_)
  subst hs9
  have hf := el_h hf
  refine lv_iload_n hx hb dX2_monthsPass_37 rfl (lv_at hl 1 rfl) ?_
  refine lv_if_le (tgt := 45) hx hb dX2_monthsPass_38 (by decide) (fun c9 => ?_) (fun c9 => ?_)
  · rw [if_pos c9] at hf
    refine lv_iconst (v := (0:Int32)) hx hb dX2_monthsPass_45 (by decide) ?_
    cases hf
    exact g_zret hx hb hr gz0 hlocks hP hS dX2_monthsPass_46
  · rw [if_neg c9] at hf
    refine lv_iconst (v := (1:Int32)) hx hb dX2_monthsPass_41 (by decide) ?_
    refine lv_goto (tgt := 46) hx hb dX2_monthsPass_42 (by decide) ?_
    cases hf
    exact g_zret hx hb hr gz1 hlocks hP hS dX2_monthsPass_46
theorem kX2_owesAtMost_0 : Cond.fieldLink RX2 10 "SavingsCircle$Script" "state" "LSavingsCircle$State;" ∈ wsX2_owesAtMost := (List.mem_cons_of_mem _ (List.mem_append_left _ (List.mem_append_left _ (List.mem_of_getElem? (i := 0) rfl))))
theorem kX2_owesAtMost_1 : Cond.fieldLink RX2 93 "SavingsCircle$State" "debt" "[I" ∈ wsX2_owesAtMost := (List.mem_cons_of_mem _ (List.mem_append_left _ (List.mem_append_left _ (List.mem_of_getElem? (i := 1) rfl))))
theorem iwX2_owesAtMost_X2 : ∀ w ∈ wsX20, w ∈ wsX2_owesAtMost := fun w h => (List.mem_cons_of_mem _ (List.mem_append_left _ (List.mem_append_right _ h)))
theorem iwX2_owesAtMost_X3 : ∀ w ∈ wsX30, w ∈ wsX2_owesAtMost := fun w h => (List.mem_cons_of_mem _ (List.mem_append_right _ h))
set_option maxHeartbeats 4000000 in
set_option maxRecDepth 100000 in
theorem c_X2_owesAtMost (l : Launch) (G : uG) (a0 : Nat → Nat) (a1 : Nat → Nat) (a2 : Nat → Nat) (v1 : StV) (i1 : Int32) (i2 : Int32) (i3 : Int32) {q : Int32 × (Unit)} (hf : f_X2_owesAtMost v1 i1 i2 i3 = some q) : mQ l yX2_owesAtMost wsX2_owesAtMost ({ frames := 1, cells := 0, slots := 0, locals := 21 } : Room) G [.ref (a0 0), .int i1, .int i2, .int i3] [scW a0 (a1 0) (a2 0), stW G a1 v1] [scW a0 (a1 0) (a2 0), stW G a1 v1] (qI G [scW a0 (a1 0) (a2 0), stW G a1 v1] q.1) := by
  unfold f_X2_owesAtMost at hf
  refine m_of (cc := cX2_owesAtMost) (maxL := 4) (ret := (some .boolean)) (by decide) rfl rfl (Nat.le_of_ble_eq_true rfl) ?_
  intro p e s m args below meth c A ls S hK hA hP hD hS hl
  obtain ⟨hx, hb, hml, hown, hts, hr, hlocks⟩ := id S
  have hl : lv_has ls 4 [(0, .ref (a0 0)), (1, .int i1), (2, .int i2), (3, .int i3)] := hl
  refine lv_aload_n hx hb dX2_owesAtMost_0 rfl (lv_at hl 0 rfl) ?_
  refine g_get (C := RX2) (T := TX2) (N := 2) hx hb hts iwX2_owesAtMost_X2 hown hK hP 0 0 rfl rfl rfl 0 (Nat.le_of_ble_eq_true rfl) (hts _ kX2_owesAtMost_0) (fun _ h9 => h9) rfl dX2_owesAtMost_1 ?_
  refine lv_iload_n hx hb dX2_owesAtMost_4 rfl (lv_at hl 2 rfl) ?_
  obtain ⟨q1, hq1, hf⟩ := bd_some hf
  refine g_callVi S (As := [.int i2]) (gs' := [scW a0 (a1 0) (a2 0), stW G a1 v1]) (c_X3_exists l G a1 v1 i2 hq1) (cwV 1 hts gX2_owesAtMost_X3_exists rfl rfl rfl hd_X3_exists ⟨Nat.le_of_ble_eq_true rfl, Nat.le_of_ble_eq_true rfl⟩) hK hP hD hS hA (is := [1]) rfl rfl 1 rfl rfl rfl rfl hl.1 rfl (Nat.le_of_ble_eq_true rfl) dX2_owesAtMost_5 ⟨Nat.le_of_ble_eq_true rfl, Nat.le_of_ble_eq_true rfl⟩ rfl (fun H locs hP hD hS => ?_)
  refine lv_if_eq (tgt := 37) hx hb dX2_owesAtMost_8 (by decide) (fun c2 => ?_) (fun c2 => ?_)
  · rw [if_pos c2] at hf
    refine lv_iconst (v := (0:Int32)) hx hb dX2_owesAtMost_37 (by decide) ?_
    cases hf
    exact g_zret hx hb hr gz0 hlocks hP hS dX2_owesAtMost_38
  · rw [if_neg c2] at hf
    refine lv_iload_n hx hb dX2_owesAtMost_11 rfl (lv_at hl 1 rfl) ?_
    refine lv_iload_n hx hb dX2_owesAtMost_12 rfl (lv_at hl 2 rfl) ?_
    refine lv_icmp_eq (tgt := 37) hx hb dX2_owesAtMost_13 (by decide) (fun c3 => ?_) (fun c3 => ?_)
    · rw [if_pos c3] at hf
      refine lv_iconst (v := (0:Int32)) hx hb dX2_owesAtMost_37 (by decide) ?_
      cases hf
      exact g_zret hx hb hr gz0 hlocks hP hS dX2_owesAtMost_38
    · rw [if_neg c3] at hf
      refine lv_aload_n hx hb dX2_owesAtMost_16 rfl (lv_at hl 0 rfl) ?_
      refine g_get (C := RX2) (T := TX2) (N := 2) hx hb hts iwX2_owesAtMost_X2 hown hK hP 0 0 rfl rfl rfl 0 (Nat.le_of_ble_eq_true rfl) (hts _ kX2_owesAtMost_0) (fun _ h9 => h9) rfl dX2_owesAtMost_17 ?_
      refine g_get (C := RX3) (T := TX3) (N := 17) hx hb hts iwX2_owesAtMost_X3 hown hK hP 1 0 rfl rfl rfl 16 (Nat.le_of_ble_eq_true rfl) (hts _ kX2_owesAtMost_1) (fun _ h9 => h9) rfl dX2_owesAtMost_20 ?_
      refine lv_iload_n hx hb dX2_owesAtMost_23 rfl (lv_at hl 1 rfl) ?_
      refine lv_iload_n hx hb dX2_owesAtMost_24 rfl (lv_at hl 2 rfl) ?_
      obtain ⟨q4, hq4, hf⟩ := bd_some hf
      refine g_callSi S (As := [.int i1, .int i2]) (gs' := [scW a0 (a1 0) (a2 0), stW G a1 v1]) (c_X3_pair l G i1 i2 hq4) (va_cwS 2 hts gX2_owesAtMost_X3_pair rfl rfl rfl hd_X3_pair.2 ⟨Nat.le_of_ble_eq_true rfl, Nat.le_of_ble_eq_true rfl⟩) hK hP hD hS hA (is := []) rfl rfl rfl hl.1 rfl (Nat.le_of_ble_eq_true rfl) dX2_owesAtMost_25 ⟨Nat.le_of_ble_eq_true rfl, Nat.le_of_ble_eq_true rfl⟩ rfl (fun H locs hP hD hS => ?_)
      obtain ⟨h5, hf⟩ := gi_some hf
      refine g_iald hx hb hK hP 1 12 0 rfl rfl rfl h5 dX2_owesAtMost_28 ?_
      refine lv_iload_n hx hb dX2_owesAtMost_29 rfl (lv_at hl 3 rfl) ?_
      refine lv_icmp_gt (tgt := 37) hx hb dX2_owesAtMost_30 (by decide) (fun c6 => ?_) (fun c6 => ?_)
      · rw [if_pos c6] at hf
        refine lv_iconst (v := (0:Int32)) hx hb dX2_owesAtMost_37 (by decide) ?_
        cases hf
        exact g_zret hx hb hr gz0 hlocks hP hS dX2_owesAtMost_38
      · rw [if_neg c6] at hf
        refine lv_iconst (v := (1:Int32)) hx hb dX2_owesAtMost_33 (by decide) ?_
        refine lv_goto (tgt := 38) hx hb dX2_owesAtMost_34 (by decide) ?_
        cases hf
        exact g_zret hx hb hr gz1 hlocks hP hS dX2_owesAtMost_38
theorem kX2_going_0 : Cond.fieldLink RX2 10 "SavingsCircle$Script" "state" "LSavingsCircle$State;" ∈ wsX2_going := (List.mem_cons_of_mem _ (List.mem_append_left _ (List.mem_append_left _ (List.mem_append_left _ (List.mem_of_getElem? (i := 0) rfl)))))
theorem iwX2_going_X2 : ∀ w ∈ wsX20, w ∈ wsX2_going := fun w h => (List.mem_cons_of_mem _ (List.mem_append_left _ (List.mem_append_right _ h)))
set_option maxHeartbeats 4000000 in
set_option maxRecDepth 100000 in
theorem c_X2_going (l : Launch) (G : uG) (a0 : Nat → Nat) (a1 : Nat → Nat) (a2 : Nat → Nat) (v1 : StV) (i1 : Int32) {q : Int32 × (StV)} (hf : f_X2_going v1 i1 = some q) : mQ l yX2_going wsX2_going ({ frames := 3, cells := 0, slots := 0, locals := 65 } : Room) G [.ref (a0 0), .int i1] [scW a0 (a1 0) (a2 0), stW G a1 v1] [scW a0 (a1 0) (a2 0), stW G a1 q.2] (qI G [scW a0 (a1 0) (a2 0), stW G a1 q.2] q.1) := by
  unfold f_X2_going at hf
  refine m_of (cc := cX2_going) (maxL := 2) (ret := (some .boolean)) (by decide) rfl rfl (Nat.le_of_ble_eq_true rfl) ?_
  intro p e s m args below meth c A ls S hK hA hP hD hS hl
  obtain ⟨hx, hb, hml, hown, hts, hr, hlocks⟩ := id S
  have hl : lv_has ls 2 [(0, .ref (a0 0)), (1, .int i1)] := hl
  refine lv_aload_n hx hb dX2_going_0 rfl (lv_at hl 0 rfl) ?_
  refine g_get (C := RX2) (T := TX2) (N := 2) hx hb hts iwX2_going_X2 hown hK hP 0 0 rfl rfl rfl 0 (Nat.le_of_ble_eq_true rfl) (hts _ kX2_going_0) (fun _ h9 => h9) rfl dX2_going_1 ?_
  refine lv_iload_n hx hb dX2_going_4 rfl (lv_at hl 1 rfl) ?_
  obtain ⟨q1, hq1, hf⟩ := bd_some hf
  refine g_callVi S (As := [.int i1]) (gs' := [scW a0 (a1 0) (a2 0), stW G a1 v1]) (c_X3_mayGo l G a1 v1 i1 hq1) (cwV 1 hts gX2_going_X3_mayGo rfl rfl rfl hd_X3_mayGo ⟨Nat.le_of_ble_eq_true rfl, Nat.le_of_ble_eq_true rfl⟩) hK hP hD hS hA (is := [1]) rfl rfl 1 rfl rfl rfl rfl hl.1 rfl (Nat.le_of_ble_eq_true rfl) dX2_going_5 ⟨Nat.le_of_ble_eq_true rfl, Nat.le_of_ble_eq_true rfl⟩ rfl (fun H locs hP hD hS => ?_)
  refine lv_if_ne (tgt := 13) hx hb dX2_going_8 (by decide) (fun c2 => ?_) (fun c2 => ?_)
  · rw [if_neg c2] at hf
    refine lv_aload_n hx hb dX2_going_13 rfl (lv_at hl 0 rfl) ?_
    refine g_get (C := RX2) (T := TX2) (N := 2) hx hb hts iwX2_going_X2 hown hK hP 0 0 rfl rfl rfl 0 (Nat.le_of_ble_eq_true rfl) (hts _ kX2_going_0) (fun _ h9 => h9) rfl dX2_going_14 ?_
    refine lv_iload_n hx hb dX2_going_17 rfl (lv_at hl 1 rfl) ?_
    obtain ⟨q3, hq3, hf⟩ := bd_some hf
    refine g_callVi S (As := [.int i1]) (gs' := [scW a0 (a1 0) (a2 0), stW G a1 q3.2]) (c_X3_go l G a1 v1 i1 hq3) (cwV 1 hts gX2_going_X3_go rfl rfl rfl hd_X3_go ⟨Nat.le_of_ble_eq_true rfl, Nat.le_of_ble_eq_true rfl⟩) hK hP hD hS hA (is := [1]) rfl rfl 1 rfl rfl rfl rfl hl.1 rfl (Nat.le_of_ble_eq_true rfl) dX2_going_18 ⟨Nat.le_of_ble_eq_true rfl, Nat.le_of_ble_eq_true rfl⟩ rfl (fun H locs hP hD hS => ?_)
    refine lv_pop hx hb dX2_going_21 rfl ?_
    refine lv_iconst (v := (1:Int32)) hx hb dX2_going_22 (by decide) ?_
    cases hf
    exact g_zret hx hb hr gz1 hlocks hP hS dX2_going_23
  · rw [if_pos c2] at hf
    refine lv_iconst (v := (0:Int32)) hx hb dX2_going_11 (by decide) ?_
    cases hf
    exact g_zret hx hb hr gz0 hlocks hP hS dX2_going_12
theorem kX2_gift_0 : Cond.fieldLink RX2 10 "SavingsCircle$Script" "state" "LSavingsCircle$State;" ∈ wsX2_gift := (List.mem_cons_of_mem _ (List.mem_append_left _ (List.mem_append_left _ (List.mem_of_getElem? (i := 0) rfl))))
theorem iwX2_gift_X2 : ∀ w ∈ wsX20, w ∈ wsX2_gift := fun w h => (List.mem_cons_of_mem _ (List.mem_append_left _ (List.mem_append_right _ h)))
set_option maxHeartbeats 4000000 in
set_option maxRecDepth 100000 in
theorem c_X2_gift (l : Launch) (G : uG) (a0 : Nat → Nat) (a1 : Nat → Nat) (a2 : Nat → Nat) (v1 : StV) (i1 : Int32) (i2 : Int32) {q : Int32 × (StV)} (hf : f_X2_gift v1 i1 i2 = some q) : mQ l yX2_gift wsX2_gift ({ frames := 1, cells := 0, slots := 0, locals := 22 } : Room) G [.ref (a0 0), .int i1, .int i2] [scW a0 (a1 0) (a2 0), stW G a1 v1] [scW a0 (a1 0) (a2 0), stW G a1 q.2] (qI G [scW a0 (a1 0) (a2 0), stW G a1 q.2] q.1) := by
  unfold f_X2_gift at hf
  refine m_of (cc := cX2_gift) (maxL := 3) (ret := (some .boolean)) (by decide) rfl rfl (Nat.le_of_ble_eq_true rfl) ?_
  intro p e s m args below meth c A ls S hK hA hP hD hS hl
  obtain ⟨hx, hb, hml, hown, hts, hr, hlocks⟩ := id S
  have hl : lv_has ls 3 [(0, .ref (a0 0)), (1, .int i1), (2, .int i2)] := hl
  refine lv_iload_n hx hb dX2_gift_0 rfl (lv_at hl 2 rfl) ?_
  refine lv_if_eq (tgt := 15) hx hb dX2_gift_1 (by decide) (fun c1 => ?_) (fun c1 => ?_)
  · rw [if_pos c1] at hf
    refine lv_iconst (v := (0:Int32)) hx hb dX2_gift_15 (by decide) ?_
    cases hf
    exact g_zret hx hb hr gz0 hlocks hP hS dX2_gift_16
  · rw [if_neg c1] at hf
    refine lv_aload_n hx hb dX2_gift_4 rfl (lv_at hl 0 rfl) ?_
    refine g_get (C := RX2) (T := TX2) (N := 2) hx hb hts iwX2_gift_X2 hown hK hP 0 0 rfl rfl rfl 0 (Nat.le_of_ble_eq_true rfl) (hts _ kX2_gift_0) (fun _ h9 => h9) rfl dX2_gift_5 ?_
    refine lv_iload_n hx hb dX2_gift_8 rfl (lv_at hl 2 rfl) ?_
    obtain ⟨q2, hq2, hf⟩ := bd_some hf
    refine g_callVi S (As := [.int i2]) (gs' := [scW a0 (a1 0) (a2 0), stW G a1 v1]) (c_X3_mayReceive l G a1 v1 i2 hq2) (cwV 1 hts gX2_gift_X3_mayReceive rfl rfl rfl hd_X3_mayReceive ⟨Nat.le_of_ble_eq_true rfl, Nat.le_of_ble_eq_true rfl⟩) hK hP hD hS hA (is := [1]) rfl rfl 1 rfl rfl rfl rfl hl.1 rfl (Nat.le_of_ble_eq_true rfl) dX2_gift_9 ⟨Nat.le_of_ble_eq_true rfl, Nat.le_of_ble_eq_true rfl⟩ rfl (fun H locs hP hD hS => ?_)
    refine lv_if_ne (tgt := 17) hx hb dX2_gift_12 (by decide) (fun c3 => ?_) (fun c3 => ?_)
    · rw [if_neg c3] at hf
      refine lv_aload_n hx hb dX2_gift_17 rfl (lv_at hl 0 rfl) ?_
      refine g_get (C := RX2) (T := TX2) (N := 2) hx hb hts iwX2_gift_X2 hown hK hP 0 0 rfl rfl rfl 0 (Nat.le_of_ble_eq_true rfl) (hts _ kX2_gift_0) (fun _ h9 => h9) rfl dX2_gift_18 ?_
      refine lv_iload_n hx hb dX2_gift_21 rfl (lv_at hl 1 rfl) ?_
      refine lv_iload_n hx hb dX2_gift_22 rfl (lv_at hl 2 rfl) ?_
      obtain ⟨q4, hq4, hf⟩ := bd_some hf
      refine g_callVv S (As := [.int i1, .int i2]) (gs' := [scW a0 (a1 0) (a2 0), stW G a1 q4.2]) (c_X3_receive l G a1 v1 i1 i2 hq4) (cwV 2 hts gX2_gift_X3_receive rfl rfl rfl hd_X3_receive ⟨Nat.le_of_ble_eq_true rfl, Nat.le_of_ble_eq_true rfl⟩) hK hP hD hS hA (is := [1]) rfl rfl 1 rfl rfl rfl rfl hl.1 rfl (Nat.le_of_ble_eq_true rfl) dX2_gift_23 ⟨Nat.le_of_ble_eq_true rfl, Nat.le_of_ble_eq_true rfl⟩ rfl (fun H locs hP hD hS => ?_)
      refine lv_iconst (v := (1:Int32)) hx hb dX2_gift_26 (by decide) ?_
      cases hf
      exact g_zret hx hb hr gz1 hlocks hP hS dX2_gift_27
    · rw [if_pos c3] at hf
      refine lv_iconst (v := (0:Int32)) hx hb dX2_gift_15 (by decide) ?_
      cases hf
      exact g_zret hx hb hr gz0 hlocks hP hS dX2_gift_16
theorem kX2_markOf_0 : Cond.fieldLink RX2 10 "SavingsCircle$Script" "state" "LSavingsCircle$State;" ∈ wsX2_markOf := (List.mem_cons_of_mem _ (List.mem_append_left _ (List.mem_append_left _ (List.mem_of_getElem? (i := 0) rfl))))
theorem kX2_markOf_1 : Cond.fieldLink RX2 76 "SavingsCircle$State" "away" "[Z" ∈ wsX2_markOf := (List.mem_cons_of_mem _ (List.mem_append_left _ (List.mem_append_left _ (List.mem_of_getElem? (i := 1) rfl))))
theorem iwX2_markOf_X2 : ∀ w ∈ wsX20, w ∈ wsX2_markOf := fun w h => (List.mem_cons_of_mem _ (List.mem_append_left _ (List.mem_append_right _ h)))
theorem iwX2_markOf_X3 : ∀ w ∈ wsX30, w ∈ wsX2_markOf := fun w h => (List.mem_cons_of_mem _ (List.mem_append_right _ h))
set_option maxHeartbeats 4000000 in
set_option maxRecDepth 100000 in
theorem c_X2_markOf (l : Launch) (G : uG) (a0 : Nat → Nat) (a1 : Nat → Nat) (a2 : Nat → Nat) (v1 : StV) (i1 : Int32) (i2 : Int32) {q : Int32 × (StV)} (hf : f_X2_markOf v1 i1 i2 = some q) : mQ l yX2_markOf wsX2_markOf ({ frames := 0, cells := 0, slots := 0, locals := 0 } : Room) G [.ref (a0 0), .int i1, .int i2] [scW a0 (a1 0) (a2 0), stW G a1 v1] [scW a0 (a1 0) (a2 0), stW G a1 q.2] (qI G [scW a0 (a1 0) (a2 0), stW G a1 q.2] q.1) := by
  unfold f_X2_markOf at hf
  refine m_of (cc := cX2_markOf) (maxL := 3) (ret := (some .boolean)) (by decide) rfl rfl (Nat.le_of_ble_eq_true rfl) ?_
  intro p e s m args below meth c A ls S hK hA hP hD hS hl
  obtain ⟨hx, hb, hml, hown, hts, hr, hlocks⟩ := id S
  have hl : lv_has ls 3 [(0, .ref (a0 0)), (1, .int i1), (2, .int i2)] := hl
  refine lv_aload_n hx hb dX2_markOf_0 rfl (lv_at hl 0 rfl) ?_
  refine g_get (C := RX2) (T := TX2) (N := 2) hx hb hts iwX2_markOf_X2 hown hK hP 0 0 rfl rfl rfl 0 (Nat.le_of_ble_eq_true rfl) (hts _ kX2_markOf_0) (fun _ h9 => h9) rfl dX2_markOf_1 ?_
  refine g_get (C := RX3) (T := TX3) (N := 17) hx hb hts iwX2_markOf_X3 hown hK hP 1 0 rfl rfl rfl 8 (Nat.le_of_ble_eq_true rfl) (hts _ kX2_markOf_1) (fun _ h9 => h9) rfl dX2_markOf_4 ?_
  refine lv_iload_n hx hb dX2_markOf_7 rfl (lv_at hl 1 rfl) ?_
  refine lv_iload_n hx hb dX2_markOf_8 rfl (lv_at hl 2 rfl) ?_
  obtain ⟨h1, hf⟩ := gi_some hf
  obtain ⟨u2, eu2, hf⟩ := lt_some hf
  refine g_zast (gs' := [scW a0 (a1 0) (a2 0), stW G a1 u2]) hx hb hK hP hD hS 1 4 1 rfl rfl rfl h1 dX2_markOf_9 (by rw [eu2]; rfl) (fun H locs hP hD hS => ?_)
  refine lv_iconst (v := (1:Int32)) hx hb dX2_markOf_10 (by decide) ?_
  cases hf
  exact g_zret hx hb hr gz1 hlocks hP hS dX2_markOf_11
theorem kX2_guarantorOf_0 : Cond.fieldLink RX2 10 "SavingsCircle$Script" "state" "LSavingsCircle$State;" ∈ wsX2_guarantorOf := (List.mem_cons_of_mem _ (List.mem_append_left _ (List.mem_append_left _ (List.mem_of_getElem? (i := 0) rfl))))
theorem kX2_guarantorOf_1 : Cond.fieldLink RX2 73 "SavingsCircle$State" "guarantor" "[I" ∈ wsX2_guarantorOf := (List.mem_cons_of_mem _ (List.mem_append_left _ (List.mem_append_left _ (List.mem_of_getElem? (i := 1) rfl))))
theorem iwX2_guarantorOf_X2 : ∀ w ∈ wsX20, w ∈ wsX2_guarantorOf := fun w h => (List.mem_cons_of_mem _ (List.mem_append_left _ (List.mem_append_right _ h)))
theorem iwX2_guarantorOf_X3 : ∀ w ∈ wsX30, w ∈ wsX2_guarantorOf := fun w h => (List.mem_cons_of_mem _ (List.mem_append_right _ h))
set_option maxHeartbeats 4000000 in
set_option maxRecDepth 100000 in
theorem c_X2_guarantorOf (l : Launch) (G : uG) (a0 : Nat → Nat) (a1 : Nat → Nat) (a2 : Nat → Nat) (v1 : StV) (i1 : Int32) (i2 : Int32) {q : Int32 × (StV)} (hf : f_X2_guarantorOf v1 i1 i2 = some q) : mQ l yX2_guarantorOf wsX2_guarantorOf ({ frames := 1, cells := 0, slots := 0, locals := 21 } : Room) G [.ref (a0 0), .int i1, .int i2] [scW a0 (a1 0) (a2 0), stW G a1 v1] [scW a0 (a1 0) (a2 0), stW G a1 q.2] (qI G [scW a0 (a1 0) (a2 0), stW G a1 q.2] q.1) := by
  unfold f_X2_guarantorOf at hf
  refine m_of (cc := cX2_guarantorOf) (maxL := 3) (ret := (some .boolean)) (by decide) rfl rfl (Nat.le_of_ble_eq_true rfl) ?_
  intro p e s m args below meth c A ls S hK hA hP hD hS hl
  obtain ⟨hx, hb, hml, hown, hts, hr, hlocks⟩ := id S
  have hl : lv_has ls 3 [(0, .ref (a0 0)), (1, .int i1), (2, .int i2)] := hl
  refine lv_aload_n hx hb dX2_guarantorOf_0 rfl (lv_at hl 0 rfl) ?_
  refine g_get (C := RX2) (T := TX2) (N := 2) hx hb hts iwX2_guarantorOf_X2 hown hK hP 0 0 rfl rfl rfl 0 (Nat.le_of_ble_eq_true rfl) (hts _ kX2_guarantorOf_0) (fun _ h9 => h9) rfl dX2_guarantorOf_1 ?_
  refine lv_iload_n hx hb dX2_guarantorOf_4 rfl (lv_at hl 2 rfl) ?_
  obtain ⟨q1, hq1, hf⟩ := bd_some hf
  refine g_callVi S (As := [.int i2]) (gs' := [scW a0 (a1 0) (a2 0), stW G a1 v1]) (c_X3_exists l G a1 v1 i2 hq1) (cwV 1 hts gX2_guarantorOf_X3_exists rfl rfl rfl hd_X3_exists ⟨Nat.le_of_ble_eq_true rfl, Nat.le_of_ble_eq_true rfl⟩) hK hP hD hS hA (is := [1]) rfl rfl 1 rfl rfl rfl rfl hl.1 rfl (Nat.le_of_ble_eq_true rfl) dX2_guarantorOf_5 ⟨Nat.le_of_ble_eq_true rfl, Nat.le_of_ble_eq_true rfl⟩ rfl (fun H locs hP hD hS => ?_)
  refine lv_if_eq (tgt := 16) hx hb dX2_guarantorOf_8 (by decide) (fun c2 => ?_) (fun c2 => ?_)
  · rw [if_pos c2] at hf
    refine lv_iconst (v := (0:Int32)) hx hb dX2_guarantorOf_16 (by decide) ?_
    cases hf
    exact g_zret hx hb hr gz0 hlocks hP hS dX2_guarantorOf_17
  · rw [if_neg c2] at hf
    refine lv_iload_n hx hb dX2_guarantorOf_11 rfl (lv_at hl 2 rfl) ?_
    refine lv_iload_n hx hb dX2_guarantorOf_12 rfl (lv_at hl 1 rfl) ?_
    refine lv_icmp_ne (tgt := 18) hx hb dX2_guarantorOf_13 (by decide) (fun c3 => ?_) (fun c3 => ?_)
    · rw [if_neg c3] at hf
      refine lv_aload_n hx hb dX2_guarantorOf_18 rfl (lv_at hl 0 rfl) ?_
      refine g_get (C := RX2) (T := TX2) (N := 2) hx hb hts iwX2_guarantorOf_X2 hown hK hP 0 0 rfl rfl rfl 0 (Nat.le_of_ble_eq_true rfl) (hts _ kX2_guarantorOf_0) (fun _ h9 => h9) rfl dX2_guarantorOf_19 ?_
      refine g_get (C := RX3) (T := TX3) (N := 17) hx hb hts iwX2_guarantorOf_X3 hown hK hP 1 0 rfl rfl rfl 6 (Nat.le_of_ble_eq_true rfl) (hts _ kX2_guarantorOf_1) (fun _ h9 => h9) rfl dX2_guarantorOf_22 ?_
      refine lv_iload_n hx hb dX2_guarantorOf_25 rfl (lv_at hl 1 rfl) ?_
      refine lv_iload_n hx hb dX2_guarantorOf_26 rfl (lv_at hl 2 rfl) ?_
      obtain ⟨h4, hf⟩ := gi_some hf
      obtain ⟨u5, eu5, hf⟩ := lt_some hf
      refine g_iast (gs' := [scW a0 (a1 0) (a2 0), stW G a1 u5]) hx hb hK hP hD hS 1 2 0 rfl rfl rfl h4 dX2_guarantorOf_27 (by rw [eu5]; rfl) (fun H locs hP hD hS => ?_)
      refine lv_iconst (v := (1:Int32)) hx hb dX2_guarantorOf_28 (by decide) ?_
      cases hf
      exact g_zret hx hb hr gz1 hlocks hP hS dX2_guarantorOf_29
    · rw [if_pos c3] at hf
      refine lv_iconst (v := (0:Int32)) hx hb dX2_guarantorOf_16 (by decide) ?_
      cases hf
      exact g_zret hx hb hr gz0 hlocks hP hS dX2_guarantorOf_17
theorem kX2_bidOf_0 : Cond.fieldLink RX2 10 "SavingsCircle$Script" "state" "LSavingsCircle$State;" ∈ wsX2_bidOf := (List.mem_cons_of_mem _ (List.mem_append_left _ (List.mem_append_left _ (List.mem_of_getElem? (i := 0) rfl))))
theorem kX2_bidOf_1 : Cond.fieldLink RX2 70 "SavingsCircle$State" "bid" "[I" ∈ wsX2_bidOf := (List.mem_cons_of_mem _ (List.mem_append_left _ (List.mem_append_left _ (List.mem_of_getElem? (i := 1) rfl))))
theorem iwX2_bidOf_X2 : ∀ w ∈ wsX20, w ∈ wsX2_bidOf := fun w h => (List.mem_cons_of_mem _ (List.mem_append_left _ (List.mem_append_right _ h)))
theorem iwX2_bidOf_X3 : ∀ w ∈ wsX30, w ∈ wsX2_bidOf := fun w h => (List.mem_cons_of_mem _ (List.mem_append_right _ h))
set_option maxHeartbeats 4000000 in
set_option maxRecDepth 100000 in
theorem c_X2_bidOf (l : Launch) (G : uG) (a0 : Nat → Nat) (a1 : Nat → Nat) (a2 : Nat → Nat) (v1 : StV) (i1 : Int32) (i2 : Int32) {q : Int32 × (StV)} (hf : f_X2_bidOf v1 i1 i2 = some q) : mQ l yX2_bidOf wsX2_bidOf ({ frames := 1, cells := 0, slots := 0, locals := 21 } : Room) G [.ref (a0 0), .int i1, .int i2] [scW a0 (a1 0) (a2 0), stW G a1 v1] [scW a0 (a1 0) (a2 0), stW G a1 q.2] (qI G [scW a0 (a1 0) (a2 0), stW G a1 q.2] q.1) := by
  unfold f_X2_bidOf at hf
  refine m_of (cc := cX2_bidOf) (maxL := 3) (ret := (some .boolean)) (by decide) rfl rfl (Nat.le_of_ble_eq_true rfl) ?_
  intro p e s m args below meth c A ls S hK hA hP hD hS hl
  obtain ⟨hx, hb, hml, hown, hts, hr, hlocks⟩ := id S
  have hl : lv_has ls 3 [(0, .ref (a0 0)), (1, .int i1), (2, .int i2)] := hl
  refine lv_aload_n hx hb dX2_bidOf_0 rfl (lv_at hl 0 rfl) ?_
  refine g_get (C := RX2) (T := TX2) (N := 2) hx hb hts iwX2_bidOf_X2 hown hK hP 0 0 rfl rfl rfl 0 (Nat.le_of_ble_eq_true rfl) (hts _ kX2_bidOf_0) (fun _ h9 => h9) rfl dX2_bidOf_1 ?_
  refine lv_iload_n hx hb dX2_bidOf_4 rfl (lv_at hl 1 rfl) ?_
  obtain ⟨q1, hq1, hf⟩ := bd_some hf
  refine g_callVi S (As := [.int i1]) (gs' := [scW a0 (a1 0) (a2 0), stW G a1 v1]) (c_X3_mayBid l G a1 v1 i1 hq1) (cwV 1 hts gX2_bidOf_X3_mayBid rfl rfl rfl hd_X3_mayBid ⟨Nat.le_of_ble_eq_true rfl, Nat.le_of_ble_eq_true rfl⟩) hK hP hD hS hA (is := [1]) rfl rfl 1 rfl rfl rfl rfl hl.1 rfl (Nat.le_of_ble_eq_true rfl) dX2_bidOf_5 ⟨Nat.le_of_ble_eq_true rfl, Nat.le_of_ble_eq_true rfl⟩ rfl (fun H locs hP hD hS => ?_)
  refine lv_if_ne (tgt := 13) hx hb dX2_bidOf_8 (by decide) (fun c2 => ?_) (fun c2 => ?_)
  · rw [if_neg c2] at hf
    refine lv_aload_n hx hb dX2_bidOf_13 rfl (lv_at hl 0 rfl) ?_
    refine g_get (C := RX2) (T := TX2) (N := 2) hx hb hts iwX2_bidOf_X2 hown hK hP 0 0 rfl rfl rfl 0 (Nat.le_of_ble_eq_true rfl) (hts _ kX2_bidOf_0) (fun _ h9 => h9) rfl dX2_bidOf_14 ?_
    refine g_get (C := RX3) (T := TX3) (N := 17) hx hb hts iwX2_bidOf_X3 hown hK hP 1 0 rfl rfl rfl 7 (Nat.le_of_ble_eq_true rfl) (hts _ kX2_bidOf_1) (fun _ h9 => h9) rfl dX2_bidOf_17 ?_
    refine lv_iload_n hx hb dX2_bidOf_20 rfl (lv_at hl 1 rfl) ?_
    refine lv_iload_n hx hb dX2_bidOf_21 rfl (lv_at hl 2 rfl) ?_
    obtain ⟨h3, hf⟩ := gi_some hf
    obtain ⟨u4, eu4, hf⟩ := lt_some hf
    refine g_iast (gs' := [scW a0 (a1 0) (a2 0), stW G a1 u4]) hx hb hK hP hD hS 1 3 0 rfl rfl rfl h3 dX2_bidOf_22 (by rw [eu4]; rfl) (fun H locs hP hD hS => ?_)
    refine lv_iconst (v := (1:Int32)) hx hb dX2_bidOf_23 (by decide) ?_
    cases hf
    exact g_zret hx hb hr gz1 hlocks hP hS dX2_bidOf_24
  · rw [if_pos c2] at hf
    refine lv_iconst (v := (0:Int32)) hx hb dX2_bidOf_11 (by decide) ?_
    cases hf
    exact g_zret hx hb hr gz0 hlocks hP hS dX2_bidOf_12
theorem kX2_succeeds_0 : Cond.fieldLink RX2 10 "SavingsCircle$Script" "state" "LSavingsCircle$State;" ∈ wsX2_succeeds := (List.mem_cons_of_mem _ (List.mem_append_left _ (List.mem_append_left _ (List.mem_append_left _ (List.mem_append_left _ (List.mem_of_getElem? (i := 0) rfl))))))
theorem kX2_succeeds_1 : Cond.fieldLink RX2 47 "SavingsCircle$State" "purse" "[I" ∈ wsX2_succeeds := (List.mem_cons_of_mem _ (List.mem_append_left _ (List.mem_append_left _ (List.mem_append_left _ (List.mem_append_left _ (List.mem_of_getElem? (i := 1) rfl))))))
theorem kX2_succeeds_2 : Cond.fieldLink RX2 55 "SavingsCircle$State" "taken" "[Z" ∈ wsX2_succeeds := (List.mem_cons_of_mem _ (List.mem_append_left _ (List.mem_append_left _ (List.mem_append_left _ (List.mem_append_left _ (List.mem_of_getElem? (i := 2) rfl))))))
theorem iwX2_succeeds_X2 : ∀ w ∈ wsX20, w ∈ wsX2_succeeds := fun w h => (List.mem_cons_of_mem _ (List.mem_append_left _ (List.mem_append_left _ (List.mem_append_right _ h))))
theorem iwX2_succeeds_X3 : ∀ w ∈ wsX30, w ∈ wsX2_succeeds := fun w h => (List.mem_cons_of_mem _ (List.mem_append_left _ (List.mem_append_right _ h)))
set_option maxHeartbeats 4000000 in
set_option maxRecDepth 100000 in
theorem c_X2_succeeds (l : Launch) (G : uG) (a0 : Nat → Nat) (a1 : Nat → Nat) (a2 : Nat → Nat) (v1 : StV) (v2 : RdV) (i1 : Int32) {q : Int32 × (StV × RdV)} (hf : f_X2_succeeds v1 v2 i1 = some q) : mQ l yX2_succeeds wsX2_succeeds ({ frames := 5, cells := 0, slots := 0, locals := 115 } : Room) G [.ref (a0 0), .int i1] [scW a0 (a1 0) (a2 0), stW G a1 v1, rdW G a2 v2] [scW a0 (a1 0) (a2 0), stW G a1 q.2.1, rdW G a2 q.2.2] (qI G [scW a0 (a1 0) (a2 0), stW G a1 q.2.1, rdW G a2 q.2.2] q.1) := by
  unfold f_X2_succeeds at hf
  refine m_of (cc := cX2_succeeds) (maxL := 7) (ret := (some .boolean)) (by decide) rfl rfl (Nat.le_of_ble_eq_true rfl) ?_
  intro p e s m args below meth c A ls S hK hA hP hD hS hl
  obtain ⟨hx, hb, hml, hown, hts, hr, hlocks⟩ := id S
  have hl : lv_has ls 7 [(0, .ref (a0 0)), (1, .int i1)] := hl
  refine lv_iload_n hx hb dX2_succeeds_0 rfl (lv_at hl 1 rfl) ?_
  refine lv_sipush (v := (10000:Int32)) hx hb dX2_succeeds_1 (by decide) ?_
  obtain ⟨h1, hf⟩ := gz_some hf
  refine lv_idiv hx hb dX2_succeeds_4 h1 ?_
  obtain ⟨x2, ex2, hf⟩ := lt_some hf
  refine lv_nmi ex2 ?_
  refine lv_istore_n (lv' := [(2, .int x2), (0, .ref (a0 0)), (1, .int i1)]) hx hb dX2_succeeds_5 rfl hl (by decide) rfl (fun ls hl => ?_)
  refine lv_iload_n hx hb dX2_succeeds_6 rfl (lv_at hl 2 rfl) ?_
  refine lv_sipush (v := (1000:Int32)) hx hb dX2_succeeds_7 (by decide) ?_
  obtain ⟨h3, hf⟩ := gz_some hf
  refine lv_idiv hx hb dX2_succeeds_10 h3 ?_
  refine lv_bipush (v := (10:Int32)) hx hb dX2_succeeds_11 (by decide) ?_
  obtain ⟨h4, hf⟩ := gz_some hf
  refine lv_irem hx hb dX2_succeeds_13 h4 ?_
  obtain ⟨x5, ex5, hf⟩ := lt_some hf
  refine lv_nmi ex5 ?_
  refine lv_istore_n (lv' := [(3, .int x5), (2, .int x2), (0, .ref (a0 0)), (1, .int i1)]) hx hb dX2_succeeds_14 rfl hl (by decide) rfl (fun ls hl => ?_)
  refine lv_iload_n hx hb dX2_succeeds_15 rfl (lv_at hl 3 rfl) ?_
  refine lv_bipush (v := (100:Int32)) hx hb dX2_succeeds_16 (by decide) ?_
  obtain ⟨h6, hf⟩ := gz_some hf
  refine lv_idiv hx hb dX2_succeeds_18 h6 ?_
  refine lv_bipush (v := (10:Int32)) hx hb dX2_succeeds_19 (by decide) ?_
  obtain ⟨h7, hf⟩ := gz_some hf
  refine lv_irem hx hb dX2_succeeds_21 h7 ?_
  obtain ⟨x8, ex8, hf⟩ := lt_some hf
  refine lv_nmi ex8 ?_
  refine lv_istore (lv' := [(4, .int x8), (3, .int x5), (2, .int x2), (0, .ref (a0 0)), (1, .int i1)]) hx hb dX2_succeeds_22 hl (by decide) rfl (fun ls hl => ?_)
  refine lv_iload_n hx hb dX2_succeeds_24 rfl (lv_at hl 4 rfl) ?_
  refine lv_sipush (v := (1000:Int32)) hx hb dX2_succeeds_25 (by decide) ?_
  obtain ⟨h9, hf⟩ := gz_some hf
  refine lv_irem hx hb dX2_succeeds_28 h9 ?_
  obtain ⟨x10, ex10, hf⟩ := lt_some hf
  refine lv_nmi ex10 ?_
  refine lv_istore (lv' := [(5, .int x10), (4, .int x8), (3, .int x5), (2, .int x2), (0, .ref (a0 0)), (1, .int i1)]) hx hb dX2_succeeds_29 hl (by decide) rfl (fun ls hl => ?_)
  refine lv_iload_n hx hb dX2_succeeds_31 rfl (lv_at hl 5 rfl) ?_
  refine lv_bipush (v := (100:Int32)) hx hb dX2_succeeds_32 (by decide) ?_
  obtain ⟨h11, hf⟩ := gz_some hf
  refine lv_irem hx hb dX2_succeeds_34 h11 ?_
  obtain ⟨x12, ex12, hf⟩ := lt_some hf
  refine lv_nmi ex12 ?_
  refine lv_istore (lv' := [(6, .int x12), (5, .int x10), (4, .int x8), (3, .int x5), (2, .int x2), (0, .ref (a0 0)), (1, .int i1)]) hx hb dX2_succeeds_35 hl (by decide) rfl (fun ls hl => ?_)
  refine lv_iload_n hx hb dX2_succeeds_37 rfl (lv_at hl 4 rfl) ?_
  refine lv_iconst (v := (1:Int32)) hx hb dX2_succeeds_38 (by decide) ?_
  refine lv_icmp_ne (tgt := 68) hx hb dX2_succeeds_39 (by decide) (fun c13 => ?_) (fun c13 => ?_)
  · rw [if_neg c13] at hf
    refine lv_aload_n hx hb dX2_succeeds_68 rfl (lv_at hl 5 rfl) ?_
    refine g_get (C := RX2) (T := TX2) (N := 2) hx hb hts iwX2_succeeds_X2 hown hK hP 0 0 rfl rfl rfl 0 (Nat.le_of_ble_eq_true rfl) (hts _ kX2_succeeds_0) (fun _ h9 => h9) rfl dX2_succeeds_69 ?_
    refine lv_iload_n hx hb dX2_succeeds_72 rfl (lv_at hl 3 rfl) ?_
    obtain ⟨q14, hq14, hf⟩ := bd_some hf
    refine g_callVi S (As := [.int x5]) (gs' := [scW a0 (a1 0) (a2 0), stW G a1 v1, rdW G a2 v2]) (c_X3_exists l G a1 v1 x5 hq14) (cwV 1 hts gX2_succeeds_X3_exists rfl rfl rfl hd_X3_exists ⟨Nat.le_of_ble_eq_true rfl, Nat.le_of_ble_eq_true rfl⟩) hK hP hD hS hA (is := [1]) rfl rfl 1 rfl rfl rfl rfl hl.1 rfl (Nat.le_of_ble_eq_true rfl) dX2_succeeds_73 ⟨Nat.le_of_ble_eq_true rfl, Nat.le_of_ble_eq_true rfl⟩ rfl (fun H locs hP hD hS => ?_)
    refine lv_if_ne (tgt := 81) hx hb dX2_succeeds_76 (by decide) (fun c15 => ?_) (fun c15 => ?_)
    · rw [if_neg c15] at hf
      refine lv_iload_n hx hb dX2_succeeds_81 rfl (lv_at hl 4 rfl) ?_
      by_cases c16 : x2 = (2:Int32)
      · rw [if_pos c16] at hf
        refine lv_tableIn (tgt := 128) hx hb dX2_succeeds_82 (by rw [c16]; decide) (by rw [c16]; decide) (by rw [c16]; rfl) (by decide) ?_
        refine lv_aload_n hx hb dX2_succeeds_128 rfl (lv_at hl 5 rfl) ?_
        refine lv_iload_n hx hb dX2_succeeds_129 rfl (lv_at hl 3 rfl) ?_
        refine lv_iload hx hb dX2_succeeds_130 (lv_at hl 1 rfl) ?_
        obtain ⟨q17, hq17, hf⟩ := bd_some hf
        refine g_callVi S (As := [.int x5, .int x10]) (gs' := [scW a0 (a1 0) (a2 0), stW G a1 q17.2, rdW G a2 v2]) (c_X2_bidOf l G a0 a1 a2 v1 x5 x10 hq17) (cwV 2 hts gX2_succeeds_X2_bidOf rfl rfl rfl hd_X2_bidOf ⟨Nat.le_of_ble_eq_true rfl, Nat.le_of_ble_eq_true rfl⟩) hK hP hD hS hA (is := [0, 1]) rfl rfl 0 rfl rfl rfl rfl hl.1 rfl (Nat.le_of_ble_eq_true rfl) dX2_succeeds_132 ⟨Nat.le_of_ble_eq_true rfl, Nat.le_of_ble_eq_true rfl⟩ rfl (fun H locs hP hD hS => ?_)
        obtain ⟨h18, hf⟩ := gb_some hf
        cases hf
        exact g_zret hx hb hr h18 hlocks hP hS dX2_succeeds_135
      · rw [if_neg c16] at hf
        by_cases c19 : x2 = (3:Int32)
        · rw [if_pos c19] at hf
          refine lv_tableIn (tgt := 136) hx hb dX2_succeeds_82 (by rw [c19]; decide) (by rw [c19]; decide) (by rw [c19]; rfl) (by decide) ?_
          refine lv_iload hx hb dX2_succeeds_136 (lv_at hl 0 rfl) ?_
          refine lv_if_ne (tgt := 155) hx hb dX2_succeeds_138 (by decide) (fun c20 => ?_) (fun c20 => ?_)
          · rw [if_neg c20] at hf
            refine lv_iconst (v := (0:Int32)) hx hb dX2_succeeds_155 (by decide) ?_
            cases hf
            exact g_zret hx hb hr gz0 hlocks hP hS dX2_succeeds_156
          · rw [if_pos c20] at hf
            refine lv_aload_n hx hb dX2_succeeds_141 rfl (lv_at hl 5 rfl) ?_
            refine lv_iload_n hx hb dX2_succeeds_142 rfl (lv_at hl 3 rfl) ?_
            refine lv_iload hx hb dX2_succeeds_143 (lv_at hl 2 rfl) ?_
            obtain ⟨q21, hq21, hf⟩ := bd_some hf
            refine g_callVi S (As := [.int x5, .int x8]) (gs' := [scW a0 (a1 0) (a2 0), stW G a1 q21.2, rdW G a2 v2]) (c_X2_guarantorOf l G a0 a1 a2 v1 x5 x8 hq21) (cwV 2 hts gX2_succeeds_X2_guarantorOf rfl rfl rfl hd_X2_guarantorOf ⟨Nat.le_of_ble_eq_true rfl, Nat.le_of_ble_eq_true rfl⟩) hK hP hD hS hA (is := [0, 1]) rfl rfl 0 rfl rfl rfl rfl hl.1 rfl (Nat.le_of_ble_eq_true rfl) dX2_succeeds_145 ⟨Nat.le_of_ble_eq_true rfl, Nat.le_of_ble_eq_true rfl⟩ rfl (fun H locs hP hD hS => ?_)
            refine lv_if_eq (tgt := 155) hx hb dX2_succeeds_148 (by decide) (fun c22 => ?_) (fun c22 => ?_)
            · rw [if_pos c22] at hf
              refine lv_iconst (v := (0:Int32)) hx hb dX2_succeeds_155 (by decide) ?_
              cases hf
              exact g_zret hx hb hr gz0 hlocks hP hS dX2_succeeds_156
            · rw [if_neg c22] at hf
              refine lv_iconst (v := (1:Int32)) hx hb dX2_succeeds_151 (by decide) ?_
              refine lv_goto (tgt := 156) hx hb dX2_succeeds_152 (by decide) ?_
              cases hf
              exact g_zret hx hb hr gz1 hlocks hP hS dX2_succeeds_156
        · rw [if_neg c19] at hf
          by_cases c23 : x2 = (4:Int32)
          · rw [if_pos c23] at hf
            refine lv_tableIn (tgt := 157) hx hb dX2_succeeds_82 (by rw [c23]; decide) (by rw [c23]; decide) (by rw [c23]; rfl) (by decide) ?_
            refine lv_iload hx hb dX2_succeeds_157 (lv_at hl 0 rfl) ?_
            refine lv_if_ne (tgt := 191) hx hb dX2_succeeds_159 (by decide) (fun c24 => ?_) (fun c24 => ?_)
            · rw [if_neg c24] at hf
              refine lv_iconst (v := (0:Int32)) hx hb dX2_succeeds_191 (by decide) ?_
              cases hf
              exact g_zret hx hb hr gz0 hlocks hP hS dX2_succeeds_192
            · rw [if_pos c24] at hf
              refine lv_iload hx hb dX2_succeeds_162 (lv_at hl 2 rfl) ?_
              refine lv_iconst (v := (1:Int32)) hx hb dX2_succeeds_164 (by decide) ?_
              refine lv_icmp_gt (tgt := 191) hx hb dX2_succeeds_165 (by decide) (fun c25 => ?_) (fun c25 => ?_)
              · rw [if_pos c25] at hf
                refine lv_iconst (v := (0:Int32)) hx hb dX2_succeeds_191 (by decide) ?_
                cases hf
                exact g_zret hx hb hr gz0 hlocks hP hS dX2_succeeds_192
              · rw [if_neg c25] at hf
                refine lv_aload_n hx hb dX2_succeeds_168 rfl (lv_at hl 5 rfl) ?_
                refine lv_iload_n hx hb dX2_succeeds_169 rfl (lv_at hl 3 rfl) ?_
                refine lv_iload hx hb dX2_succeeds_170 (lv_at hl 2 rfl) ?_
                refine lv_iconst (v := (1:Int32)) hx hb dX2_succeeds_172 (by decide) ?_
                refine lv_icmp_ne (tgt := 180) hx hb dX2_succeeds_173 (by decide) (fun c26 => ?_) (fun c26 => ?_)
                · rw [if_neg c26] at hf
                  refine lv_iconst (v := (0:Int32)) hx hb dX2_succeeds_180 (by decide) ?_
                  obtain ⟨q27, hq27, hf⟩ := bd_some hf
                  refine g_callVi S (As := [.int x5, .int (0:Int32)]) (gs' := [scW a0 (a1 0) (a2 0), stW G a1 q27.2, rdW G a2 v2]) (c_X2_markOf l G a0 a1 a2 v1 x5 (0:Int32) hq27) (cwV 2 hts gX2_succeeds_X2_markOf rfl rfl rfl hd_X2_markOf ⟨Nat.le_of_ble_eq_true rfl, Nat.le_of_ble_eq_true rfl⟩) hK hP hD hS hA (is := [0, 1]) rfl rfl 0 rfl rfl rfl rfl hl.1 rfl (Nat.le_of_ble_eq_true rfl) dX2_succeeds_181 ⟨Nat.le_of_ble_eq_true rfl, Nat.le_of_ble_eq_true rfl⟩ rfl (fun H locs hP hD hS => ?_)
                  refine lv_if_eq (tgt := 191) hx hb dX2_succeeds_184 (by decide) (fun c28 => ?_) (fun c28 => ?_)
                  · rw [if_pos c28] at hf
                    refine lv_iconst (v := (0:Int32)) hx hb dX2_succeeds_191 (by decide) ?_
                    cases hf
                    exact g_zret hx hb hr gz0 hlocks hP hS dX2_succeeds_192
                  · rw [if_neg c28] at hf
                    refine lv_iconst (v := (1:Int32)) hx hb dX2_succeeds_187 (by decide) ?_
                    refine lv_goto (tgt := 192) hx hb dX2_succeeds_188 (by decide) ?_
                    cases hf
                    exact g_zret hx hb hr gz1 hlocks hP hS dX2_succeeds_192
                · rw [if_pos c26] at hf
                  refine lv_iconst (v := (1:Int32)) hx hb dX2_succeeds_176 (by decide) ?_
                  refine lv_goto (tgt := 181) hx hb dX2_succeeds_177 (by decide) ?_
                  obtain ⟨q29, hq29, hf⟩ := bd_some hf
                  refine g_callVi S (As := [.int x5, .int (1:Int32)]) (gs' := [scW a0 (a1 0) (a2 0), stW G a1 q29.2, rdW G a2 v2]) (c_X2_markOf l G a0 a1 a2 v1 x5 (1:Int32) hq29) (cwV 2 hts gX2_succeeds_X2_markOf rfl rfl rfl hd_X2_markOf ⟨Nat.le_of_ble_eq_true rfl, Nat.le_of_ble_eq_true rfl⟩) hK hP hD hS hA (is := [0, 1]) rfl rfl 0 rfl rfl rfl rfl hl.1 rfl (Nat.le_of_ble_eq_true rfl) dX2_succeeds_181 ⟨Nat.le_of_ble_eq_true rfl, Nat.le_of_ble_eq_true rfl⟩ rfl (fun H locs hP hD hS => ?_)
                  refine lv_if_eq (tgt := 191) hx hb dX2_succeeds_184 (by decide) (fun c30 => ?_) (fun c30 => ?_)
                  · rw [if_pos c30] at hf
                    refine lv_iconst (v := (0:Int32)) hx hb dX2_succeeds_191 (by decide) ?_
                    cases hf
                    exact g_zret hx hb hr gz0 hlocks hP hS dX2_succeeds_192
                  · rw [if_neg c30] at hf
                    refine lv_iconst (v := (1:Int32)) hx hb dX2_succeeds_187 (by decide) ?_
                    refine lv_goto (tgt := 192) hx hb dX2_succeeds_188 (by decide) ?_
                    cases hf
                    exact g_zret hx hb hr gz1 hlocks hP hS dX2_succeeds_192
          · rw [if_neg c23] at hf
            by_cases c31 : x2 = (5:Int32)
            · rw [if_pos c31] at hf
              refine lv_tableIn (tgt := 193) hx hb dX2_succeeds_82 (by rw [c31]; decide) (by rw [c31]; decide) (by rw [c31]; rfl) (by decide) ?_
              refine lv_aload_n hx hb dX2_succeeds_193 rfl (lv_at hl 5 rfl) ?_
              refine lv_iload_n hx hb dX2_succeeds_194 rfl (lv_at hl 3 rfl) ?_
              refine lv_iload hx hb dX2_succeeds_195 (lv_at hl 1 rfl) ?_
              obtain ⟨q32, hq32, hf⟩ := bd_some hf
              refine g_callVi S (As := [.int x5, .int x10]) (gs' := [scW a0 (a1 0) (a2 0), stW G a1 q32.2, rdW G a2 v2]) (c_X2_gift l G a0 a1 a2 v1 x5 x10 hq32) (cwV 2 hts gX2_succeeds_X2_gift rfl rfl rfl hd_X2_gift ⟨Nat.le_of_ble_eq_true rfl, Nat.le_of_ble_eq_true rfl⟩) hK hP hD hS hA (is := [0, 1]) rfl rfl 0 rfl rfl rfl rfl hl.1 rfl (Nat.le_of_ble_eq_true rfl) dX2_succeeds_197 ⟨Nat.le_of_ble_eq_true rfl, Nat.le_of_ble_eq_true rfl⟩ rfl (fun H locs hP hD hS => ?_)
              obtain ⟨h33, hf⟩ := gb_some hf
              cases hf
              exact g_zret hx hb hr h33 hlocks hP hS dX2_succeeds_200
            · rw [if_neg c31] at hf
              by_cases c34 : x2 = (6:Int32)
              · rw [if_pos c34] at hf
                refine lv_tableIn (tgt := 201) hx hb dX2_succeeds_82 (by rw [c34]; decide) (by rw [c34]; decide) (by rw [c34]; rfl) (by decide) ?_
                refine lv_iload hx hb dX2_succeeds_201 (lv_at hl 1 rfl) ?_
                refine lv_if_ne (tgt := 218) hx hb dX2_succeeds_203 (by decide) (fun c35 => ?_) (fun c35 => ?_)
                · rw [if_neg c35] at hf
                  refine lv_iconst (v := (0:Int32)) hx hb dX2_succeeds_218 (by decide) ?_
                  cases hf
                  exact g_zret hx hb hr gz0 hlocks hP hS dX2_succeeds_219
                · rw [if_pos c35] at hf
                  refine lv_aload_n hx hb dX2_succeeds_206 rfl (lv_at hl 5 rfl) ?_
                  refine lv_iload_n hx hb dX2_succeeds_207 rfl (lv_at hl 3 rfl) ?_
                  obtain ⟨q36, hq36, hf⟩ := bd_some hf
                  refine g_callVi S (As := [.int x5]) (gs' := [scW a0 (a1 0) (a2 0), stW G a1 q36.2, rdW G a2 v2]) (c_X2_going l G a0 a1 a2 v1 x5 hq36) (cwV 1 hts gX2_succeeds_X2_going rfl rfl rfl hd_X2_going ⟨Nat.le_of_ble_eq_true rfl, Nat.le_of_ble_eq_true rfl⟩) hK hP hD hS hA (is := [0, 1]) rfl rfl 0 rfl rfl rfl rfl hl.1 rfl (Nat.le_of_ble_eq_true rfl) dX2_succeeds_208 ⟨Nat.le_of_ble_eq_true rfl, Nat.le_of_ble_eq_true rfl⟩ rfl (fun H locs hP hD hS => ?_)
                  refine lv_if_eq (tgt := 218) hx hb dX2_succeeds_211 (by decide) (fun c37 => ?_) (fun c37 => ?_)
                  · rw [if_pos c37] at hf
                    refine lv_iconst (v := (0:Int32)) hx hb dX2_succeeds_218 (by decide) ?_
                    cases hf
                    exact g_zret hx hb hr gz0 hlocks hP hS dX2_succeeds_219
                  · rw [if_neg c37] at hf
                    refine lv_iconst (v := (1:Int32)) hx hb dX2_succeeds_214 (by decide) ?_
                    refine lv_goto (tgt := 219) hx hb dX2_succeeds_215 (by decide) ?_
                    cases hf
                    exact g_zret hx hb hr gz1 hlocks hP hS dX2_succeeds_219
              · rw [if_neg c34] at hf
                by_cases c38 : x2 = (7:Int32)
                · rw [if_pos c38] at hf
                  refine lv_tableIn (tgt := 220) hx hb dX2_succeeds_82 (by rw [c38]; decide) (by rw [c38]; decide) (by rw [c38]; rfl) (by decide) ?_
                  refine lv_aload_n hx hb dX2_succeeds_220 rfl (lv_at hl 5 rfl) ?_
                  refine g_get (C := RX2) (T := TX2) (N := 2) hx hb hts iwX2_succeeds_X2 hown hK hP 0 0 rfl rfl rfl 0 (Nat.le_of_ble_eq_true rfl) (hts _ kX2_succeeds_0) (fun _ h9 => h9) rfl dX2_succeeds_221 ?_
                  refine g_get (C := RX3) (T := TX3) (N := 17) hx hb hts iwX2_succeeds_X3 hown hK hP 1 0 rfl rfl rfl 5 (Nat.le_of_ble_eq_true rfl) (hts _ kX2_succeeds_1) (fun _ h9 => h9) rfl dX2_succeeds_224 ?_
                  refine lv_iload_n hx hb dX2_succeeds_227 rfl (lv_at hl 3 rfl) ?_
                  obtain ⟨h39, hf⟩ := gi_some hf
                  refine g_iald hx hb hK hP 1 1 0 rfl rfl rfl h39 dX2_succeeds_228 ?_
                  refine lv_iload hx hb dX2_succeeds_229 (lv_at hl 1 rfl) ?_
                  refine lv_icmp_lt (tgt := 238) hx hb dX2_succeeds_231 (by decide) (fun c40 => ?_) (fun c40 => ?_)
                  · rw [if_pos c40] at hf
                    refine lv_iconst (v := (0:Int32)) hx hb dX2_succeeds_238 (by decide) ?_
                    cases hf
                    exact g_zret hx hb hr gz0 hlocks hP hS dX2_succeeds_239
                  · rw [if_neg c40] at hf
                    refine lv_iconst (v := (1:Int32)) hx hb dX2_succeeds_234 (by decide) ?_
                    refine lv_goto (tgt := 239) hx hb dX2_succeeds_235 (by decide) ?_
                    cases hf
                    exact g_zret hx hb hr gz1 hlocks hP hS dX2_succeeds_239
                · rw [if_neg c38] at hf
                  by_cases c41 : x2 = (8:Int32)
                  · rw [if_pos c41] at hf
                    refine lv_tableIn (tgt := 240) hx hb dX2_succeeds_82 (by rw [c41]; decide) (by rw [c41]; decide) (by rw [c41]; rfl) (by decide) ?_
                    refine lv_aload_n hx hb dX2_succeeds_240 rfl (lv_at hl 5 rfl) ?_
                    refine lv_iload_n hx hb dX2_succeeds_241 rfl (lv_at hl 3 rfl) ?_
                    refine lv_iload hx hb dX2_succeeds_242 (lv_at hl 2 rfl) ?_
                    refine lv_iload hx hb dX2_succeeds_244 (lv_at hl 0 rfl) ?_
                    obtain ⟨q42, hq42, hf⟩ := bd_some hf
                    refine g_callVi S (As := [.int x5, .int x8, .int x12]) (gs' := [scW a0 (a1 0) (a2 0), stW G a1 v1, rdW G a2 v2]) (c_X2_owesAtMost l G a0 a1 a2 v1 x5 x8 x12 hq42) (cwV 3 hts gX2_succeeds_X2_owesAtMost rfl rfl rfl hd_X2_owesAtMost ⟨Nat.le_of_ble_eq_true rfl, Nat.le_of_ble_eq_true rfl⟩) hK hP hD hS hA (is := [0, 1]) rfl rfl 0 rfl rfl rfl rfl hl.1 rfl (Nat.le_of_ble_eq_true rfl) dX2_succeeds_246 ⟨Nat.le_of_ble_eq_true rfl, Nat.le_of_ble_eq_true rfl⟩ rfl (fun H locs hP hD hS => ?_)
                    obtain ⟨h43, hf⟩ := gb_some hf
                    cases hf
                    exact g_zret hx hb hr h43 hlocks hP hS dX2_succeeds_249
                  · rw [if_neg c41] at hf
                    by_cases c44 : x2 = (9:Int32)
                    · rw [if_pos c44] at hf
                      refine lv_tableIn (tgt := 250) hx hb dX2_succeeds_82 (by rw [c44]; decide) (by rw [c44]; decide) (by rw [c44]; rfl) (by decide) ?_
                      refine lv_iload hx hb dX2_succeeds_250 (lv_at hl 1 rfl) ?_
                      refine lv_if_ne (tgt := 271) hx hb dX2_succeeds_252 (by decide) (fun c45 => ?_) (fun c45 => ?_)
                      · rw [if_neg c45] at hf
                        refine lv_iconst (v := (0:Int32)) hx hb dX2_succeeds_271 (by decide) ?_
                        cases hf
                        exact g_zret hx hb hr gz0 hlocks hP hS dX2_succeeds_272
                      · rw [if_pos c45] at hf
                        refine lv_aload_n hx hb dX2_succeeds_255 rfl (lv_at hl 5 rfl) ?_
                        refine g_get (C := RX2) (T := TX2) (N := 2) hx hb hts iwX2_succeeds_X2 hown hK hP 0 0 rfl rfl rfl 0 (Nat.le_of_ble_eq_true rfl) (hts _ kX2_succeeds_0) (fun _ h9 => h9) rfl dX2_succeeds_256 ?_
                        refine g_get (C := RX3) (T := TX3) (N := 17) hx hb hts iwX2_succeeds_X3 hown hK hP 1 0 rfl rfl rfl 9 (Nat.le_of_ble_eq_true rfl) (hts _ kX2_succeeds_2) (fun _ h9 => h9) rfl dX2_succeeds_259 ?_
                        refine lv_iload_n hx hb dX2_succeeds_262 rfl (lv_at hl 3 rfl) ?_
                        obtain ⟨h46, hf⟩ := gi_some hf
                        refine g_zald hx hb hK hP 1 5 1 rfl rfl rfl h46 dX2_succeeds_263 ?_
                        refine lv_if_eq (tgt := 271) hx hb dX2_succeeds_264 (by decide) (fun c47 => ?_) (fun c47 => ?_)
                        · rw [if_pos c47] at hf
                          refine lv_iconst (v := (0:Int32)) hx hb dX2_succeeds_271 (by decide) ?_
                          cases hf
                          exact g_zret hx hb hr gz0 hlocks hP hS dX2_succeeds_272
                        · rw [if_neg c47] at hf
                          refine lv_iconst (v := (1:Int32)) hx hb dX2_succeeds_267 (by decide) ?_
                          refine lv_goto (tgt := 272) hx hb dX2_succeeds_268 (by decide) ?_
                          cases hf
                          exact g_zret hx hb hr gz1 hlocks hP hS dX2_succeeds_272
                    · rw [if_neg c44] at hf
                      refine lv_tableOut (tgt := 273) hx hb dX2_succeeds_82 (by have n2 := lv_neT c16 (a := 2) (by decide); have n3 := lv_neT c19 (a := 3) (by decide); have n4 := lv_neT c23 (a := 4) (by decide); have n5 := lv_neT c31 (a := 5) (by decide); have n6 := lv_neT c34 (a := 6) (by decide); have n7 := lv_neT c38 (a := 7) (by decide); have n8 := lv_neT c41 (a := 8) (by decide); have n9 := lv_neT c44 (a := 9) (by decide); omega) (by decide) ?_
                      refine lv_iconst (v := (0:Int32)) hx hb dX2_succeeds_273 (by decide) ?_
                      cases hf
                      exact g_zret hx hb hr gz0 hlocks hP hS dX2_succeeds_274
    · rw [if_pos c15] at hf
      refine lv_iconst (v := (0:Int32)) hx hb dX2_succeeds_79 (by decide) ?_
      cases hf
      exact g_zret hx hb hr gz0 hlocks hP hS dX2_succeeds_80
  · rw [if_pos c13] at hf
    refine lv_iload_n hx hb dX2_succeeds_42 rfl (lv_at hl 3 rfl) ?_
    refine lv_if_ne (tgt := 66) hx hb dX2_succeeds_43 (by decide) (fun c48 => ?_) (fun c48 => ?_)
    · rw [if_neg c48] at hf
      refine lv_iconst (v := (0:Int32)) hx hb dX2_succeeds_66 (by decide) ?_
      cases hf
      exact g_zret hx hb hr gz0 hlocks hP hS dX2_succeeds_67
    · rw [if_pos c48] at hf
      refine lv_iload hx hb dX2_succeeds_46 (lv_at hl 1 rfl) ?_
      refine lv_bipush (v := (10:Int32)) hx hb dX2_succeeds_48 (by decide) ?_
      refine lv_icmp_ge (tgt := 66) hx hb dX2_succeeds_50 (by decide) (fun c49 => ?_) (fun c49 => ?_)
      · rw [if_pos c49] at hf
        refine lv_iconst (v := (0:Int32)) hx hb dX2_succeeds_66 (by decide) ?_
        cases hf
        exact g_zret hx hb hr gz0 hlocks hP hS dX2_succeeds_67
      · rw [if_neg c49] at hf
        refine lv_aload_n hx hb dX2_succeeds_53 rfl (lv_at hl 5 rfl) ?_
        refine lv_iload hx hb dX2_succeeds_54 (lv_at hl 1 rfl) ?_
        obtain ⟨q50, hq50, hf⟩ := bd_some hf
        refine g_callVi S (As := [.int x10]) (gs' := [scW a0 (a1 0) (a2 0), stW G a1 q50.2.1, rdW G a2 q50.2.2]) (c_X2_monthsPass l G a0 a1 a2 v1 v2 x10 hq50) (cwV 1 hts gX2_succeeds_X2_monthsPass rfl rfl rfl hd_X2_monthsPass ⟨Nat.le_of_ble_eq_true rfl, Nat.le_of_ble_eq_true rfl⟩) hK hP hD hS hA (is := [0, 1, 2]) rfl rfl 0 rfl rfl rfl rfl hl.1 rfl (Nat.le_of_ble_eq_true rfl) dX2_succeeds_56 ⟨Nat.le_of_ble_eq_true rfl, Nat.le_of_ble_eq_true rfl⟩ rfl (fun H locs hP hD hS => ?_)
        refine lv_if_eq (tgt := 66) hx hb dX2_succeeds_59 (by decide) (fun c51 => ?_) (fun c51 => ?_)
        · rw [if_pos c51] at hf
          refine lv_iconst (v := (0:Int32)) hx hb dX2_succeeds_66 (by decide) ?_
          cases hf
          exact g_zret hx hb hr gz0 hlocks hP hS dX2_succeeds_67
        · rw [if_neg c51] at hf
          refine lv_iconst (v := (1:Int32)) hx hb dX2_succeeds_62 (by decide) ?_
          refine lv_goto (tgt := 67) hx hb dX2_succeeds_63 (by decide) ?_
          cases hf
          exact g_zret hx hb hr gz1 hlocks hP hS dX2_succeeds_67
